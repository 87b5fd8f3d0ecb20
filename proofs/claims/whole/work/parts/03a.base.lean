/-! Rows over the machine, in integers: an int of the machine is Int32.ofInt z, a long Int64.ofInt z, the contents of an array a function of an Int. -/
abbrev vI (z : Int) : Value := Value.int (Int32.ofInt z)
abbrev vJ (z : Int) : Value := Value.long (Int64.ofInt z)
abbrev in32 (z : Int) : Prop := -2147483648 ≤ z ∧ z ≤ 2147483647
abbrev in64 (z : Int) : Prop := -9223372036854775808 ≤ z ∧ z ≤ 9223372036854775807
theorem xi_to {z : Int} (h : in32 z) : (Int32.ofInt z).toInt = z := by
  rw [Int32.toInt_ofInt]
  exact Int.bmod_eq_of_le (by have := h.1; simp only [Int32.size]; omega) (by have := h.2; simp only [Int32.size]; omega)
theorem xj_to {z : Int} (h : in64 z) : (Int64.ofInt z).toInt = z := by
  rw [Int64.toInt_ofInt]
  exact Int.bmod_eq_of_le (by have := h.1; simp only [Int64.size]; omega) (by have := h.2; simp only [Int64.size]; omega)
theorem xi_eq {a b : Int} (ha : in32 a) (hb : in32 b) : Int32.ofInt a = Int32.ofInt b ↔ a = b := by
  rw [← Int32.toInt_inj, xi_to ha, xi_to hb]
theorem xi_lt {a b : Int} (ha : in32 a) (hb : in32 b) : Int32.ofInt a < Int32.ofInt b ↔ a < b := by
  rw [Int32.lt_iff_toInt_lt, xi_to ha, xi_to hb]
theorem xi_le {a b : Int} (ha : in32 a) (hb : in32 b) : Int32.ofInt a ≤ Int32.ofInt b ↔ a ≤ b := by
  rw [Int32.le_iff_toInt_le, xi_to ha, xi_to hb]
theorem xj_eq {a b : Int} (ha : in64 a) (hb : in64 b) : Int64.ofInt a = Int64.ofInt b ↔ a = b := by
  rw [← Int64.toInt_inj, xj_to ha, xj_to hb]
theorem xj_lt {a b : Int} (ha : in64 a) (hb : in64 b) : Int64.ofInt a < Int64.ofInt b ↔ a < b := by
  rw [Int64.lt_iff_toInt_lt, xj_to ha, xj_to hb]
theorem xj_le {a b : Int} (ha : in64 a) (hb : in64 b) : Int64.ofInt a ≤ Int64.ofInt b ↔ a ≤ b := by
  rw [Int64.le_iff_toInt_le, xj_to ha, xj_to hb]
theorem xj_z : (0 : Int64) = Int64.ofInt 0 := by decide
theorem xi_z : (0 : Int32) = Int32.ofInt 0 := by decide
theorem xi_of (x : Int32) : x = Int32.ofInt x.toInt := (Int32.ofInt_toInt x).symm
theorem xi_rng (x : Int32) : in32 x.toInt := by
  have h1 := Int32.le_toInt x
  have h2 := Int32.toInt_lt x
  constructor <;> omega
theorem xi_neg {a : Int} : Int32.ofInt (-a) = -Int32.ofInt a := Int32.ofInt_neg a
theorem xi_add (a b : Int) : Int32.ofInt a + Int32.ofInt b = Int32.ofInt (a + b) := (Int32.ofInt_add a b).symm
theorem xi_mul (a b : Int) : Int32.ofInt a * Int32.ofInt b = Int32.ofInt (a * b) := (Int32.ofInt_mul a b).symm
theorem xi_sub (a b : Int) : Int32.ofInt a - Int32.ofInt b = Int32.ofInt (a - b) := by
  rw [Int32.sub_eq_add_neg, ← xi_neg, xi_add, Int.sub_eq_add_neg]
theorem xj_neg {a : Int} : Int64.ofInt (-a) = -Int64.ofInt a := Int64.ofInt_neg a
theorem xj_add (a b : Int) : Int64.ofInt a + Int64.ofInt b = Int64.ofInt (a + b) := (Int64.ofInt_add a b).symm
theorem xj_mul (a b : Int) : Int64.ofInt a * Int64.ofInt b = Int64.ofInt (a * b) := (Int64.ofInt_mul a b).symm
theorem xj_sub (a b : Int) : Int64.ofInt a - Int64.ofInt b = Int64.ofInt (a - b) := by
  rw [Int64.sub_eq_add_neg, ← xj_neg, xj_add, Int.sub_eq_add_neg]
theorem xi_l {a : Int} (h : in32 a) : (Int32.ofInt a).toInt64 = Int64.ofInt a := by
  apply Int64.toInt_inj.mp
  rw [Int32.toInt_toInt64, xi_to h, xj_to ⟨by have := h.1; omega, by have := h.2; omega⟩]
theorem xj_i {a : Int} (h : in32 a) : (Int64.ofInt a).toInt32 = Int32.ofInt a := by
  apply Int32.toInt_inj.mp
  rw [Int64.toInt_toInt32, xi_to h, xj_to ⟨by have := h.1; omega, by have := h.2; omega⟩]
  exact Int.bmod_eq_of_le (by have := h.1; omega) (by have := h.2; omega)
theorem xi_div {a b : Int} (ha : 0 ≤ a ∧ a ≤ 2147483647) (hb : 0 < b ∧ b ≤ 2147483647) : Int32.ofInt a / Int32.ofInt b = Int32.ofInt (a / b) := by
  have h1 : 0 ≤ a / b := Int.ediv_nonneg ha.1 (by omega)
  have h2 : a / b ≤ a := Int.ediv_le_self b ha.1
  apply Int32.toInt_inj.mp
  rw [lg_idiv_nonneg (by rw [xi_to ⟨by omega, by omega⟩]; omega) (by rw [xi_to ⟨by omega, by omega⟩]; omega), xi_to ⟨by omega, by omega⟩, xi_to ⟨by omega, by omega⟩, xi_to ⟨by omega, by omega⟩]
theorem xj_div {a b : Int} (ha : 0 ≤ a ∧ a ≤ 9223372036854775807) (hb : 0 < b ∧ b ≤ 9223372036854775807) : Int64.ofInt a / Int64.ofInt b = Int64.ofInt (a / b) := by
  have h1 : 0 ≤ a / b := Int.ediv_nonneg ha.1 (by omega)
  have h2 : a / b ≤ a := Int.ediv_le_self b ha.1
  apply Int64.toInt_inj.mp
  rw [lg_ldiv_nonneg (by rw [xj_to ⟨by omega, by omega⟩]; omega) (by rw [xj_to ⟨by omega, by omega⟩]; omega), xj_to ⟨by omega, by omega⟩, xj_to ⟨by omega, by omega⟩, xj_to ⟨by omega, by omega⟩]
theorem xj_rem {a b : Int} (ha : 0 ≤ a ∧ a ≤ 9223372036854775807) (hb : 0 < b ∧ b ≤ 9223372036854775807) : Int64.ofInt a - Int64.ofInt a / Int64.ofInt b * Int64.ofInt b = Int64.ofInt (a % b) := by
  rw [xj_div ha hb, xj_mul, xj_sub]
  congr 1
  rw [Int.emod_def, Int.mul_comm b]
theorem xi_cl {i : Int} (h : 0 ≤ i) (h2 : i ≤ 2147483647) : ((Int32.ofInt i).toNatClampNeg : Int) = i := by
  have : (Int32.ofInt i).toNatClampNeg = (Int32.ofInt i).toInt.toNat := rfl
  rw [this, xi_to ⟨by omega, h2⟩]
  omega
theorem xi_in {i : Int} {n : Nat} (h : 0 ≤ i ∧ i < n) (h2 : i ≤ 2147483647) : vp_in (Int32.ofInt i) n := by
  intro q
  have e := xi_cl h.1 h2
  rcases q with q | q
  · rw [Int32.lt_iff_toInt_lt, xi_to ⟨by omega, h2⟩] at q
    have : (0 : Int32).toInt = 0 := by decide
    omega
  · omega
theorem xj_cmp {a b : Int} (ha : in64 a) (hb : in64 b) : ∃ z : Int, lg_cmp (Int64.ofInt a) (Int64.ofInt b) = Int32.ofInt z ∧ ((a < b ∧ z = -1) ∨ (a = b ∧ z = 0) ∨ (b < a ∧ z = 1)) := by
  unfold lg_cmp
  by_cases h1 : b < a
  · exact ⟨1, by rw [if_pos (show Int64.ofInt a > Int64.ofInt b from (xj_lt hb ha).mpr h1)]; decide, by omega⟩
  · rw [if_neg (show ¬ Int64.ofInt a > Int64.ofInt b from fun q => h1 ((xj_lt hb ha).mp q))]
    by_cases h2 : a = b
    · exact ⟨0, by rw [if_pos (by rw [h2])]; decide, by omega⟩
    · exact ⟨-1, by rw [if_neg (fun q => h2 ((xj_eq ha hb).mp q))]; decide, by omega⟩
theorem xi_and {a b : Int} (ha : 0 ≤ a ∧ a ≤ 2147483647) (hb : 0 ≤ b ∧ b ≤ 2147483647) : Int32.ofInt a &&& Int32.ofInt b = Int32.ofInt ((a.toNat &&& b.toNat : Nat) : Int) := by
  obtain ⟨x, rfl⟩ : ∃ x : Nat, a = x := ⟨a.toNat, by omega⟩
  obtain ⟨y, rfl⟩ : ∃ x : Nat, b = x := ⟨b.toNat, by omega⟩
  simp only [Int.toNat_natCast]
  apply Int32.toBitVec_inj.mp
  rw [Int32.toBitVec_and]
  show BitVec.ofInt 32 _ &&& BitVec.ofInt 32 _ = BitVec.ofInt 32 _
  rw [BitVec.ofInt_natCast, BitVec.ofInt_natCast, BitVec.ofInt_natCast]
  apply BitVec.eq_of_toNat_eq
  rw [BitVec.toNat_and, BitVec.toNat_ofNat, BitVec.toNat_ofNat, BitVec.toNat_ofNat]
  have h1 : x < 2 ^ 32 := by omega
  have h2 : y < 2 ^ 32 := by omega
  rw [Nat.mod_eq_of_lt h1, Nat.mod_eq_of_lt h2, Nat.mod_eq_of_lt (Nat.and_lt_two_pow x h2)]
theorem xi_or {a b : Int} (ha : 0 ≤ a ∧ a ≤ 2147483647) (hb : 0 ≤ b ∧ b ≤ 2147483647) : Int32.ofInt a ||| Int32.ofInt b = Int32.ofInt ((a.toNat ||| b.toNat : Nat) : Int) := by
  obtain ⟨x, rfl⟩ : ∃ x : Nat, a = x := ⟨a.toNat, by omega⟩
  obtain ⟨y, rfl⟩ : ∃ x : Nat, b = x := ⟨b.toNat, by omega⟩
  simp only [Int.toNat_natCast]
  apply Int32.toBitVec_inj.mp
  rw [Int32.toBitVec_or]
  show BitVec.ofInt 32 _ ||| BitVec.ofInt 32 _ = BitVec.ofInt 32 _
  rw [BitVec.ofInt_natCast, BitVec.ofInt_natCast, BitVec.ofInt_natCast]
  apply BitVec.eq_of_toNat_eq
  rw [BitVec.toNat_or, BitVec.toNat_ofNat, BitVec.toNat_ofNat, BitVec.toNat_ofNat]
  have h1 : x < 2 ^ 32 := by omega
  have h2 : y < 2 ^ 32 := by omega
  rw [Nat.mod_eq_of_lt h1, Nat.mod_eq_of_lt h2, Nat.mod_eq_of_lt (Nat.or_lt_two_pow h1 h2)]
theorem xi_shl1 {o : Int} (h : 0 ≤ o ∧ o ≤ 4) : Int32.ofInt 1 <<< (Int32.ofInt o &&& 31) = Int32.ofInt ((2 ^ o.toNat : Nat) : Int) := by
  rcases (show o = 0 ∨ o = 1 ∨ o = 2 ∨ o = 3 ∨ o = 4 by omega) with rfl | rfl | rfl | rfl | rfl <;> decide
/-- f, but x at k -/
def zu (f : Int → Int) (k x : Int) : Int → Int := fun j => if j = k then x else f j
theorem zu_s {f : Int → Int} {k x : Int} : zu f k x k = x := if_pos rfl
theorem zu_n {f : Int → Int} {k x j : Int} (h : j ≠ k) : zu f k x j = f j := if_neg h
theorem zu_e {f : Int → Int} {k x j : Int} : zu f k x j = if j = k then x else f j := rfl
/-- f, but what lies from dp to dp+n is g's from sp on -/
def zc (g f : Int → Int) (sp dp n : Int) : Int → Int := fun j => if dp ≤ j ∧ j < dp + n then g (sp + (j - dp)) else f j
-- the kinds of cells: an object, an int row, a long row, a row of booleans, of Rings, of int rows
abbrev aI (ca : Nat → ClassId) (n : Nat) (f : Int → Int) : va_E := .inl (ca 0, n, .inl (fun j : Nat => Int32.ofInt (f (j : Int))))
abbrev aJ (ca : Nat → ClassId) (n : Nat) (f : Int → Int) : va_E := .inl (ca 1, n, .inr (.inl (fun j : Nat => Int64.ofInt (f (j : Int)))))
abbrev aZ (ca : Nat → ClassId) (n : Nat) (f : Int → Int) : va_E := .inl (ca 2, n, .inl (fun j : Nat => Int32.ofInt (f (j : Int))))
abbrev aR (ca : Nat → ClassId) (n : Nat) (f : Nat → Option Nat) : va_E := .inl (ca 3, n, .inr (.inr (.inr (.inr f))))
abbrev aQ (ca : Nat → ClassId) (n : Nat) (f : Nat → Option Nat) : va_E := .inl (ca 4, n, .inr (.inr (.inr (.inr f))))
abbrev oB (ci : Nat) (fs : List Value) : va_E := .inr (ci, fs)
/-- the array classes -/
def zT (ca : Nat → ClassId) : List (ClassId × FieldType) := [(ca 0, .int), (ca 1, .long), (ca 2, .boolean), (ca 3, .object RX6), (ca 4, .array .int)]
def va_AOA (ty : FieldType) (U : State) : Prop := (Cond.arrayOver (.array ty)).before #[] U = true
theorem va_AOA.use {ty : FieldType} {A : Array Value} {U : State} (h : va_AOA ty U) : (Cond.arrayOver (.array ty)).before A U = true := h
theorem va_AOA.of {ty : FieldType} {A : Array Value} {U : State} (h : (Cond.arrayOver (.array ty)).before A U = true) : va_AOA ty U := h
theorem va_AOA.moved {ty : FieldType} {u U : State} (hvm : u.vm.Alike U.vm) (h : va_AOA ty u) : va_AOA ty U := arrayOver_alikeB hvm h
/-- what no word of a method's own table says: links of nest mates, classes of arrays of references -/
def zN (U : State) : Prop := va_Nw (.methodLinkNest RX7 11 yX5_init RX7) U ∧ va_Nw (.methodLinkNest RX7 43 yX0_init RX7) U ∧ va_Nw (.methodLinkNest RX7 50 yX4_init RX7) U ∧ va_Nw (.methodLinkNest RX7 57 yX1_init RX7) U ∧ va_Nw (.methodLinkNest RX5 104 yX7_isOutside RX7) U ∧ va_AO RX6 U ∧ va_AOA .int U
/-- what is known of the classes -/
def zK (g : va_G) (ca : Nat → ClassId) (U : State) : Prop := va_K g vwCl (zT ca) U ∧ zN U
theorem zK.k {g : va_G} {ca : Nat → ClassId} {U : State} (h : zK g ca U) : va_K g vwCl (zT ca) U := h.1
theorem zN.warm {s U : State} (hW : s.WarmedH U.vm) (h : zN s) : zN U := ⟨va_Nw.warmM hW h.1, va_Nw.warmM hW h.2.1, va_Nw.warmM hW h.2.2.1, va_Nw.warmM hW h.2.2.2.1, va_Nw.warmM hW h.2.2.2.2.1, va_AO.moved hW.alike h.2.2.2.2.2.1, va_AOA.moved hW.alike h.2.2.2.2.2.2⟩
theorem zN.same {u U : State} (e : u.vm = U.vm) (h : zN u) : zN U := ⟨va_Nw.same rfl e h.1, va_Nw.same rfl e h.2.1, va_Nw.same rfl e h.2.2.1, va_Nw.same rfl e h.2.2.2.1, va_Nw.same rfl e h.2.2.2.2.1, va_AO.moved (by rw [e]; exact Vm.Alike.refl _) h.2.2.2.2.2.1, va_AOA.moved (by rw [e]; exact Vm.Alike.refl _) h.2.2.2.2.2.2⟩
theorem zK.warm {g : va_G} {ca : Nat → ClassId} {s U : State} (hW : s.WarmedH U.vm) (h : zK g ca s) : zK g ca U := ⟨va_K.moved hW.alike h.1, zN.warm hW h.2⟩
/-- a method's start: its world is there -/
def zP (g : va_G) (ca : Nat → ClassId) (ws : va_W) (sz : Nat) (U : State) : Prop := U.heap.size = sz ∧ va_P g vwCl ws U.heap ∧ zK g ca U ∧ va_D (fun _ => True) ws
/-- a method's end: the new world -/
def zQ (g : va_G) (A : Nat → Prop) (ws : va_W) (t : State) : Prop := va_P g vwCl ws t.heap ∧ va_D A ws
theorem zP.blind {g : va_G} {ca : Nat → ClassId} {av : List Value} {ws : va_W} {sz : Nat} : FrameBlind (va_Pc av (zP g ca ws sz)) := by
  intro a U f mk q
  obtain ⟨q0, q1, q2, q3, q4⟩ := q
  exact ⟨q0, q1, q2, ⟨va_K.moved (u := U) (U := U.calling f mk a) (Vm.Alike.refl U.vm) q3.1, zN.same (u := U) (U := U.calling f mk a) rfl q3.2⟩, q4⟩
/-- contracts: the answer an int, a long, none; S: what of the end isn't fixed -/
def zI {S : Type} (l : Launch) (y : MethodName) (wd : List Cond) (rm : Room) (g : va_G) (ca : Nat → ClassId) (av : List Value) (ws : va_W) (post : Int → S → Prop) (w1 : S → va_W) (mc ms : Nat) : Prop :=
  ∀ sz : Nat, Met l y wd rm (va_Pc av (zP g ca ws sz)) (va_Qi (fun (r : Int32) (u : S) => ∃ z : Int, r = Int32.ofInt z ∧ post z u) (fun u t => zQ g (va_A ws sz) (w1 u) t) (va_A ws sz)) mc ms (va_A ws sz)
def zJ {S : Type} (l : Launch) (y : MethodName) (wd : List Cond) (rm : Room) (g : va_G) (ca : Nat → ClassId) (av : List Value) (ws : va_W) (post : Int → S → Prop) (w1 : S → va_W) (mc ms : Nat) : Prop :=
  ∀ sz : Nat, Met l y wd rm (va_Pc av (zP g ca ws sz)) (va_Ql (fun (r : Int64) (u : S) => ∃ z : Int, r = Int64.ofInt z ∧ post z u) (fun u t => zQ g (va_A ws sz) (w1 u) t) (va_A ws sz)) mc ms (va_A ws sz)
def zV {S : Type} (l : Launch) (y : MethodName) (wd : List Cond) (rm : Room) (g : va_G) (ca : Nat → ClassId) (av : List Value) (ws : va_W) (post : S → Prop) (w1 : S → va_W) (mc ms : Nat) : Prop :=
  ∀ sz : Nat, Met l y wd rm (va_Pc av (zP g ca ws sz)) (va_Qv post (fun u t => zQ g (va_A ws sz) (w1 u) t) (va_A ws sz)) mc ms (va_A ws sz)
theorem za_congr {c : ClassId} {n : Nat} {f f' : Nat → Value} (h : ∀ j, j < n → f j = f' j) : arrV c n f = arrV c n f' := by
  show ({ cls := c, slots := Array.ofFn (n := n) fun j => f j.val, vm := .none } : Cell) = ({ cls := c, slots := Array.ofFn (n := n) fun j => f' j.val, vm := .none } : Cell)
  have e : (fun j : Fin n => f j.val) = fun j : Fin n => f' j.val := funext fun j => h j.val j.isLt
  rw [e]
/-- the contents of a row matter within its length alone -/
theorem za_extJ {g : va_G} {ca : Nat → ClassId} {ws : va_W} {H : Heap} (hP : va_P g vwCl ws H) (q0 : Nat) {a n : Nat} {f : Int → Int} (h : ws[q0]? = some (a, aJ ca n f)) (f' : Int → Int) (e : ∀ j : Int, 0 ≤ j → j < n → f j = f' j) : va_P g vwCl (ws.set q0 (a, aJ ca n f')) H := by
  intro k q hk
  rw [List.getElem?_set] at hk
  by_cases hq : q0 = k
  · rw [if_pos hq] at hk
    by_cases hl : q0 < ws.length
    · rw [if_pos hl] at hk
      cases hk
      have h1 : H[a]? = some (arrV (ca 1) n (fun j : Nat => Value.long (Int64.ofInt (f (j : Int))))) := hP q0 _ h
      show H[a]? = some (arrV (ca 1) n (fun j : Nat => Value.long (Int64.ofInt (f' (j : Int)))))
      rw [h1, za_congr (f' := fun j : Nat => Value.long (Int64.ofInt (f' (j : Int)))) (fun j hj => by rw [e j (by omega) (by omega)])]
    · rw [if_neg hl] at hk; cases hk
  · rw [if_neg hq] at hk
    exact hP k q hk
theorem za_extI {g : va_G} {ca : Nat → ClassId} {ws : va_W} {H : Heap} (hP : va_P g vwCl ws H) (q0 : Nat) {a n : Nat} {f : Int → Int} (h : ws[q0]? = some (a, aI ca n f)) (f' : Int → Int) (e : ∀ j : Int, 0 ≤ j → j < n → f j = f' j) : va_P g vwCl (ws.set q0 (a, aI ca n f')) H := by
  intro k q hk
  rw [List.getElem?_set] at hk
  by_cases hq : q0 = k
  · rw [if_pos hq] at hk
    by_cases hl : q0 < ws.length
    · rw [if_pos hl] at hk
      cases hk
      have h1 : H[a]? = some (arrV (ca 0) n (fun j : Nat => Value.int (Int32.ofInt (f (j : Int))))) := hP q0 _ h
      show H[a]? = some (arrV (ca 0) n (fun j : Nat => Value.int (Int32.ofInt (f' (j : Int)))))
      rw [h1, za_congr (f' := fun j : Nat => Value.int (Int32.ofInt (f' (j : Int)))) (fun j hj => by rw [e j (by omega) (by omega)])]
    · rw [if_neg hl] at hk; cases hk
  · rw [if_neg hq] at hk
    exact hP k q hk
