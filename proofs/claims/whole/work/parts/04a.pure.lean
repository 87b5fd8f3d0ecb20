/-! Pure words: sums of a row, rings of an ORDER, what drips -/
/-- f a + .. + f (a+k-1) -/
def sm (f : Int → Int) (a : Int) : Nat → Int
  | 0 => 0
  | k + 1 => sm f a k + f (a + (k : Int))
theorem sm_0 (f : Int → Int) (a : Int) : sm f a 0 = 0 := rfl
theorem sm_s (f : Int → Int) (a : Int) {i : Int} (h : 0 ≤ i) : sm f a (i + 1).toNat = sm f a i.toNat + f (a + i) := by
  obtain ⟨k, rfl⟩ : ∃ k : Nat, i = k := ⟨i.toNat, by omega⟩
  rw [show ((k : Int) + 1).toNat = k + 1 by omega, show ((k : Int)).toNat = k by omega]
  rfl
theorem sm_congr {f g : Int → Int} {a b : Int} : ∀ {k : Nat}, (∀ j : Int, 0 ≤ j → j < k → f (a + j) = g (b + j)) → sm f a k = sm g b k
  | 0, _ => rfl
  | k + 1, h => by
    show sm f a k + f (a + k) = sm g b k + g (b + k)
    rw [sm_congr (k := k) (fun j h1 h2 => h j h1 (by omega)), h k (by omega) (by omega)]
theorem sm_bd {f : Int → Int} {a M : Int} : ∀ {k : Nat}, (∀ j : Int, 0 ≤ j → j < k → 0 ≤ f (a + j) ∧ f (a + j) ≤ M) → 0 ≤ sm f a k ∧ sm f a k ≤ k * M
  | 0, _ => by rw [sm_0]; constructor <;> simp
  | k + 1, h => by
    have h1 := sm_bd (k := k) (fun j h1 h2 => h j h1 (by omega))
    have h2 := h k (by omega) (by omega)
    show 0 ≤ sm f a k + f (a + k) ∧ sm f a k + f (a + k) ≤ ((k + 1 : Nat) : Int) * M
    rw [show ((k + 1 : Nat) : Int) * M = k * M + M by rw [Int.natCast_add, Int.add_mul]; simp]
    omega
theorem sm_zero {f : Int → Int} {a : Int} {n : Nat} : ∀ {k : Nat}, n ≤ k → (∀ j : Int, n ≤ j → j < k → f (a + j) = 0) → sm f a k = sm f a n
  | 0, h, _ => by rw [show n = 0 by omega]
  | k + 1, h, hz => by
    by_cases e : n = k + 1
    · rw [e]
    · show sm f a k + f (a + k) = sm f a n
      rw [sm_zero (n := n) (k := k) (by omega) (fun j h1 h2 => hz j h1 (by omega)), hz k (by omega) (by omega)]
      omega
theorem sm_mono {f : Int → Int} {a : Int} {n : Nat} : ∀ {k : Nat}, n ≤ k → (∀ j : Int, 0 ≤ j → j < k → 0 ≤ f (a + j)) → sm f a n ≤ sm f a k
  | 0, h, _ => by rw [show n = 0 by omega]; exact Int.le_refl _
  | k + 1, h, hz => by
    by_cases e : n = k + 1
    · rw [e]; exact Int.le_refl _
    · have h1 := sm_mono (n := n) (k := k) (by omega) (fun j h1 h2 => hz j h1 (by omega))
      have h2 := hz k (by omega) (by omega)
      show sm f a n ≤ sm f a k + f (a + k)
      omega
/-- how many may at most be born on a NIGHT, of an ORDER -/
def Bd (o : Int) : Int := if o = 0 then 1 else if o = 1 then 1089 else if o = 2 then 1185921 else if o = 3 then 1291467969 else 1406408618241
theorem Bd_bd (o : Int) : 1 ≤ Bd o ∧ Bd o ≤ 1406408618241 := by
  unfold Bd
  split
  · omega
  · split
    · omega
    · split
      · omega
      · split <;> omega
/-- the rings: how many of an ORDER had their first NIGHT on which, b; the NIGHT, n -/
def GB (b : Int → Int) (n : Int) : Prop := (0 ≤ n ∧ n ≤ 120) ∧ (∀ o k : Int, 0 ≤ o → o ≤ 4 → 0 ≤ k → k ≤ 120 → 0 ≤ b (121 * o + k) ∧ b (121 * o + k) ≤ Bd o) ∧ ∀ o k : Int, 0 ≤ o → o ≤ 4 → n < k → k ≤ 120 → b (121 * o + k) = 0
/-- how many of an ORDER -/
def cnt (b : Int → Int) (n o : Int) : Int := sm b (121 * o) (n + 1).toNat
def tot (b : Int → Int) (n : Int) : Int := sm (fun o => cnt b n o) 0 5
def wgt (b w : Int → Int) (n : Int) : Int := sm (fun o => cnt b n o * w o) 0 5
theorem cnt_bd {b : Int → Int} {n o : Int} (h : GB b n) (h0 : 0 ≤ o) (h4 : o ≤ 4) : 0 ≤ cnt b n o ∧ cnt b n o ≤ 170175442807161 := by
  have hn := h.1
  have h1 := sm_bd (f := b) (a := 121 * o) (M := 1406408618241) (k := (n + 1).toNat) (fun j h1 h2 => by
    have h3 := h.2.1 o j h0 h4 h1 (by omega)
    have h5 := (Bd_bd o).2
    omega)
  refine ⟨h1.1, Int.le_trans h1.2 ?_⟩
  have h2 : (((n + 1).toNat : Nat) : Int) ≤ 121 := by omega
  omega
theorem cnt_121 {b : Int → Int} {n o : Int} (h : GB b n) (h0 : 0 ≤ o) (h4 : o ≤ 4) : sm b (121 * o) 121 = cnt b n o := by
  have hn := h.1
  exact sm_zero (by omega) (fun j h1 h2 => h.2.2 o j h0 h4 (by omega) (by omega))
theorem tot_bd {b : Int → Int} {n : Int} (h : GB b n) : 0 ≤ tot b n ∧ tot b n ≤ 850877214035805 := by
  have h1 := sm_bd (f := fun o => cnt b n o) (a := 0) (M := 170175442807161) (k := 5) (fun j h1 h2 => by
    have := cnt_bd h (o := 0 + j) (by omega) (by omega)
    exact this)
  exact ⟨h1.1, Int.le_trans h1.2 (by omega)⟩
/-- the WEIGHTS -/
def GW (w : Int → Int) : Prop := ∀ o : Int, 0 ≤ o → o ≤ 4 → 0 ≤ w o ∧ w o ≤ 99
theorem wgt_bd {b w : Int → Int} {n : Int} (h : GB b n) (hw : GW w) : 0 ≤ wgt b w n ∧ wgt b w n ≤ 84236844189544695 := by
  have h1 := sm_bd (f := fun o => cnt b n o * w o) (a := 0) (M := 16847368837908939) (k := 5) (fun j h1 h2 => by
    have h3 := cnt_bd h (o := 0 + j) (by omega) (by omega)
    have h4 := hw (0 + j) (by omega) (by omega)
    refine ⟨Int.mul_nonneg h3.1 h4.1, ?_⟩
    exact Int.le_trans (Int.mul_le_mul_of_nonneg_right h3.2 h4.1) (by omega))
  exact ⟨h1.1, Int.le_trans h1.2 (by omega)⟩
/-- what drips: f at a+i, a+i-st, .. -/
def dr (f : Int → Int) (a st : Int) : Nat → Int → Int
  | 0, _ => 0
  | k + 1, i => if i < 0 then 0 else f (a + i) + dr f a st k (i - st)
theorem dr_neg {f : Int → Int} {a st i : Int} (h : i < 0) : ∀ k : Nat, dr f a st k i = 0
  | 0 => rfl
  | k + 1 => if_pos h
theorem dr_s {f : Int → Int} {a st i : Int} {k : Nat} (h : 0 ≤ i) : dr f a st (k + 1) i = f (a + i) + dr f a st k (i - st) := if_neg (by omega)
theorem dr_congr {f g : Int → Int} {a b st : Int} (hs : 1 ≤ st) : ∀ (k : Nat) (i : Int), (∀ j : Int, 0 ≤ j → j ≤ i → f (a + j) = g (b + j)) → dr f a st k i = dr g b st k i
  | 0, _, _ => rfl
  | k + 1, i, h => by
    by_cases q : i < 0
    · rw [dr_neg q, dr_neg q]
    · rw [dr_s (by omega), dr_s (by omega), h i (by omega) (by omega), dr_congr hs k (i - st) (fun j h1 h2 => h j h1 (by omega))]
theorem dr_bd {f : Int → Int} {a st M : Int} (hs : 1 ≤ st) (hM : 0 ≤ M) : ∀ (k : Nat) (i : Int), (∀ j : Int, 0 ≤ j → j ≤ i → 0 ≤ f (a + j) ∧ f (a + j) ≤ M) → 0 ≤ dr f a st k i ∧ dr f a st k i ≤ k * M
  | 0, _, _ => by show (0 : Int) ≤ 0 ∧ (0 : Int) ≤ _; simp
  | k + 1, i, h => by
    have e : ((k + 1 : Nat) : Int) * M = k * M + M := by rw [Int.natCast_add, Int.add_mul]; simp
    have hk : 0 ≤ (k : Int) * M := Int.mul_nonneg (by omega) hM
    by_cases q : i < 0
    · rw [dr_neg q, e]; omega
    · have h1 := dr_bd hs hM k (i - st) (fun j h1 h2 => h j h1 (by omega))
      have h2 := h i (by omega) (by omega)
      rw [dr_s (by omega), e]
      omega
/-- a NIGHT: the rings born, and how many dripped, of the first k ORDERS -/
def gs (w ea : Int → Int) (mo n1 : Int) (b : Int → Int) : Nat → (Int → Int) × Int
  | 0 => (b, 0)
  | k + 1 => if 0 < w ((k : Int) + 1) then (zu (gs w ea mo n1 b k).1 (121 * ((k : Int) + 1) + n1) (dr (gs w ea mo n1 b k).1 (121 * (k : Int)) (ea k) 121 (n1 - ea k) * mo), (gs w ea mo n1 b k).2 + dr (gs w ea mo n1 b k).1 (121 * (k : Int)) (ea k) 121 (n1 - ea k)) else gs w ea mo n1 b k
theorem gs_s (w ea : Int → Int) (mo n1 : Int) (b : Int → Int) {o : Int} (h : 0 ≤ o) (hw : 0 < w (o + 1)) : gs w ea mo n1 b (o + 1).toNat = (zu (gs w ea mo n1 b o.toNat).1 (121 * (o + 1) + n1) (dr (gs w ea mo n1 b o.toNat).1 (121 * o) (ea o) 121 (n1 - ea o) * mo), (gs w ea mo n1 b o.toNat).2 + dr (gs w ea mo n1 b o.toNat).1 (121 * o) (ea o) 121 (n1 - ea o)) := by
  obtain ⟨k, rfl⟩ : ∃ k : Nat, o = k := ⟨o.toNat, by omega⟩
  rw [show ((k : Int) + 1).toNat = k + 1 by omega, show ((k : Int)).toNat = k by omega]
  exact if_pos hw
theorem gs_n (w ea : Int → Int) (mo n1 : Int) (b : Int → Int) {o : Int} (h : 0 ≤ o) (hw : ¬ 0 < w (o + 1)) : gs w ea mo n1 b (o + 1).toNat = gs w ea mo n1 b o.toNat := by
  obtain ⟨k, rfl⟩ : ∃ k : Nat, o = k := ⟨o.toNat, by omega⟩
  rw [show ((k : Int) + 1).toNat = k + 1 by omega, show ((k : Int)).toNat = k by omega]
  exact if_neg hw
/-- the rings after k NIGHTS more -/
def gt (w ea : Int → Int) (mo n : Int) (b : Int → Int) : Nat → (Int → Int)
  | 0 => b
  | k + 1 => (gs w ea mo (n + (k : Int) + 1) (gt w ea mo n b k) 4).1
theorem gt_s (w ea : Int → Int) (mo n : Int) (b : Int → Int) {i : Int} (h : 0 ≤ i) : gt w ea mo n b (i + 1).toNat = (gs w ea mo (n + i + 1) (gt w ea mo n b i.toNat) 4).1 := by
  obtain ⟨k, rfl⟩ : ∃ k : Nat, i = k := ⟨i.toNat, by omega⟩
  rw [show ((k : Int) + 1).toNat = k + 1 by omega, show ((k : Int)).toNat = k by omega]
  rfl
/-- the age of the oldest: the first from i on, of k places -/
def og (b : Int → Int) (a n : Int) : Nat → Int → Int
  | 0, _ => -9
  | k + 1, i => if 0 < b (a + i) then n - i else og b a n k (i + 1)
theorem og_p {b : Int → Int} {a n i : Int} {k : Nat} (h : 0 < b (a + i)) : og b a n (k + 1) i = n - i := if_pos h
theorem og_n {b : Int → Int} {a n i : Int} {k : Nat} (h : ¬ 0 < b (a + i)) : og b a n (k + 1) i = og b a n k (i + 1) := if_neg h
theorem og_zero {b : Int → Int} {a n : Int} : ∀ (k : Nat) (i : Int), (∀ j : Int, i ≤ j → j < i + k → b (a + j) = 0) → og b a n k i = -9
  | 0, _, _ => rfl
  | k + 1, i, h => by rw [og_n (by rw [h i (by omega) (by omega)]; omega)]; exact og_zero k (i + 1) (fun j h1 h2 => h j (by omega) (by omega))
theorem og_more {b : Int → Int} {a n : Int} (x : Nat) : ∀ (k : Nat) (i : Int), (∀ j : Int, i + k ≤ j → j < i + k + x → b (a + j) = 0) → og b a n (k + x) i = og b a n k i
  | 0, i, h => by rw [Nat.zero_add]; exact og_zero x i (fun j h1 h2 => h j (by omega) (by omega))
  | k + 1, i, h => by
    rw [show k + 1 + x = (k + x) + 1 by omega]
    by_cases q : 0 < b (a + i)
    · rw [og_p q, og_p q]
    · rw [og_n q, og_n q]; exact og_more x k (i + 1) (fun j h1 h2 => h j (by omega) (by omega))
/-- the n oldest of the row from a on are taken -/
def tk (b : Int → Int) (a q : Int) : Int → Int := fun j => if a ≤ j ∧ j < a + 121 then b j - min (b j) (max 0 (q - sm b a (j - a).toNat)) else b j
theorem tk_in {b : Int → Int} {a q k : Int} (h : 0 ≤ k) (h2 : k ≤ 120) : tk b a q (a + k) = b (a + k) - min (b (a + k)) (max 0 (q - sm b a k.toNat)) := by
  unfold tk
  rw [if_pos (by omega), show (a + k - a).toNat = k.toNat by omega]
theorem tk_out {b : Int → Int} {a q j : Int} (h : j < a ∨ a + 121 ≤ j) : tk b a q j = b j := if_neg (by omega)
