/-! Pure words: what each call answers -/
noncomputable def cif {α : Type} (p : Prop) (a b : α) : α := @ite α p (Classical.propDecidable p) a b
theorem cif_p {α : Type} {p : Prop} {a b : α} (h : p) : cif p a b = a := by unfold cif; exact @if_pos p (Classical.propDecidable p) h α a b
theorem cif_n {α : Type} {p : Prop} {a b : α} (h : ¬ p) : cif p a b = b := by unfold cif; exact @if_neg p (Classical.propDecidable p) h α a b
theorem RC_less {c w : Int → Int} (hw : GW w) : ∀ (k : Nat) (s : Int), k ≤ 5 → 0 < s → RC c w k s → ∃ s' : Int, s - 99 ≤ s' ∧ s' < s ∧ RC c w k s'
  | 0, s, _, h, q => by have : s = 0 := q; omega
  | k + 1, s, hk, h, q => by
    obtain ⟨n, h1, h2, h3⟩ := q
    have h4 := hw k (by omega) (by omega)
    by_cases h5 : 0 < n ∧ 0 < w k
    · refine ⟨s - w k, by omega, by omega, n - 1, by omega, by omega, ?_⟩
      rw [show s - w k - (n - 1) * w k = s - n * w k by rw [Int.sub_mul, Int.one_mul]; omega]
      exact h3
    · have e : s - n * w k = s := by
        by_cases h6 : n = 0
        · rw [h6, Int.zero_mul]; omega
        · rw [show w k = 0 by omega, Int.mul_zero]; omega
      rw [e] at h3
      obtain ⟨s', g1, g2, g3⟩ := RC_less hw k s (by omega) h h3
      exact ⟨s', g1, g2, 0, by omega, by omega, by rw [Int.zero_mul, Int.sub_zero]; exact g3⟩
/-- it can be paid -/
def canP (c w : Int → Int) (x : Int) : Prop := ∃ s : Int, LST c w x s
noncomputable def chT (c w : Int → Int) (x : Int) : Int → Int := @dite (Int → Int) (∃ T : Int → Int, ∃ s : Int, LST c w x s ∧ CHO c w T 5 s) (Classical.propDecidable _) (fun h => Classical.choose h) (fun _ => fun _ => 0)
theorem chT_eq {c w T : Int → Int} {x s : Int} (hw : GW w) (h1 : LST c w x s) (h2 : CHO c w T 5 s) : ∀ o : Int, 0 ≤ o → o < 5 → T o = chT c w x o := by
  have hex : ∃ T : Int → Int, ∃ s : Int, LST c w x s ∧ CHO c w T 5 s := ⟨T, s, h1, h2⟩
  have e : chT c w x = Classical.choose hex := by
    unfold chT
    exact @dif_pos _ (Classical.propDecidable _) hex _ _ _
  obtain ⟨s', g1, g2⟩ := Classical.choose_spec hex
  have es := LST_uniq h1 g1
  rw [← es] at g2
  rw [e]
  exact CHO_uniq hw 5 s (by omega) h2 g2
theorem ta_congr {b T T' : Int → Int} : ∀ k : Nat, (∀ o : Int, 0 ≤ o → o < k → T o = T' o) → ta b T k = ta b T' k
  | 0, _ => rfl
  | k + 1, h => by
    show tk (ta b T k) (121 * (k : Int)) (T k) = tk (ta b T' k) (121 * (k : Int)) (T' k)
    rw [ta_congr k (fun o h1 h2 => h o h1 (by omega)), h k (by omega) (by omega)]
/-- the DUES of one NIGHT, from the i-th on: the first that can't be met, or -9; the rings behind it; what they weigh behind the last that was met -/
noncomputable def pdi (w dn dw : Int → Int) (nt : Int) : Nat → Int → (Int → Int) → Int → Int × (Int → Int) × Int
  | 0, _, b, lt => (-9, b, lt)
  | k + 1, i, b, lt => if dn i = nt then cif (canP (cnt b nt) w (dw i)) (pdi w dn dw nt k (i + 1) (ta b (chT (cnt b nt) w (dw i)) 5) (wgt (ta b (chT (cnt b nt) w (dw i)) 5) w nt)) (i, b, lt) else pdi w dn dw nt k (i + 1) b lt
theorem pdi_o {w dn dw b : Int → Int} {nt i lt : Int} {k : Nat} (h : ¬ dn i = nt) : pdi w dn dw nt (k + 1) i b lt = pdi w dn dw nt k (i + 1) b lt := if_neg h
theorem pdi_p {w dn dw b : Int → Int} {nt i lt : Int} {k : Nat} (h : dn i = nt) (h2 : canP (cnt b nt) w (dw i)) : pdi w dn dw nt (k + 1) i b lt = pdi w dn dw nt k (i + 1) (ta b (chT (cnt b nt) w (dw i)) 5) (wgt (ta b (chT (cnt b nt) w (dw i)) 5) w nt) := (if_pos h).trans (cif_p h2)
theorem pdi_n {w dn dw b : Int → Int} {nt i lt : Int} {k : Nat} (h : dn i = nt) (h2 : ¬ canP (cnt b nt) w (dw i)) : pdi w dn dw nt (k + 1) i b lt = (i, b, lt) := (if_pos h).trans (cif_n h2)
/-- the NIGHTS behind nt, k of them -/
noncomputable def pds (w ea dn dw : Int → Int) (mo du : Int) : Nat → Int → (Int → Int) → Int → Int × (Int → Int) × Int
  | 0, _, b, lt => (-9, b, lt)
  | k + 1, nt, b, lt => if (pdi w dn dw (nt + 1) du.toNat 0 (gs w ea mo (nt + 1) b 4).1 lt).1 = -9 then pds w ea dn dw mo du k (nt + 1) (pdi w dn dw (nt + 1) du.toNat 0 (gs w ea mo (nt + 1) b 4).1 lt).2.1 (pdi w dn dw (nt + 1) du.toNat 0 (gs w ea mo (nt + 1) b 4).1 lt).2.2 else pdi w dn dw (nt + 1) du.toNat 0 (gs w ea mo (nt + 1) b 4).1 lt
theorem pds_s {w ea dn dw b : Int → Int} {mo du nt lt : Int} {k : Nat} (h : (pdi w dn dw (nt + 1) du.toNat 0 (gs w ea mo (nt + 1) b 4).1 lt).1 = -9) : pds w ea dn dw mo du (k + 1) nt b lt = pds w ea dn dw mo du k (nt + 1) (pdi w dn dw (nt + 1) du.toNat 0 (gs w ea mo (nt + 1) b 4).1 lt).2.1 (pdi w dn dw (nt + 1) du.toNat 0 (gs w ea mo (nt + 1) b 4).1 lt).2.2 := if_pos h
theorem pds_f {w ea dn dw b : Int → Int} {mo du nt lt : Int} {k : Nat} (h : ¬ (pdi w dn dw (nt + 1) du.toNat 0 (gs w ea mo (nt + 1) b 4).1 lt).1 = -9) : pds w ea dn dw mo du (k + 1) nt b lt = pdi w dn dw (nt + 1) du.toNat 0 (gs w ea mo (nt + 1) b 4).1 lt := if_neg h
/-- order, due, now, count -/
def orv (w ea b : Int → Int) (n o x : Int) : Int := if 0 ≤ o ∧ o ≤ 4 then (if x = 0 then w o else if x = 1 then ea o else if x = 2 then (if o ≤ 3 ∧ 0 < w (o + 1) then 1 else 0) else if x = 3 then og b (121 * o) n 121 0 else -1) else -1
def duv (dn dw : Int → Int) (du i x : Int) : Int := if 0 ≤ i ∧ i < du then (if x = 0 then dn i else if x = 1 then dw i else -1) else -1
def nov (w b : Int → Int) (n m un x : Int) : Int := if x = 0 then n else if x = 1 then m else if x = 2 then tot b n else if x = 3 then wgt b w n + m else if x = 4 then un else -1
def cov (mo la du to tx x : Int) : Int := if x = 0 then mo else if x = 1 then la else if x = 2 then du else if x = 3 then to else if x = 4 then tx else -1
/-- all -/
def alv (w ea b : Int → Int) (mo n m t o : Int) : Int := if (n ≤ t ∧ t ≤ 120) ∧ -2 ≤ o ∧ o ≤ 4 then (if o = -2 then wgt (gt w ea mo n b (t - n).toNat) w t + m else if o = -1 then tot (gt w ea mo n b (t - n).toNat) t else cnt (gt w ea mo n b (t - n).toNat) t o) else -1
/-- above: from NIGHT n on, k NIGHTS -/
def abf (w ea : Int → Int) (mo m x : Int) : Nat → Int → (Int → Int) → Int
  | 0, _, _ => -9
  | k + 1, n, b => if x < wgt b w n + m then n else abf w ea mo m x k (n + 1) (gs w ea mo (n + 1) b 4).1
theorem abf_y {w ea b : Int → Int} {mo m x n : Int} {k : Nat} (h : x < wgt b w n + m) : abf w ea mo m x (k + 1) n b = n := if_pos h
theorem abf_n {w ea b : Int → Int} {mo m x n : Int} {k : Nat} (h : ¬ x < wgt b w n + m) : abf w ea mo m x (k + 1) n b = abf w ea mo m x k (n + 1) (gs w ea mo (n + 1) b 4).1 := if_neg h
def abv (w ea b : Int → Int) (mo n m x : Int) : Int := if 0 ≤ x ∧ x ≤ 1000000000 then abf w ea mo m x (121 - n).toNat n b else -1
/-- first -/
def fsf (w ea : Int → Int) (mo o x : Int) : Nat → Int → (Int → Int) → Int
  | 0, _, _ => -9
  | k + 1, n, b => if x ≤ cnt b n o then n else fsf w ea mo o x k (n + 1) (gs w ea mo (n + 1) b 4).1
theorem fsf_y {w ea b : Int → Int} {mo o x n : Int} {k : Nat} (h : x ≤ cnt b n o) : fsf w ea mo o x (k + 1) n b = n := if_pos h
theorem fsf_n {w ea b : Int → Int} {mo o x n : Int} {k : Nat} (h : ¬ x ≤ cnt b n o) : fsf w ea mo o x (k + 1) n b = fsf w ea mo o x k (n + 1) (gs w ea mo (n + 1) b 4).1 := if_neg h
def manyOK (o x : Int) : Prop := (0 ≤ o ∧ o ≤ 4) ∧ 1 ≤ x ∧ x ≤ 1000000
def fsv (w ea : Int → Int) (mo o x : Int) : Int := if (0 ≤ o ∧ o ≤ 4) ∧ 1 ≤ x ∧ x ≤ 1000000 then fsf w ea mo o x 121 0 bg else -1
/-- least -/
def lsR (w b : Int → Int) (n x o z : Int) : Prop := (¬ ((1 ≤ x ∧ x ≤ 200) ∧ -1 ≤ o ∧ o ≤ 4) ∧ z = -1) ∨ (((1 ≤ x ∧ x ≤ 200) ∧ -1 ≤ o ∧ o ≤ 4) ∧ ((∃ s : Int, ∃ T : Int → Int, LST (cnt b n) w x s ∧ CHO (cnt b n) w T 5 s ∧ z = if o = -1 then s else T o) ∨ ((∀ s : Int, x ≤ s → s ≤ 298 → ¬ RC (cnt b n) w 5 s) ∧ z = -9)))
theorem lsR_uniq {w b : Int → Int} {n x o z z' : Int} (hw : GW w) (h : lsR w b n x o z) (h' : lsR w b n x o z') : z = z' := by
  rcases h with ⟨h1, h2⟩ | ⟨h1, h2⟩
  · rcases h' with ⟨g1, g2⟩ | ⟨g1, g2⟩
    · omega
    · exact absurd g1 h1
  · rcases h' with ⟨g1, g2⟩ | ⟨g1, g2⟩
    · exact absurd h1 g1
    · rcases h2 with ⟨s, T, a1, a2, a3⟩ | ⟨a1, a2⟩
      · rcases g2 with ⟨s', T', b1, b2, b3⟩ | ⟨b1, b2⟩
        · have es := LST_uniq a1 b1
          rw [← es] at b2
          rw [a3, b3]
          split
          · exact es
          · rename_i q
            exact CHO_uniq hw 5 s (by omega) a2 b2 o (by omega) (by omega)
        · exact absurd a1.2.2.1 (b1 s a1.1 a1.2.1)
      · rcases g2 with ⟨s', T', b1, b2, b3⟩ | ⟨b1, b2⟩
        · exact absurd b1.2.2.1 (a1 s' b1.1 b1.2.1)
        · omega
/-- age -/
def agf (w : Int → Int) (x : Int) : Nat → Int
  | 0 => 0
  | k + 1 => if w k = x then (((agf w x k).toNat ||| ((2 ^ k : Nat) : Int).toNat : Nat) : Int) else agf w x k
def agv (w : Int → Int) (x : Int) : Int := if 1 ≤ x ∧ x ≤ 99 then agf w x 5 else -1
theorem agf_bd (w : Int → Int) (x : Int) : ∀ k : Nat, 0 ≤ agf w x k ∧ agf w x k < ((2 ^ k : Nat) : Int)
  | 0 => by show (0 : Int) ≤ 0 ∧ (0 : Int) < 1; omega
  | k + 1 => by
    have h := agf_bd w x k
    have e : (2 ^ (k + 1) : Nat) = 2 ^ k * 2 := Nat.pow_succ 2 k
    show 0 ≤ (if w k = x then _ else _ : Int) ∧ (if w k = x then _ else _ : Int) < _
    split
    · have h1 : (agf w x k).toNat < 2 ^ (k + 1) := by omega
      have h2 : ((2 ^ k : Nat) : Int).toNat < 2 ^ (k + 1) := by
        have : 0 < 2 ^ k := Nat.two_pow_pos k
        omega
      have h3 := Nat.or_lt_two_pow h1 h2
      omega
    · omega
/-- mayBe: how many, the first, the last of the first k NIGHTS -/
noncomputable def mbf (w ea : Int → Int) (mo : Int) (go gn : Int → Int) (to : Int) : Nat → Int × Int × Int
  | 0 => (0, -9, -9)
  | k + 1 => cif (grk (gt w ea mo 0 bg k) (k : Int) go gn to) ((mbf w ea mo go gn to k).1 + 1, (if (mbf w ea mo go gn to k).1 = 0 then (k : Int) else (mbf w ea mo go gn to k).2.1), (k : Int)) (mbf w ea mo go gn to k)
noncomputable def mbv (w ea : Int → Int) (mo : Int) (go gn : Int → Int) (to x : Int) : Int := if x = 0 then (mbf w ea mo go gn to 121).1 else if x = 1 then (mbf w ea mo go gn to 121).2.1 else if x = 2 then (mbf w ea mo go gn to 121).2.2 else -1
theorem mbf_y {w ea go gn : Int → Int} {mo to i : Int} (h : 0 ≤ i) (q : grk (gt w ea mo 0 bg i.toNat) i go gn to) : mbf w ea mo go gn to (i + 1).toNat = ((mbf w ea mo go gn to i.toNat).1 + 1, (if (mbf w ea mo go gn to i.toNat).1 = 0 then i else (mbf w ea mo go gn to i.toNat).2.1), i) := by
  obtain ⟨k, rfl⟩ : ∃ k : Nat, i = k := ⟨i.toNat, by omega⟩
  rw [show ((k : Int)).toNat = k by omega] at q ⊢
  rw [show ((k : Int) + 1).toNat = k + 1 by omega]
  exact cif_p q
theorem mbf_n {w ea go gn : Int → Int} {mo to i : Int} (h : 0 ≤ i) (q : ¬ grk (gt w ea mo 0 bg i.toNat) i go gn to) : mbf w ea mo go gn to (i + 1).toNat = mbf w ea mo go gn to i.toNat := by
  obtain ⟨k, rfl⟩ : ∃ k : Nat, i = k := ⟨i.toNat, by omega⟩
  rw [show ((k : Int)).toNat = k by omega] at q ⊢
  rw [show ((k : Int) + 1).toNat = k + 1 by omega]
  exact cif_n q
/-- smelt: the rings without an ORDER -/
def zr (b : Int → Int) (o : Int) : Int → Int := fun j => if 121 * o ≤ j ∧ j < 121 * o + 121 then 0 else b j
theorem GB_zr {b : Int → Int} {n o : Int} (h : GB b n) : GB (zr b o) n := by
  refine ⟨h.1, fun o' k h1 h2 h3 h4 => ?_, fun o' k h1 h2 h3 h4 => ?_⟩
  · unfold zr
    split
    · have := (Bd_bd o').1; omega
    · exact h.2.1 o' k h1 h2 h3 h4
  · unfold zr
    split
    · rfl
    · exact h.2.2 o' k h1 h2 h3 h4
theorem tk_zr {b : Int → Int} {n o : Int} (h : GB b n) (h0 : 0 ≤ o) (h4 : o ≤ 4) : tk b (121 * o) (cnt b n o) = zr b o := by
  funext j
  unfold tk zr
  split
  · rename_i q
    obtain ⟨k, rfl⟩ : ∃ k, j = 121 * o + k := ⟨j - 121 * o, by omega⟩
    have h1 := h.2.1 o k h0 h4 (by omega) (by omega)
    rw [show (121 * o + k - 121 * o).toNat = k.toNat by omega, ← cnt_121 h h0 h4]
    have h2 := sm_mono (f := b) (a := 121 * o) (n := (k + 1).toNat) (k := 121) (by omega) (fun x h1 h2 => (h.2.1 o x h0 h4 h1 (by omega)).1)
    rw [sm_s _ _ (by omega)] at h2
    omega
  · rfl
def smf (w ea b : Int → Int) (mo n m t x : Int) : Nat → Int → Int
  | 0, _ => -9
  | k + 1, o => if wgt (gt w ea mo n (zr b o) (t - n).toNat) w t + m ≤ x then o else smf w ea b mo n m t x k (o + 1)
def smv (w ea b : Int → Int) (mo n m t x : Int) : Int := if (n ≤ t ∧ t ≤ 120) ∧ 1 ≤ x ∧ x ≤ 1000000000 then (if wgt (gt w ea mo n b (t - n).toNat) w t + m ≤ x then 5 else smf w ea b mo n m t x 5 0) else -1
theorem smf_y {w ea b : Int → Int} {mo n m t x o : Int} {k : Nat} (h : wgt (gt w ea mo n (zr b o) (t - n).toNat) w t + m ≤ x) : smf w ea b mo n m t x (k + 1) o = o := if_pos h
theorem smf_n {w ea b : Int → Int} {mo n m t x o : Int} {k : Nat} (h : ¬ wgt (gt w ea mo n (zr b o) (t - n).toNat) w t + m ≤ x) : smf w ea b mo n m t x (k + 1) o = smf w ea b mo n m t x k (o + 1) := if_neg h
/-- odds, barley -/
def odv (b : Int → Int) (n o x : Int) : Int := if (0 ≤ o ∧ o ≤ 4) ∧ 0 ≤ x ∧ x ≤ 1 then (if tot b n = 0 then x else if x = 0 then cnt b n o / (Int.gcd (cnt b n o) (tot b n) : Int) else tot b n / (Int.gcd (cnt b n o) (tot b n) : Int)) else -1
def bav (w b : Int → Int) (n m y x : Int) : Int := if (1 ≤ y ∧ y ≤ 1000) ∧ 0 ≤ x ∧ x ≤ 1000000 then (if wgt b w n + m = 0 then -9 else y * x / (wgt b w n + m)) else -1
theorem gcd_step {a b : Int} (ha : 0 ≤ a) (hb : 0 < b) : Int.gcd a b = Int.gcd b (a % b) := by
  obtain ⟨x, rfl⟩ : ∃ x : Nat, a = x := ⟨a.toNat, by omega⟩
  obtain ⟨y, rfl⟩ : ∃ x : Nat, b = x := ⟨b.toNat, by omega⟩
  rw [← Int.natCast_emod]
  show Nat.gcd _ _ = Nat.gcd _ _
  simp only [Int.natAbs_natCast]
  rw [Nat.gcd_comm x y, Nat.gcd_rec, Nat.gcd_comm]
/-- LUMP's bound -/
def LMok (m : Int) : Prop := 0 ≤ m ∧ m ≤ 100000000000
