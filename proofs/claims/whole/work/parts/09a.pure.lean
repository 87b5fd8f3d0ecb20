/-! Pure words for the other class -/
theorem kd_sign {t : Int → Int} {n p d : Int} (h : p < n) (hd : d = 114 ∨ d = 108 ∨ d = 116 ∨ d = 112 ∨ d = 59) : kd t n p = d ↔ t p = d := by
  unfold kd
  rw [if_neg (by omega)]
  split
  · split <;> omega
  · split <;> omega
theorem en_sign {t : Int → Int} {n p : Int} (h2 : ¬ (48 ≤ t p ∧ t p ≤ 57)) : en t n p = p + 1 := by
  unfold en
  rw [if_neg (by omega)]
theorem tn_ok {t : Int → Int} {n q i v lo hi : Int} (hq : q ≤ n) (hi0 : i = dep t n q) (hv : (if 201 < v then 201 else v) = dvp t n q 0) (hv0 : 0 ≤ v) : (numOK t n q lo hi ↔ (i ≠ q ∧ (i = q + 1 ∨ t q ≠ 48) ∧ v ≤ 200 ∧ lo ≤ v ∧ v ≤ hi)) ∧ (numOK t n q lo hi → vl t n q = v ∧ nx t n q = skp t n i) ∧ (i = q ∨ (q < i ∧ q < n ∧ 48 ≤ t q ∧ t q ≤ 57)) := by
  by_cases h : q < n ∧ 48 ≤ t q ∧ t q ≤ 57
  · have h1 := dep_1 h.1 h.2
    have hk : kd t n q = if 200 < dvp t n q 0 ∨ (t q = 48 ∧ 1 < dep t n q - q) then -3 else -2 := by
      unfold kd
      rw [if_neg (by omega), if_pos h.2]
    have hl : vl t n q = dvp t n q 0 := by unfold vl; rw [if_pos h]
    have he : en t n q = dep t n q := by unfold en; rw [if_pos h]
    rw [← hi0, ← hv] at hk
    rw [← hv] at hl
    rw [← hi0] at he h1
    refine ⟨⟨fun k => ?_, fun k => ?_⟩, fun k => ⟨?_, by unfold nx; rw [he]⟩, Or.inr ⟨by omega, h⟩⟩
    · obtain ⟨k1, k2, k3⟩ := k
      rw [hk] at k1
      rw [hl] at k2 k3
      split at k1
      · omega
      · split at k2 <;> omega
    · obtain ⟨k1, k2, k3, k4, k5⟩ := k
      refine ⟨?_, ?_, ?_⟩
      · rw [hk, if_neg (by split <;> omega)]
      · rw [hl]; split <;> omega
      · rw [hl]; split <;> omega
    · obtain ⟨k1, k2, k3⟩ := k
      rw [hk] at k1
      split at k1
      · omega
      · rw [hl]; split <;> omega
  · have e : i = q := by rw [hi0, dep_e h]
    have hn : ¬ numOK t n q lo hi := by
      intro k
      have hk : kd t n q = -2 := k.1
      unfold kd at hk
      by_cases h2 : q < n
      · rw [if_neg (by omega), if_neg (by omega)] at hk
        split at hk <;> omega
      · rw [if_pos h2] at hk; omega
    exact ⟨⟨fun k => absurd k hn, fun k => by omega⟩, fun k => absurd k hn, Or.inl e⟩
theorem and_1 {sr sl st : Int} (h : (sr = 0 ∨ sr = 1) ∧ (sl = 0 ∨ sl = 1) ∧ (st = 0 ∨ st = 1)) : (((sr + 2 * sl + 4 * st).toNat &&& (1 : Int).toNat : Nat) : Int) = sr ∧ (((sr + 2 * sl + 4 * st).toNat &&& (2 : Int).toNat : Nat) : Int) = 2 * sl ∧ (((sr + 2 * sl + 4 * st).toNat &&& (4 : Int).toNat : Nat) : Int) = 4 * st ∧ (((sr + 2 * sl + 4 * st).toNat &&& (0 : Int).toNat : Nat) : Int) = 0 := by
  obtain ⟨h1, h2, h3⟩ := h
  rcases h1 with rfl | rfl <;> rcases h2 with rfl | rfl <;> rcases h3 with rfl | rfl <;> decide
theorem or_1 {sr sl st : Int} (h : (sr = 0 ∨ sr = 1) ∧ (sl = 0 ∨ sl = 1) ∧ (st = 0 ∨ st = 1)) : (((sr + 2 * sl + 4 * st).toNat ||| (1 : Int).toNat : Nat) : Int) = 1 + 2 * sl + 4 * st ∧ (((sr + 2 * sl + 4 * st).toNat ||| (2 : Int).toNat : Nat) : Int) = sr + 2 * 1 + 4 * st ∧ (((sr + 2 * sl + 4 * st).toNat ||| (4 : Int).toNat : Nat) : Int) = sr + 2 * sl + 4 * 1 ∧ (((sr + 2 * sl + 4 * st).toNat ||| (0 : Int).toNat : Nat) : Int) = sr + 2 * sl + 4 * st := by
  obtain ⟨h1, h2, h3⟩ := h
  rcases h1 with rfl | rfl <;> rcases h2 with rfl | rfl <;> rcases h3 with rfl | rfl <;> decide
