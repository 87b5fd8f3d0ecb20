/-! Pure words: the other class's table of sums -/
/-- rows 0 .. K of 301 places are right, and row K+1 up to place S -/
def CN (cn c w : Int → Int) (K S : Int) : Prop := ∀ o s : Int, 0 ≤ o → 0 ≤ s → s ≤ 300 → (o ≤ K ∨ (o = K + 1 ∧ s < S)) → (cn (301 * o + s) = 1 ∧ RC c w o.toNat s) ∨ (cn (301 * o + s) = 0 ∧ ¬ RC c w o.toNat s)
theorem CN_zu {cn c w : Int → Int} {K S y i : Int} (h : CN cn c w K S) (hK : 0 ≤ K) (hS : 0 ≤ S ∧ S ≤ 300) (hi : i = 301 * (K + 1) + S) (hy : (y = 1 ∧ RC c w (K + 1).toNat S) ∨ (y = 0 ∧ ¬ RC c w (K + 1).toNat S)) : CN (zu cn i y) c w K (S + 1) := by
  intro o s h1 h2 h3 h4
  by_cases q : o = K + 1 ∧ s = S
  · rw [q.1, q.2, hi, zu_s]; exact hy
  · rw [zu_n (by omega)]
    exact h o s h1 h2 h3 (by omega)
theorem CN_row {cn c w : Int → Int} {K : Int} (h : CN cn c w K 301) : CN cn c w (K + 1) 0 := fun o s h1 h2 h3 h4 => h o s h1 h2 h3 (by omega)
theorem cn_none {c w : Int → Int} {o s cap n : Int} (hw : GW w) (h0 : 0 ≤ o) (h4 : o ≤ 4) (hs : 0 ≤ s ∧ s ≤ 300) (hcap : cap = if 300 < c o then 300 else c o) (hno : ∀ k : Int, 0 ≤ k → k < n → ¬ RC c w o.toNat (s - k * w o)) (hn : cap < n ∨ (0 ≤ n ∧ s < n * w o)) : ¬ RC c w (o + 1).toNat s := by
  intro q
  obtain ⟨k, k1, k2, k3⟩ := RC_ex h0 q
  have hwo := hw o h0 h4
  have hk : 0 ≤ s - k * w o := by
    rcases Int.lt_or_le (s - k * w o) 0 with h | h
    · exact absurd k3 (RC_neg hw _ _ (by omega) h)
    · exact h
  rcases hn with hn | hn
  · by_cases h5 : k < n
    · exact hno k k1 h5 k3
    · have h6 : 300 < k := by split at hcap <;> omega
      have h7 : w o = 0 := by
        rcases Int.lt_or_le 0 (w o) with h | h
        · have : k * 1 ≤ k * w o := Int.mul_le_mul_of_nonneg_left (by omega) k1
          omega
        · omega
      rw [h7, Int.mul_zero] at k3
      refine hno 0 (by omega) (by split at hcap <;> omega) ?_
      rw [Int.zero_mul]; exact k3
  · have h5 : k < n := by
      rcases Int.lt_or_le k n with h | h
      · exact h
      · have : n * w o ≤ k * w o := Int.mul_le_mul_of_nonneg_right h hwo.1
        omega
    exact hno k k1 h5 k3
theorem cn_some {c w : Int → Int} {o s n cap : Int} (h0 : 0 ≤ o) (hcap : cap = if 300 < c o then 300 else c o) (h1 : 0 ≤ n) (h2 : n ≤ cap) (h3 : RC c w o.toNat (s - n * w o)) : RC c w (o + 1).toNat s := by
  obtain ⟨k, rfl⟩ : ∃ k : Nat, o = k := ⟨o.toNat, by omega⟩
  rw [show ((k : Int) + 1).toNat = k + 1 by omega]
  rw [show ((k : Int)).toNat = k by omega] at h3
  exact ⟨n, h1, by split at hcap <;> omega, h3⟩
/-- of the least sum -/
theorem ls_299 {c w : Int → Int} {x s : Int} (hw : GW w) (hx : 1 ≤ x ∧ x ≤ 200) (h1 : x ≤ s) (h2 : RC c w 5 s) (h3 : ∀ y : Int, x ≤ y → y < s → ¬ RC c w 5 y) : LST c w x s := by
  refine ⟨h1, ?_, h2, h3⟩
  rcases Int.lt_or_le 298 s with h | h
  · obtain ⟨s', g1, g2, g3⟩ := RC_less hw 5 s (by omega) (by omega) h2
    exact absurd g3 (h3 s' (by omega) g2)
  · exact h
theorem grt_c {cap c wt r t most : Int} {R : Int → Prop} (hw : 0 ≤ wt) (hcap : cap = if 300 < c then 300 else c) (hr : 0 ≤ r ∧ r ≤ 300) (hm : (wt = 0 ∧ most = 0) ∨ (0 < wt ∧ most = if cap < r / wt then cap else r / wt)) (ht : 0 ≤ t ∧ t ≤ most) (hR : R (r - t * wt)) (hneg : ∀ x, x < 0 → ¬ R x) (hn : ∀ n : Int, t < n → n ≤ most → ¬ R (r - n * wt)) : GRT c wt R r t := by
  rcases hm with hm | hm
  · exact ⟨fun _ => by omega, fun q => by omega⟩
  · have hd := Int.lt_ediv_add_one_mul_self r hm.1
    have hd2 := Int.ediv_mul_le r (show wt ≠ 0 by omega)
    have h9 : ∀ n : Int, r / wt < n → r - n * wt < 0 := fun n hn => by
      have : (r / wt + 1) * wt ≤ n * wt := Int.mul_le_mul_of_nonneg_right (by omega) hw
      omega
    have h8 : r / wt ≤ r := Int.ediv_le_self wt hr.1
    have h7 : 0 ≤ r / wt := Int.ediv_nonneg hr.1 hw
    refine ⟨fun q => by omega, fun _ => ⟨ht.1, ?_, hR, fun n h1 h2 q => ?_⟩⟩
    · have := hm.2
      split at this <;> split at hcap <;> omega
    · by_cases h3 : n ≤ most
      · exact hn n h1 h3 q
      · refine hneg _ (h9 n ?_) q
        have := hm.2
        split at this <;> split at hcap <;> omega
theorem ex_most {cap c wt r most : Int} {R : Int → Prop} (hw : 0 ≤ wt) (hcap : cap = if 300 < c then 300 else c) (hr : 0 ≤ r ∧ r ≤ 300) (hm : (wt = 0 ∧ most = 0) ∨ (0 < wt ∧ most = if cap < r / wt then cap else r / wt)) (hneg : ∀ x, x < 0 → ¬ R x) (hex : ∃ n : Int, 0 ≤ n ∧ n ≤ c ∧ R (r - n * wt)) : ∃ n : Int, 0 ≤ n ∧ n ≤ most ∧ R (r - n * wt) := by
  obtain ⟨n, h1, h2, h3⟩ := hex
  rcases hm with hm | hm
  · refine ⟨0, by omega, by omega, ?_⟩
    rw [hm.1, Int.mul_zero] at h3
    rw [hm.1, Int.mul_zero]; exact h3
  · have hd := Int.lt_ediv_add_one_mul_self r hm.1
    have h8 : r / wt ≤ r := Int.ediv_le_self wt hr.1
    have h6 : n ≤ r / wt := by
      rcases Int.lt_or_le (r / wt) n with h | h
      · have : (r / wt + 1) * wt ≤ n * wt := Int.mul_le_mul_of_nonneg_right (by omega) hw
        exact absurd h3 (hneg _ (by omega))
      · exact h
    refine ⟨n, h1, ?_, h3⟩
    have := hm.2
    split at this <;> split at hcap <;> omega
theorem AT_ta {d b T : Int → Int} {h n m : Int} (hB : GB b n) (ha : AT d h b n m) : ∀ k : Nat, GB (ta b T k) n := fun k => GB_ta hB k
