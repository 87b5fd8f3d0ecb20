/-! Pure words: what rings can weigh together, and which are chosen -/
/-- s can be weighed by rings of the first k ORDERS, c o of each ORDER o at most, w o each -/
def RC (c w : Int → Int) : Nat → Int → Prop
  | 0, s => s = 0
  | k + 1, s => ∃ n : Int, 0 ≤ n ∧ n ≤ c k ∧ RC c w k (s - n * w k)
theorem RC_neg {c w : Int → Int} (hw : GW w) : ∀ (k : Nat) (s : Int), k ≤ 5 → s < 0 → ¬ RC c w k s
  | 0, s, _, h, q => by have : s = 0 := q; omega
  | k + 1, s, hk, h, q => by
    obtain ⟨n, h1, h2, h3⟩ := q
    have h4 := hw k (by omega) (by omega)
    have h5 : 0 ≤ n * w k := Int.mul_nonneg h1 h4.1
    exact RC_neg hw k (s - n * w k) (by omega) (by omega) h3
/-- v is the least number of rings (at most hv), of weight wt each, by which s comes to what R holds of; or -1 -/
def FW (R : Int → Prop) (hv wt v s : Int) : Prop := (0 ≤ v ∧ v ≤ hv ∧ v ≤ s ∧ R (s - v * wt) ∧ ∀ n : Int, 0 ≤ n → n < v → ¬ R (s - n * wt)) ∨ (v = -1 ∧ ∀ n : Int, 0 ≤ n → n ≤ hv → ¬ R (s - n * wt))
theorem FW_iff {R : Int → Prop} {hv wt v s : Int} (h : FW R hv wt v s) : 0 ≤ v ↔ ∃ n : Int, 0 ≤ n ∧ n ≤ hv ∧ R (s - n * wt) := by
  rcases h with ⟨h1, h2, h3, h4, h5⟩ | ⟨h1, h2⟩
  · exact ⟨fun _ => ⟨v, h1, h2, h4⟩, fun _ => h1⟩
  · exact ⟨fun q => by omega, fun ⟨n, q1, q2, q3⟩ => absurd q3 (h2 n q1 q2)⟩
theorem FW_rng {R : Int → Prop} {hv wt v s : Int} (h : FW R hv wt v s) (hs : 0 ≤ s ∧ s ≤ 298) : -1 ≤ v ∧ v ≤ 298 := by
  rcases h with ⟨h1, h2, h3, h4, h5⟩ | ⟨h1, h2⟩ <;> omega
theorem FW_0 {R : Int → Prop} {hv wt s : Int} (hh : 0 ≤ hv) (hs : 0 ≤ s) (h : R s) : FW R hv wt 0 s :=
  Or.inl ⟨Int.le_refl 0, hh, hs, by rw [Int.zero_mul, Int.sub_zero]; exact h, fun n h1 h2 => by omega⟩
theorem FW_none {R : Int → Prop} {hv wt s : Int} (hneg : ∀ x, x < 0 → ¬ R x) (h : ¬ R s) (h2 : ¬ (0 < wt ∧ wt ≤ s)) (h0 : 0 ≤ wt) : FW R hv wt (-1) s := by
  refine Or.inr ⟨rfl, fun n h3 h4 q => ?_⟩
  by_cases hw : wt = 0
  · rw [hw, Int.mul_zero, Int.sub_zero] at q; exact h q
  · by_cases hn : n = 0
    · rw [hn, Int.zero_mul, Int.sub_zero] at q; exact h q
    · have h5 : 1 * wt ≤ n * wt := Int.mul_le_mul_of_nonneg_right (by omega) h0
      exact hneg _ (by omega) q
theorem FW_step {R : Int → Prop} {hv wt v s : Int} (h : ¬ R s) (hw : 0 < wt) (hs : wt ≤ s) (hp : FW R hv wt v (s - wt)) : (0 ≤ v ∧ v < hv → FW R hv wt (v + 1) s) ∧ (¬ (0 ≤ v ∧ v < hv) → FW R hv wt (-1) s) := by
  have e : ∀ n : Int, s - wt - n * wt = s - (n + 1) * wt := fun n => by rw [Int.add_mul, Int.one_mul]; omega
  constructor
  · intro q
    rcases hp with ⟨h1, h2, h3, h4, h5⟩ | ⟨h1, h2⟩
    · refine Or.inl ⟨by omega, by omega, by omega, by rw [← e]; exact h4, fun n h6 h7 q2 => ?_⟩
      by_cases hn : n = 0
      · rw [hn, Int.zero_mul, Int.sub_zero] at q2; exact h q2
      · refine h5 (n - 1) (by omega) (by omega) ?_
        rw [e, Int.sub_add_cancel]; exact q2
    · omega
  · intro q
    refine Or.inr ⟨rfl, fun n h6 h7 q2 => ?_⟩
    by_cases hn : n = 0
    · rw [hn, Int.zero_mul, Int.sub_zero] at q2; exact h q2
    · have q3 : R (s - wt - (n - 1) * wt) := by rw [e, Int.sub_add_cancel]; exact q2
      rcases hp with ⟨h1, h2, h3, h4, h5⟩ | ⟨h1, h2⟩
      · by_cases hv1 : n - 1 < v
        · exact h5 (n - 1) (by omega) hv1 q3
        · omega
      · exact h2 (n - 1) (by omega) (by omega) q3
/-- t is the greatest number, cap at most, by which r comes to what R holds of (none, if such a ring weighs nothing) -/
def GRT (cap wt : Int) (R : Int → Prop) (r t : Int) : Prop := (wt = 0 → t = 0) ∧ (0 < wt → 0 ≤ t ∧ t ≤ cap ∧ R (r - t * wt) ∧ ∀ n : Int, t < n → n ≤ cap → ¬ R (r - n * wt))
theorem GRT_uniq {cap wt : Int} {R : Int → Prop} {r t t' : Int} (h0 : 0 ≤ wt) (h : GRT cap wt R r t) (h' : GRT cap wt R r t') : t = t' := by
  by_cases hw : wt = 0
  · rw [h.1 hw, h'.1 hw]
  · obtain ⟨a1, a2, a3, a4⟩ := h.2 (by omega)
    obtain ⟨b1, b2, b3, b4⟩ := h'.2 (by omega)
    rcases Int.lt_trichotomy t t' with q | q | q
    · exact absurd b3 (a4 t' q b2)
    · exact q
    · exact absurd a3 (b4 t q a2)
/-- which are chosen: as many of the greatest ORDER as can be, then of the next .. -/
def CHO (c w T : Int → Int) : Nat → Int → Prop
  | 0, _ => True
  | k + 1, r => GRT (c k) (w k) (RC c w k) r (T k) ∧ CHO c w T k (r - T k * w k)
theorem CHO_uniq {c w T T' : Int → Int} (hw : GW w) : ∀ (k : Nat) (r : Int), k ≤ 5 → CHO c w T k r → CHO c w T' k r → ∀ o : Int, 0 ≤ o → o < k → T o = T' o
  | 0, _, _, _, _, o, h0, h1 => by omega
  | k + 1, r, hk, h, h', o, h0, h1 => by
    have h4 := hw k (by omega) (by omega)
    have e : T k = T' k := GRT_uniq h4.1 h.1 h'.1
    by_cases q : o = k
    · rw [q]; exact e
    · refine CHO_uniq hw k (r - T k * w k) (by omega) h.2 ?_ o h0 (by omega)
      rw [e]; exact h'.2
/-- how many of an ORDER are chosen: not more than there are, none below 0 -/
theorem CHO_bd {c w T : Int → Int} (hw : GW w) (hc : ∀ o : Int, 0 ≤ o → o ≤ 4 → 0 ≤ c o) : ∀ (k : Nat) (r : Int), k ≤ 5 → CHO c w T k r → ∀ o : Int, 0 ≤ o → o < k → 0 ≤ T o ∧ T o ≤ c o
  | 0, _, _, _, o, h0, h1 => by omega
  | k + 1, r, hk, h, o, h0, h1 => by
    by_cases q : o = k
    · have h4 := hw k (by omega) (by omega)
      have h5 := hc k (by omega) (by omega)
      rw [q]
      by_cases hw0 : w k = 0
      · rw [h.1.1 hw0]; omega
      · have := h.1.2 (by omega); omega
    · exact CHO_bd hw hc k (r - T k * w k) (by omega) h.2 o h0 (by omega)
/-- the rows of sums: what is said of place s of row o -/
def cwp (F : Int → Int → Int) (o s : Int) : Prop := if o < 0 then s = 0 else 0 ≤ F o s
def zF (F : Int → Int → Int) (o : Int) (x : Int → Int) : Int → Int → Int := fun k => if k = o then x else F k
theorem zF_s {F : Int → Int → Int} {o : Int} {x : Int → Int} : zF F o x o = x := if_pos rfl
theorem zF_n {F : Int → Int → Int} {o k : Int} {x : Int → Int} (h : k ≠ o) : zF F o x k = F k := if_neg h
theorem zF_zF {F : Int → Int → Int} {o : Int} {x y : Int → Int} : zF (zF F o x) o y = zF F o y := by
  funext k
  by_cases q : k = o
  · rw [q, zF_s, zF_s]
  · rw [zF_n q, zF_n q, zF_n q]
theorem zF_id {F : Int → Int → Int} {o : Int} : zF F o (F o) = F := by
  funext k
  by_cases q : k = o
  · rw [q, zF_s]
  · rw [zF_n q]
def FRok (F : Int → Int → Int) : Prop := ∀ o s : Int, 0 ≤ o → o ≤ 4 → 0 ≤ s → s ≤ 298 → -1 ≤ F o s ∧ F o s ≤ 298
theorem zf_get {ca : Nat → ClassId} {ra : Nat → Nat} {F : Int → Int → Int} {a b : Nat × va_E} {rest : va_W} {o : Int} (h : 0 ≤ o ∧ o ≤ 4) : (a :: b :: (ra 0, aI ca 299 (F 0)) :: (ra 1, aI ca 299 (F 1)) :: (ra 2, aI ca 299 (F 2)) :: (ra 3, aI ca 299 (F 3)) :: (ra 4, aI ca 299 (F 4)) :: rest : va_W)[2 + o.toNat]? = some (ra o.toNat, aI ca 299 (F o)) := by
  rcases (show o = 0 ∨ o = 1 ∨ o = 2 ∨ o = 3 ∨ o = 4 by omega) with rfl | rfl | rfl | rfl | rfl <;> rfl
theorem zf_set {ca : Nat → ClassId} {ra : Nat → Nat} {F : Int → Int → Int} {a b : Nat × va_E} {rest : va_W} {o : Int} {x : Int → Int} (h : 0 ≤ o ∧ o ≤ 4) : (a :: b :: (ra 0, aI ca 299 (F 0)) :: (ra 1, aI ca 299 (F 1)) :: (ra 2, aI ca 299 (F 2)) :: (ra 3, aI ca 299 (F 3)) :: (ra 4, aI ca 299 (F 4)) :: rest : va_W).set (2 + o.toNat) (ra o.toNat, aI ca 299 x) = a :: b :: (ra 0, aI ca 299 (zF F o x 0)) :: (ra 1, aI ca 299 (zF F o x 1)) :: (ra 2, aI ca 299 (zF F o x 2)) :: (ra 3, aI ca 299 (zF F o x 3)) :: (ra 4, aI ca 299 (zF F o x 4)) :: rest := by
  rcases (show o = 0 ∨ o = 1 ∨ o = 2 ∨ o = 3 ∨ o = 4 by omega) with rfl | rfl | rfl | rfl | rfl <;> rfl
/-- of each ORDER so many as T says are taken, the oldest first -/
def ta (b T : Int → Int) : Nat → Int → Int
  | 0 => b
  | k + 1 => tk (ta b T k) (121 * (k : Int)) (T k)
theorem ta_s (b T : Int → Int) {o : Int} (h : 0 ≤ o) : ta b T (o + 1).toNat = tk (ta b T o.toNat) (121 * o) (T o) := by
  obtain ⟨k, rfl⟩ : ∃ k : Nat, o = k := ⟨o.toNat, by omega⟩
  rw [show ((k : Int) + 1).toNat = k + 1 by omega, show ((k : Int)).toNat = k by omega]
  rfl
theorem GB_tk {b : Int → Int} {n a q : Int} (h : GB b n) : GB (tk b a q) n := by
  refine ⟨h.1, fun o k h1 h2 h3 h4 => ?_, fun o k h1 h2 h3 h4 => ?_⟩
  · have h5 := h.2.1 o k h1 h2 h3 h4
    unfold tk
    split <;> omega
  · have h5 := h.2.2 o k h1 h2 h3 h4
    unfold tk
    split <;> omega
theorem GB_ta {b T : Int → Int} {n : Int} (h : GB b n) : ∀ k : Nat, GB (ta b T k) n
  | 0 => h
  | k + 1 => GB_tk (GB_ta h k)
theorem FRok_set {G : Int → Int → Int} {o sx x : Int} (h : FRok G) (hx : -1 ≤ x ∧ x ≤ 298) : FRok (zF G o (zu (G o) sx x)) := by
  intro k s h1 h2 h3 h4
  by_cases q : k = o
  · rw [q, zF_s, zu_e]
    split
    · exact hx
    · exact h o s (by omega) (by omega) h3 h4
  · rw [zF_n q]; exact h k s h1 h2 h3 h4
theorem fill_go {G : Int → Int → Int} {o sx x hv ec : Int} {R : Int → Prop} (h : ∀ s : Int, 0 ≤ s → s < sx → FW R hv ec (G o s) s) (hx : FW R hv ec x sx) : ∀ s : Int, 0 ≤ s → s < sx + 1 → FW R hv ec (zF G o (zu (G o) sx x) o s) s := by
  intro s h1 h2
  rw [zF_s, zu_e]
  split
  · rename_i q; rw [q]; exact hx
  · exact h s h1 (by omega)
/-- what is chosen weighs no more than the sum, so it is no more than that many rings -/
theorem CHO_rng {c w T : Int → Int} (hw : GW w) : ∀ (k : Nat) (r : Int), k ≤ 5 → 0 ≤ r → CHO c w T k r → ∀ o : Int, 0 ≤ o → o < k → 0 ≤ T o ∧ T o ≤ r
  | 0, _, _, _, _, o, h0, h1 => by omega
  | k + 1, r, hk, hr, h, o, h0, h1 => by
    have h4 := hw k (by omega) (by omega)
    have hT : 0 ≤ T k ∧ T k ≤ r ∧ 0 ≤ r - T k * w k ∧ r - T k * w k ≤ r := by
      by_cases hw0 : w k = 0
      · rw [h.1.1 hw0]; omega
      · obtain ⟨a1, a2, a3, a4⟩ := h.1.2 (by omega)
        have h5 : 0 ≤ r - T k * w k := by
          rcases Int.lt_or_le (r - T k * w k) 0 with q | q
          · exact absurd a3 (RC_neg hw k _ (by omega) q)
          · exact q
        have h6 : T k * 1 ≤ T k * w k := Int.mul_le_mul_of_nonneg_left (by omega) a1
        omega
    by_cases q : o = k
    · rw [q]; omega
    · have := CHO_rng hw k (r - T k * w k) (by omega) hT.2.2.1 h.2 o h0 (by omega)
      omega
/-- the least sum, at least w0 -/
def LST (c w : Int → Int) (w0 s : Int) : Prop := w0 ≤ s ∧ s ≤ 298 ∧ RC c w 5 s ∧ ∀ x : Int, w0 ≤ x → x < s → ¬ RC c w 5 x
theorem LST_uniq {c w : Int → Int} {w0 s s' : Int} (h : LST c w w0 s) (h' : LST c w w0 s') : s = s' := by
  obtain ⟨a1, a2, a3, a4⟩ := h
  obtain ⟨b1, b2, b3, b4⟩ := h'
  rcases Int.lt_trichotomy s s' with q | q | q
  · exact absurd a3 (b4 s a1 q)
  · exact q
  · exact absurd b3 (a4 s' b1 q)
theorem cho_step {c w T2 T3 T' : Int → Int} {o r wt : Int} (ho : 0 ≤ o) (hN : ∀ k : Int, k ≠ o → T3 k = T2 k) (hG : GRT (c o) (w o) (RC c w o.toNat) r (T3 o)) (h : ∀ T' : Int → Int, (∀ k : Int, o < k → k ≤ 4 → T' k = T2 k) → CHO c w T' (o + 1).toNat r → CHO c w T' 5 wt) (h1 : ∀ k : Int, o - 1 < k → k ≤ 4 → T' k = T3 k) (h4 : o ≤ 4) (h2 : CHO c w T' o.toNat (r - T3 o * w o)) : CHO c w T' 5 wt := by
  refine h T' (fun k q1 q2 => by rw [h1 k (by omega) q2, hN k (by omega)]) ?_
  obtain ⟨k, rfl⟩ : ∃ k : Nat, o = k := ⟨o.toNat, by omega⟩
  rw [show ((k : Int) + 1).toNat = k + 1 by omega]
  rw [show ((k : Int)).toNat = k by omega] at hG h2
  have e := h1 k (by omega) h4
  exact ⟨by rw [e]; exact hG, by rw [e]; exact h2⟩
theorem grt_found {c wt r t most : Int} {R : Int → Prop} (hw : 0 < wt) (ht : 0 ≤ t ∧ t ≤ most) (hc : most ≤ c) (hR : R (r - t * wt)) (hneg : ∀ x, x < 0 → ¬ R x) (hm : ∀ n : Int, most < n → n ≤ c → r - n * wt < 0) (hn : ∀ n : Int, t < n → n ≤ most → ¬ R (r - n * wt)) : GRT c wt R r t := by
  refine ⟨fun q => by omega, fun _ => ⟨ht.1, by omega, hR, fun n h1 h2 q => ?_⟩⟩
  by_cases hk : n ≤ most
  · exact hn n h1 hk q
  · exact hneg _ (hm n (by omega) h2) q
theorem most_neg {r wt most c n : Int} (hw : 0 < wt) (hm : most = if r / wt < c then r / wt else c) (h : most < n) (hc : n ≤ c) : r - n * wt < 0 := by
  have h1 : r / wt < n := by
    by_cases q : r / wt < c
    · rw [if_pos q] at hm; omega
    · rw [if_neg q] at hm; omega
  have h2 : (r / wt + 1) * wt ≤ n * wt := Int.mul_le_mul_of_nonneg_right (by omega) (by omega)
  have h3 := Int.lt_ediv_add_one_mul_self r hw
  omega
theorem most_le {r wt n : Int} (hw : 0 < wt) (hr : 0 ≤ r) (h : n ≤ r / wt) : n * wt ≤ r := by
  have h2 : n * wt ≤ r / wt * wt := Int.mul_le_mul_of_nonneg_right h (by omega)
  have h3 := Int.ediv_mul_le r (show wt ≠ 0 by omega)
  omega
theorem grt_a {c wt r t most : Int} {R : Int → Prop} (hw : 0 ≤ wt) (hm : (wt = 0 ∧ most = 0) ∨ (0 < wt ∧ most ≤ c ∧ most * wt ≤ r ∧ ∀ x : Int, most < x → x ≤ c → r - x * wt < 0)) (ht : 0 ≤ t ∧ t ≤ most) (hR : R (r - t * wt)) (hneg : ∀ x, x < 0 → ¬ R x) (hn : ∀ n : Int, t < n → n ≤ most → ¬ R (r - n * wt)) : GRT c wt R r t := by
  rcases hm with hm | hm
  · exact ⟨fun _ => by omega, fun q => by omega⟩
  · exact grt_found hm.1 ht hm.2.1 hR hneg hm.2.2.2 hn
theorem grt_b {c wt r most : Int} {R : Int → Prop} (hw : 0 ≤ wt) (hm : (wt = 0 ∧ most = 0) ∨ (0 < wt ∧ most ≤ c ∧ most * wt ≤ r ∧ ∀ x : Int, most < x → x ≤ c → r - x * wt < 0)) (hex : ∃ n : Int, 0 ≤ n ∧ n ≤ c ∧ R (r - n * wt)) (hm0 : 0 ≤ most) (hneg : ∀ x, x < 0 → ¬ R x) (hn : ∀ n : Int, 0 < n → n ≤ most → ¬ R (r - n * wt)) : GRT c wt R r 0 := by
  rcases hm with hm | hm
  · exact ⟨fun _ => rfl, fun q => by omega⟩
  · obtain ⟨n, h1, h2, h3⟩ := hex
    have h0 : n = 0 := by
      rcases Int.lt_or_le 0 n with q | q
      · by_cases h4 : n ≤ most
        · exact absurd h3 (hn n q h4)
        · exact absurd h3 (hneg _ (hm.2.2.2 n (by omega) h2))
      · omega
    rw [h0] at h3
    exact grt_found hm.1 ⟨Int.le_refl 0, hm0⟩ hm.2.1 h3 hneg hm.2.2.2 hn
theorem grt_rng {c wt r t : Int} {R : Int → Prop} (hw : 0 ≤ wt) (h : GRT c wt R r t) (hneg : ∀ x, x < 0 → ¬ R x) (hr : 0 ≤ r) : 0 ≤ r - t * wt ∧ r - t * wt ≤ r := by
  by_cases q : wt = 0
  · rw [q, Int.mul_zero]; omega
  · obtain ⟨a1, a2, a3, a4⟩ := h.2 (by omega)
    have h5 : 0 ≤ t * wt := Int.mul_nonneg a1 hw
    refine ⟨?_, by omega⟩
    rcases Int.lt_or_le (r - t * wt) 0 with q | q
    · exact absurd a3 (hneg _ q)
    · exact q
theorem RC_ex {c w : Int → Int} {o s : Int} (h : 0 ≤ o) (q : RC c w (o + 1).toNat s) : ∃ n : Int, 0 ≤ n ∧ n ≤ c o ∧ RC c w o.toNat (s - n * w o) := by
  obtain ⟨k, rfl⟩ : ∃ k : Nat, o = k := ⟨o.toNat, by omega⟩
  rw [show ((k : Int) + 1).toNat = k + 1 by omega] at q
  rw [show ((k : Int)).toNat = k by omega]
  exact q
