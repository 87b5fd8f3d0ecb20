theorem bl {dn : Int → Int} {n : Int} : ∀ k : Nat, (ld dn n k = n ∨ ∃ j : Int, 0 ≤ j ∧ j < k ∧ dn j = ld dn n k) ∧ ∀ j : Int, 0 ≤ j → j < k → dn j ≤ ld dn n k
  | 0 => ⟨Or.inl rfl, fun j h1 h2 => by omega⟩
  | k + 1 => by
    have h := bl (dn := dn) (n := n) k
    have e := ld_s dn n (i := (k : Int)) (by omega)
    rw [show ((k : Int) + 1).toNat = k + 1 by omega, show ((k : Int)).toNat = k by omega] at e
    rw [e]
    refine ⟨?_, fun j h1 h2 => ?_⟩
    · split
      · exact Or.inr ⟨k, by omega, by omega, rfl⟩
      · rcases h.1 with h | ⟨j, h1, h2, h3⟩
        · exact Or.inl h
        · exact Or.inr ⟨j, h1, by omega, h3⟩
    · by_cases q : j = k
      · rw [q]; split <;> omega
      · have := h.2 j h1 (by omega)
        split <;> omega
theorem pdi_none {w dn dw : Int → Int} {nt : Int} : ∀ (k : Nat) (i : Int) (b : Int → Int) (lt : Int), (∀ j : Int, i ≤ j → j < i + k → dn j ≠ nt) → pdi w dn dw nt k i b lt = (-9, b, lt)
  | 0, _, _, _, _ => rfl
  | k + 1, i, b, lt, h => by
    rw [pdi_o (h i (by omega) (by omega))]
    exact pdi_none k (i + 1) b lt (fun j h1 h2 => h j (by omega) (by omega))
theorem pds_none {w ea dn dw : Int → Int} {mo du : Int} : ∀ (k : Nat) (nt : Int) (b : Int → Int) (lt : Int), (∀ j : Int, 0 ≤ j → j < du → dn j ≤ nt) → (pds w ea dn dw mo du k nt b lt).1 = -9 ∧ (pds w ea dn dw mo du k nt b lt).2.2 = lt
  | 0, _, _, _, _ => ⟨rfl, rfl⟩
  | k + 1, nt, b, lt, h => by
    have e := pdi_none (w := w) (dn := dn) (dw := dw) (nt := nt + 1) du.toNat 0 (gs w ea mo (nt + 1) b 4).1 lt (fun j h1 h2 => by have := h j h1 (by omega); omega)
    rw [pds_s (by rw [e]), e]
    exact pds_none k (nt + 1) _ lt (fun j h1 h2 => by have := h j h1 h2; omega)
theorem pdi_w {w dn dw : Int → Int} {nt : Int} : ∀ (k : Nat) (i : Int) (b : Int → Int) (lt : Int), 0 ≤ i → (pdi w dn dw nt k i b lt).1 = -9 → (lt = wgt b w nt ∨ ∃ j : Int, i ≤ j ∧ j < i + k ∧ dn j = nt) → (pdi w dn dw nt k i b lt).2.2 = wgt (pdi w dn dw nt k i b lt).2.1 w nt
  | 0, i, b, lt, h0, h1, h2 => by
    rcases h2 with h2 | ⟨j, a, c, d⟩
    · exact h2
    · omega
  | k + 1, i, b, lt, h0, h1, h2 => by
    by_cases q : dn i = nt
    · by_cases q2 : canP (cnt b nt) w (dw i)
      · rw [pdi_p q q2] at h1 ⊢
        exact pdi_w k (i + 1) _ _ (by omega) h1 (Or.inl rfl)
      · rw [pdi_n q q2] at h1
        have h1 : i = -9 := h1
        omega
    · rw [pdi_o q] at h1 ⊢
      refine pdi_w k (i + 1) _ _ (by omega) h1 ?_
      rcases h2 with h2 | ⟨j, a, c, d⟩
      · exact Or.inl h2
      · exact Or.inr ⟨j, by by_cases e : j = i; (exfalso; rw [e] at d; exact q d); omega, by omega, d⟩
theorem GB_pdi {w dn dw : Int → Int} {nt : Int} : ∀ (k : Nat) (i : Int) (b : Int → Int) (lt : Int), GB b nt → GB (pdi w dn dw nt k i b lt).2.1 nt
  | 0, _, _, _, h => h
  | k + 1, i, b, lt, h => by
    by_cases q : dn i = nt
    · by_cases q2 : canP (cnt b nt) w (dw i)
      · rw [pdi_p q q2]
        exact GB_pdi k (i + 1) _ _ (GB_ta h 5)
      · rw [pdi_n q q2]
        exact h
    · rw [pdi_o q]
      exact GB_pdi k (i + 1) _ _ h
/-- the first DUE that can't be met isn't told by what the last weighed -/
theorem pdi_lt {w dn dw : Int → Int} {nt : Int} : ∀ (k : Nat) (i : Int) (b : Int → Int) (lt lt' : Int), (pdi w dn dw nt k i b lt).1 = (pdi w dn dw nt k i b lt').1 ∧ (pdi w dn dw nt k i b lt).2.1 = (pdi w dn dw nt k i b lt').2.1
  | 0, _, _, _, _ => ⟨rfl, rfl⟩
  | k + 1, i, b, lt, lt' => by
    by_cases q : dn i = nt
    · by_cases q2 : canP (cnt b nt) w (dw i)
      · rw [pdi_p q q2, pdi_p q q2]
        exact ⟨rfl, rfl⟩
      · rw [pdi_n q q2, pdi_n q q2]
        exact ⟨rfl, rfl⟩
    · rw [pdi_o q, pdi_o q]
      exact pdi_lt k (i + 1) b lt lt'
theorem pds_lt {w ea dn dw : Int → Int} {mo du : Int} : ∀ (k : Nat) (nt : Int) (b : Int → Int) (lt lt' : Int), (pds w ea dn dw mo du k nt b lt).1 = (pds w ea dn dw mo du k nt b lt').1
  | 0, _, _, _, _ => rfl
  | k + 1, nt, b, lt, lt' => by
    have e := pdi_lt (w := w) (dn := dn) (dw := dw) (nt := nt + 1) du.toNat 0 (gs w ea mo (nt + 1) b 4).1 lt lt'
    by_cases q : (pdi w dn dw (nt + 1) du.toNat 0 (gs w ea mo (nt + 1) b 4).1 lt).1 = -9
    · rw [pds_s q, pds_s (by rw [← e.1]; exact q), e.2]
      exact pds_lt k (nt + 1) _ _ _
    · rw [pds_f q, pds_f (by rw [← e.1]; exact q)]
      exact e.1
set_option maxHeartbeats 4000000 in
set_option maxRecDepth 100000 in
theorem k_X7_payDuesOf (l : Launch) (g : va_G) (ca : Nat → ClassId) (h7 : Nat) (hd : Nat) (h0 : Nat) (s0 : Nat) (hp : Nat) (hi : Nat) (hc : Nat) (hg : Nat) (hq : Nat) (hz : Nat) (hL : Nat) (hy : Nat) (s1 : Nat) (sb : Int → Int) (sn : Int) (slm : Int) (hw : Nat) (he : Nat) (hdn : Nat) (hdw : Nat) (w : Int → Int) (ea : Int → Int) (du : Int) (hv : Int) (mo : Int) (oft : Int) (la : Int) (pA : Int) (pB : Int) (hf : Nat) (hk : Nat) (rw : Nat → Option Nat) (ra : Nat → Nat) (F : Int → Int → Int) (T : Int → Int) (wt : Int) (dn : Int → Int) (dw : Int → Int) (t0 : Int) (lt : Int) (hrw : ∀ k : Nat, k < 5 → rw k = some (ra k)) (hF : FRok F) (hB : GB sb sn) (hW : GW w) (hDU : DUok dn dw du) (hsn : sn = t0 ∧ 0 ≤ t0 ∧ t0 ≤ 120) : zI (S := (Int → Int → Int) × (Int → Int) × Int × (Int → Int)) l yX7_payDuesOf wsX7_payDuesOf ({ frames := 3, cells := 0, slots := 0, locals := 75 } : Room) g ca [.ref h7, vI t0] [(h7, oB 7 [.ref hd, .ref h0, .ref s0, .ref hp, .ref hi, .ref hc, .ref hg, .ref hq, .ref hz, .ref hL, .ref hy]), (s0, oB 6 [.ref s1, vI sn, vJ slm]), (s1, aJ ca 605 sb), (hL, oB 2 [.ref hw, .ref he, .ref hdn, .ref hdw, vI du, vI hv, vI mo, vI oft, vI la, vI pA, vI pB]), (hw, aI ca 5 w), (he, aI ca 5 ea), (hq, oB 4 [.ref hf, .ref hk, vI wt]), (hf, aQ ca 5 rw), (ra 0, aI ca 299 (F 0)), (ra 1, aI ca 299 (F 1)), (ra 2, aI ca 299 (F 2)), (ra 3, aI ca 299 (F 3)), (ra 4, aI ca 299 (F 4)), (hk, aI ca 5 T), (hdn, aI ca 6 dn), (hdw, aI ca 6 dw)] (fun (z : Int) (u : (Int → Int → Int) × (Int → Int) × Int × (Int → Int)) => FRok u.1 ∧ z = (pdi w dn dw sn du.toNat 0 sb lt).1 ∧ (z = -9 → u.2.2.2 = (pdi w dn dw sn du.toNat 0 sb lt).2.1)) (fun (u : (Int → Int → Int) × (Int → Int) × Int × (Int → Int)) => [(h7, oB 7 [.ref hd, .ref h0, .ref s0, .ref hp, .ref hi, .ref hc, .ref hg, .ref hq, .ref hz, .ref hL, .ref hy]), (s0, oB 6 [.ref s1, vI sn, vJ slm]), (s1, aJ ca 605 u.2.2.2), (hL, oB 2 [.ref hw, .ref he, .ref hdn, .ref hdw, vI du, vI hv, vI mo, vI oft, vI la, vI pA, vI pB]), (hw, aI ca 5 w), (he, aI ca 5 ea), (hq, oB 4 [.ref hf, .ref hk, vI u.2.2.1]), (hf, aQ ca 5 rw), (ra 0, aI ca 299 (u.1 0)), (ra 1, aI ca 299 (u.1 1)), (ra 2, aI ca 299 (u.1 2)), (ra 3, aI ca 299 (u.1 3)), (ra 4, aI ca 299 (u.1 4)), (hk, aI ca 5 u.2.1), (hdn, aI ca 6 dn), (hdw, aI ca 6 dw)]) 0 0 := by
  refine zm_I (cc := cX7_payDuesOf) (maxL := 3) (ret := some .int) (by decide) rfl (Nat.le_of_ble_eq_true rfl) ?_
  intro p e s m below meth c A ls R args Q hR hargs hQ hx hb hml hr hts hown hlk hnm hK hP hD hA hS hl
  have hown : s.vm.findClass RX7 = some m.cls := hown
  have hl : lv_has ls 3 [(0, .ref h7), (1, vI t0)] := hl
  have lk_f65 : (Cond.fieldLink RX7 65 "DripRings" "law" "LDripRings$Law;").before args s = true := hts _ (by decide +kernel)
  have inF_X7 : ∀ w ∈ wsX70, w ∈ wsX7_payDuesOf := by decide +kernel
  have lk_f115 : (Cond.fieldLink RX7 115 "DripRings$Law" "dues" "I").before args s = true := hts _ (by decide +kernel)
  have inF_X2 : ∀ w ∈ wsX20, w ∈ wsX7_payDuesOf := by decide +kernel
  have lk_f119 : (Cond.fieldLink RX7 119 "DripRings$Law" "dueNights" "[I").before args s = true := hts _ (by decide +kernel)
  have lk_f51 : (Cond.fieldLink RX7 51 "DripRings" "payment" "LDripRings$Payment;").before args s = true := hts _ (by decide +kernel)
  have lk_f23 : (Cond.fieldLink RX7 23 "DripRings" "scratch" "LDripRings$Rings;").before args s = true := hts _ (by decide +kernel)
  have lk_f122 : (Cond.fieldLink RX7 122 "DripRings$Law" "dueWeights" "[I").before args s = true := hts _ (by decide +kernel)
  have hdu := hDU.1
  refine lv_iconst (v := Int32.ofInt 0) hx hb dX7_payDuesOf_0 rfl ?_
  refine lv_istore_n (lv' := [(2, vI 0), (0, .ref h7), (1, vI t0)]) hx hb dX7_payDuesOf_1 rfl hl (by decide) rfl (fun ls hl => ?_)
  have L2 : ∀ (N2 : Nat) (jj : Int) (f : Int → Int) (G : Int → Int → Int) (T2 : Int → Int) (wt2 : Int) (lt2 : Int) (kk : Nat) (hj : 0 ≤ jj ∧ jj + kk = du) (hG : FRok G) (hB2 : GB f sn) (hv2 : pdi w dn dw sn kk jj f lt2 = (pdi w dn dw sn du.toNat 0 sb lt)) (hμ : kk < N2) (H : Heap) (locs : List Loc) (hP : va_P g vwCl [(h7, oB 7 [.ref hd, .ref h0, .ref s0, .ref hp, .ref hi, .ref hc, .ref hg, .ref hq, .ref hz, .ref hL, .ref hy]), (s0, oB 6 [.ref s1, vI sn, vJ slm]), (s1, aJ ca 605 f), (hL, oB 2 [.ref hw, .ref he, .ref hdn, .ref hdw, vI du, vI hv, vI mo, vI oft, vI la, vI pA, vI pB]), (hw, aI ca 5 w), (he, aI ca 5 ea), (hq, oB 4 [.ref hf, .ref hk, vI wt2]), (hf, aQ ca 5 rw), (ra 0, aI ca 299 (G 0)), (ra 1, aI ca 299 (G 1)), (ra 2, aI ca 299 (G 2)), (ra 3, aI ca 299 (G 3)), (ra 4, aI ca 299 (G 4)), (hk, aI ca 5 T2), (hdn, aI ca 6 dn), (hdw, aI ca 6 dw)] H) (hD : va_D A [(h7, oB 7 [.ref hd, .ref h0, .ref s0, .ref hp, .ref hi, .ref hc, .ref hg, .ref hq, .ref hz, .ref hL, .ref hy]), (s0, oB 6 [.ref s1, vI sn, vJ slm]), (s1, aJ ca 605 f), (hL, oB 2 [.ref hw, .ref he, .ref hdn, .ref hdw, vI du, vI hv, vI mo, vI oft, vI la, vI pA, vI pB]), (hw, aI ca 5 w), (he, aI ca 5 ea), (hq, oB 4 [.ref hf, .ref hk, vI wt2]), (hf, aQ ca 5 rw), (ra 0, aI ca 299 (G 0)), (ra 1, aI ca 299 (G 1)), (ra 2, aI ca 299 (G 2)), (ra 3, aI ca 299 (G 3)), (ra 4, aI ca 299 (G 4)), (hk, aI ca 5 T2), (hdn, aI ca 6 dn), (hdw, aI ca 6 dw)]) (hS : va_S A s.heap H locs) (ls : Array Slot) (hl : lv_has ls 3 [(2, vI jj), (0, .ref h7), (1, vI t0)]), W p l e R s m args below meth c H locs 0 0 Q (F0 m 2 ls []) := by
    intro N2; induction N2 with
    | zero => intro jj f G T2 wt2 lt2 kk hj hG hB2 hv2 hμ; exact absurd hμ (Nat.not_lt_zero _)
    | succ N2 ih2 =>
      intro jj f G T2 wt2 lt2 kk hj hG hB2 hv2 hμ H locs hP hD hS ls hl
      refine lv_iload_n hx hb dX7_payDuesOf_2 rfl (lv_at hl 0 rfl) ?_
      refine lv_aload_n hx hb dX7_payDuesOf_3 rfl (lv_at hl 1 rfl) ?_
      refine va_get (D := g) (ci := 7) (v := .ref hL) (C := RX7) (T := TX7) (N := 11) hx hb hts inF_X7 hown hK.1 hP 0 rfl rfl 9 (by decide) lk_f65 (fun _ h9 => h9) rfl dX7_payDuesOf_4 ?_
      refine va_get (D := g) (ci := 2) (v := vI du) (C := RX2) (T := TX2) (N := 11) hx hb hts inF_X2 hown hK.1 hP 3 rfl rfl 4 (by decide) lk_f115 (fun _ h9 => h9) rfl dX7_payDuesOf_7 ?_
      refine ri_icmp_ge (tgt := 72) hx hb dX7_payDuesOf_10 (by decide) ⟨by omega, by omega⟩ ⟨by omega, by omega⟩ (fun c10 => ?_) (fun c10 => ?_)
      · skip
        refine lv_bipush (v := Int32.ofInt (-9)) hx hb dX7_payDuesOf_72 (by decide) ?_
        refine zr_I hx hb hr hlk hQ (G, T2, wt2, f) hP hD hS dX7_payDuesOf_74 (Nat.le_of_ble_eq_true rfl) (Nat.le_of_ble_eq_true rfl) ?_
        show FRok G ∧ (-9) = (pdi w dn dw sn du.toNat 0 sb lt).1 ∧ ((-9) = -9 → f = (pdi w dn dw sn du.toNat 0 sb lt).2.1)
        rw [show kk = 0 by omega] at hv2
        rw [← hv2]
        exact ⟨hG, rfl, fun _ => rfl⟩
      · skip
        obtain ⟨kk1, rfl⟩ : ∃ q, kk = q + 1 := ⟨kk - 1, by omega⟩
        have hd13 := hDU.2 jj (by omega) (by omega)
        refine lv_aload_n hx hb dX7_payDuesOf_13 rfl (lv_at hl 1 rfl) ?_
        refine va_get (D := g) (ci := 7) (v := .ref hL) (C := RX7) (T := TX7) (N := 11) hx hb hts inF_X7 hown hK.1 hP 0 rfl rfl 9 (by decide) lk_f65 (fun _ h9 => h9) rfl dX7_payDuesOf_14 ?_
        refine va_get (D := g) (ci := 2) (v := .ref hdn) (C := RX2) (T := TX2) (N := 11) hx hb hts inF_X2 hown hK.1 hP 3 rfl rfl 2 (by decide) lk_f119 (fun _ h9 => h9) rfl dX7_payDuesOf_17 ?_
        refine lv_iload_n hx hb dX7_payDuesOf_20 rfl (lv_at hl 0 rfl) ?_
        refine ra_ild hx hb hK hP 14 rfl dX7_payDuesOf_21 ⟨by omega, by omega⟩ (by omega) ?_
        refine lv_iload_n hx hb dX7_payDuesOf_22 rfl (lv_at hl 2 rfl) ?_
        refine ri_icmp_ne (tgt := 66) hx hb dX7_payDuesOf_23 (by decide) ⟨by omega, by omega⟩ ⟨by omega, by omega⟩ (fun c23 => ?_) (fun c23 => ?_)
        · skip
          obtain ⟨z66, e66⟩ : ∃ q : Int, q = jj + 1 := ⟨_, rfl⟩
          refine ri_inc (lv' := [(2, vI z66), (0, .ref h7), (1, vI t0)]) hx hb dX7_payDuesOf_66 hl (k := 0) rfl (by decide) z66 e66 rfl (fun ls hl => ?_)
          refine lv_goto (tgt := 2) hx hb dX7_payDuesOf_69 (by decide) ?_
          exact ih2 z66 f G T2 wt2 lt2 kk1 (by first | assumption | omega) (by first | exact q47_0 | exact hG) (by first | exact GB_ta hB2 5 | exact hB2) (by
                rw [← hv2]
                first
                | (rw [pdi_o (by omega), e66]; done)
                | (rw [pdi_p (by omega) ⟨_, hLS.1⟩, e66, ← hta])) (by omega) _ _ hP hD hS ls (lv_sub hl [0, 1, 2] rfl)
        · skip
          refine lv_aload_n hx hb dX7_payDuesOf_26 rfl (lv_at hl 1 rfl) ?_
          refine va_get (D := g) (ci := 7) (v := .ref hq) (C := RX7) (T := TX7) (N := 11) hx hb hts inF_X7 hown hK.1 hP 0 rfl rfl 7 (by decide) lk_f51 (fun _ h9 => h9) rfl dX7_payDuesOf_27 ?_
          refine lv_aload_n hx hb dX7_payDuesOf_30 rfl (lv_at hl 1 rfl) ?_
          refine va_get (D := g) (ci := 7) (v := .ref s0) (C := RX7) (T := TX7) (N := 11) hx hb hts inF_X7 hown hK.1 hP 0 rfl rfl 2 (by decide) lk_f23 (fun _ h9 => h9) rfl dX7_payDuesOf_31 ?_
          refine lv_aload_n hx hb dX7_payDuesOf_34 rfl (lv_at hl 1 rfl) ?_
          refine va_get (D := g) (ci := 7) (v := .ref hL) (C := RX7) (T := TX7) (N := 11) hx hb hts inF_X7 hown hK.1 hP 0 rfl rfl 9 (by decide) lk_f65 (fun _ h9 => h9) rfl dX7_payDuesOf_35 ?_
          refine lv_aload_n hx hb dX7_payDuesOf_38 rfl (lv_at hl 1 rfl) ?_
          refine va_get (D := g) (ci := 7) (v := .ref hL) (C := RX7) (T := TX7) (N := 11) hx hb hts inF_X7 hown hK.1 hP 0 rfl rfl 9 (by decide) lk_f65 (fun _ h9 => h9) rfl dX7_payDuesOf_39 ?_
          refine va_get (D := g) (ci := 2) (v := .ref hdw) (C := RX2) (T := TX2) (N := 11) hx hb hts inF_X2 hown hK.1 hP 3 rfl rfl 3 (by decide) lk_f122 (fun _ h9 => h9) rfl dX7_payDuesOf_42 ?_
          refine lv_iload_n hx hb dX7_payDuesOf_45 rfl (lv_at hl 0 rfl) ?_
          refine ra_ild hx hb hK hP 15 rfl dX7_payDuesOf_46 ⟨by omega, by omega⟩ (by omega) ?_
          refine zc_VI (As := [.ref s0, .ref hL, vI (dw jj)]) (rest := []) (wc := [(hq, oB 4 [.ref hf, .ref hk, vI wt2]), (hf, aQ ca 5 rw), (ra 0, aI ca 299 (G 0)), (ra 1, aI ca 299 (G 1)), (ra 2, aI ca 299 (G 2)), (ra 3, aI ca 299 (G 3)), (ra 4, aI ca 299 (G 4)), (hk, aI ca 5 T2), (s0, oB 6 [.ref s1, vI sn, vJ slm]), (s1, aJ ca 605 f), (hL, oB 2 [.ref hw, .ref he, .ref hdn, .ref hdw, vI du, vI hv, vI mo, vI oft, vI la, vI pA, vI pB]), (hw, aI ca 5 w)]) (wr := [(h7, oB 7 [.ref hd, .ref h0, .ref s0, .ref hp, .ref hi, .ref hc, .ref hg, .ref hq, .ref hz, .ref hL, .ref hy]), (he, aI ca 5 ea), (hdn, aI ca 6 dn), (hdw, aI ca 6 dw)]) (k_X4_find l g ca hq hf hk rw ra G T2 wt2 s0 s1 f sn slm hL hw he hdn hdw w du hv mo oft la pA pB (dw jj) (by first | assumption | omega) (by exact hG) (by exact hB2) (by first | assumption | omega) (by first | assumption | omega)) dX7_payDuesOf_47 (cwV 3 hts gX7_payDuesOf_X4_find rfl rfl rfl (by decide +kernel) (by rw [hR]; exact ⟨Nat.le_of_ble_eq_true rfl, Nat.le_of_ble_eq_true rfl⟩)) ⟨hx, hb, hml, hown, hts⟩ hl.1 hK hP hD hS hA 6 rfl rfl rfl [6, 7, 8, 9, 10, 11, 12, 13, 1, 2, 3, 4] [0, 5, 14, 15] rfl (by decide) rfl (by decide) (by decide) rfl rfl (Nat.le_of_ble_eq_true rfl) (by rw [hR]; exact ⟨Nat.le_of_ble_eq_true rfl, Nat.le_of_ble_eq_true rfl⟩) (fun z47 u H locs q47 hP hD hS => ?_)
          obtain ⟨F1_47, T1_47, wt1_47⟩ := u
          have q47 : FRok F1_47 ∧ ((z47 = 1 ∧ LST (cnt f sn) w (dw jj) wt1_47 ∧ CHO (cnt f sn) w T1_47 5 wt1_47) ∨ (z47 = 0 ∧ ∀ x : Int, (dw jj) ≤ x → x ≤ 298 → ¬ RC (cnt f sn) w 5 x)) := q47
          obtain ⟨q47_0, q47_1⟩ := q47
          have hP : va_P g vwCl [(h7, oB 7 [.ref hd, .ref h0, .ref s0, .ref hp, .ref hi, .ref hc, .ref hg, .ref hq, .ref hz, .ref hL, .ref hy]), (s0, oB 6 [.ref s1, vI sn, vJ slm]), (s1, aJ ca 605 f), (hL, oB 2 [.ref hw, .ref he, .ref hdn, .ref hdw, vI du, vI hv, vI mo, vI oft, vI la, vI pA, vI pB]), (hw, aI ca 5 w), (he, aI ca 5 ea), (hq, oB 4 [.ref hf, .ref hk, vI wt1_47]), (hf, aQ ca 5 rw), (ra 0, aI ca 299 (F1_47 0)), (ra 1, aI ca 299 (F1_47 1)), (ra 2, aI ca 299 (F1_47 2)), (ra 3, aI ca 299 (F1_47 3)), (ra 4, aI ca 299 (F1_47 4)), (hk, aI ca 5 T1_47), (hdn, aI ca 6 dn), (hdw, aI ca 6 dw)] H := hP.sub [0, 12, 13, 14, 15, 1, 4, 5, 6, 7, 8, 9, 10, 11, 2, 3] rfl
          have hD : va_D A [(h7, oB 7 [.ref hd, .ref h0, .ref s0, .ref hp, .ref hi, .ref hc, .ref hg, .ref hq, .ref hz, .ref hL, .ref hy]), (s0, oB 6 [.ref s1, vI sn, vJ slm]), (s1, aJ ca 605 f), (hL, oB 2 [.ref hw, .ref he, .ref hdn, .ref hdw, vI du, vI hv, vI mo, vI oft, vI la, vI pA, vI pB]), (hw, aI ca 5 w), (he, aI ca 5 ea), (hq, oB 4 [.ref hf, .ref hk, vI wt1_47]), (hf, aQ ca 5 rw), (ra 0, aI ca 299 (F1_47 0)), (ra 1, aI ca 299 (F1_47 1)), (ra 2, aI ca 299 (F1_47 2)), (ra 3, aI ca 299 (F1_47 3)), (ra 4, aI ca 299 (F1_47 4)), (hk, aI ca 5 T1_47), (hdn, aI ca 6 dn), (hdw, aI ca 6 dw)] := hD.sub [0, 12, 13, 14, 15, 1, 4, 5, 6, 7, 8, 9, 10, 11, 2, 3] (by decide) rfl
          refine ri_if_ne (tgt := 55) hx hb dX7_payDuesOf_50 (by decide) ⟨by omega, by omega⟩ (fun c50 => ?_) (fun c50 => ?_)
          · skip
            have hLS : LST (cnt f sn) w (dw jj) wt1_47 ∧ CHO (cnt f sn) w T1_47 5 wt1_47 := by
              rcases q47_1 with q9 | q9
              · exact q9.2
              · omega
            have hwt := hLS.1.2.1
            have hwt0 : 0 ≤ wt1_47 := by have := hLS.1.1; omega
            have hchb := CHO_rng hW 5 wt1_47 (by omega) (by omega) hLS.2
            have hta : ta f T1_47 5 = ta f (chT (cnt f sn) w (dw jj)) 5 := ta_congr 5 (chT_eq hW hLS.1 hLS.2)
            refine lv_aload_n hx hb dX7_payDuesOf_55 rfl (lv_at hl 1 rfl) ?_
            refine va_get (D := g) (ci := 7) (v := .ref hq) (C := RX7) (T := TX7) (N := 11) hx hb hts inF_X7 hown hK.1 hP 0 rfl rfl 7 (by decide) lk_f51 (fun _ h9 => h9) rfl dX7_payDuesOf_56 ?_
            refine lv_aload_n hx hb dX7_payDuesOf_59 rfl (lv_at hl 1 rfl) ?_
            refine va_get (D := g) (ci := 7) (v := .ref s0) (C := RX7) (T := TX7) (N := 11) hx hb hts inF_X7 hown hK.1 hP 0 rfl rfl 2 (by decide) lk_f23 (fun _ h9 => h9) rfl dX7_payDuesOf_60 ?_
            refine zc_VV (As := [.ref s0]) (rest := []) (wc := [(hq, oB 4 [.ref hf, .ref hk, vI wt1_47]), (hk, aI ca 5 T1_47), (s0, oB 6 [.ref s1, vI sn, vJ slm]), (s1, aJ ca 605 f)]) (wr := [(h7, oB 7 [.ref hd, .ref h0, .ref s0, .ref hp, .ref hi, .ref hc, .ref hg, .ref hq, .ref hz, .ref hL, .ref hy]), (hL, oB 2 [.ref hw, .ref he, .ref hdn, .ref hdw, vI du, vI hv, vI mo, vI oft, vI la, vI pA, vI pB]), (hw, aI ca 5 w), (he, aI ca 5 ea), (hf, aQ ca 5 rw), (ra 0, aI ca 299 (F1_47 0)), (ra 1, aI ca 299 (F1_47 1)), (ra 2, aI ca 299 (F1_47 2)), (ra 3, aI ca 299 (F1_47 3)), (ra 4, aI ca 299 (F1_47 4)), (hdn, aI ca 6 dn), (hdw, aI ca 6 dw)]) (k_X4_takeFrom l g ca hq hf hk T1_47 wt1_47 s0 s1 f sn slm (by exact hB2) (by intro o h1 h2; have := hchb o h1 (by omega); omega)) dX7_payDuesOf_63 (cwV 1 hts gX7_payDuesOf_X4_takeFrom rfl rfl rfl (by decide +kernel) (by rw [hR]; exact ⟨Nat.le_of_ble_eq_true rfl, Nat.le_of_ble_eq_true rfl⟩)) ⟨hx, hb, hml, hown, hts⟩ hl.1 hK hP hD hS hA 6 rfl rfl rfl [6, 13, 1, 2] [0, 3, 4, 5, 7, 8, 9, 10, 11, 12, 14, 15] rfl (by decide) rfl (by decide) (by decide) rfl rfl (Nat.le_of_ble_eq_true rfl) (by rw [hR]; exact ⟨Nat.le_of_ble_eq_true rfl, Nat.le_of_ble_eq_true rfl⟩) (fun u H locs q63 hP hD hS => ?_)
            have hP : va_P g vwCl [(h7, oB 7 [.ref hd, .ref h0, .ref s0, .ref hp, .ref hi, .ref hc, .ref hg, .ref hq, .ref hz, .ref hL, .ref hy]), (s0, oB 6 [.ref s1, vI sn, vJ slm]), (s1, aJ ca 605 (ta f T1_47 5)), (hL, oB 2 [.ref hw, .ref he, .ref hdn, .ref hdw, vI du, vI hv, vI mo, vI oft, vI la, vI pA, vI pB]), (hw, aI ca 5 w), (he, aI ca 5 ea), (hq, oB 4 [.ref hf, .ref hk, vI wt1_47]), (hf, aQ ca 5 rw), (ra 0, aI ca 299 (F1_47 0)), (ra 1, aI ca 299 (F1_47 1)), (ra 2, aI ca 299 (F1_47 2)), (ra 3, aI ca 299 (F1_47 3)), (ra 4, aI ca 299 (F1_47 4)), (hk, aI ca 5 T1_47), (hdn, aI ca 6 dn), (hdw, aI ca 6 dw)] H := hP.sub [0, 14, 15, 1, 2, 3, 12, 4, 5, 6, 7, 8, 9, 13, 10, 11] rfl
            have hD : va_D A [(h7, oB 7 [.ref hd, .ref h0, .ref s0, .ref hp, .ref hi, .ref hc, .ref hg, .ref hq, .ref hz, .ref hL, .ref hy]), (s0, oB 6 [.ref s1, vI sn, vJ slm]), (s1, aJ ca 605 (ta f T1_47 5)), (hL, oB 2 [.ref hw, .ref he, .ref hdn, .ref hdw, vI du, vI hv, vI mo, vI oft, vI la, vI pA, vI pB]), (hw, aI ca 5 w), (he, aI ca 5 ea), (hq, oB 4 [.ref hf, .ref hk, vI wt1_47]), (hf, aQ ca 5 rw), (ra 0, aI ca 299 (F1_47 0)), (ra 1, aI ca 299 (F1_47 1)), (ra 2, aI ca 299 (F1_47 2)), (ra 3, aI ca 299 (F1_47 3)), (ra 4, aI ca 299 (F1_47 4)), (hk, aI ca 5 T1_47), (hdn, aI ca 6 dn), (hdw, aI ca 6 dw)] := hD.sub [0, 14, 15, 1, 2, 3, 12, 4, 5, 6, 7, 8, 9, 13, 10, 11] (by decide) rfl
            obtain ⟨z66, e66⟩ : ∃ q : Int, q = jj + 1 := ⟨_, rfl⟩
            refine ri_inc (lv' := [(2, vI z66), (0, .ref h7), (1, vI t0)]) hx hb dX7_payDuesOf_66 hl (k := 0) rfl (by decide) z66 e66 rfl (fun ls hl => ?_)
            refine lv_goto (tgt := 2) hx hb dX7_payDuesOf_69 (by decide) ?_
            exact ih2 z66 (ta f T1_47 5) F1_47 T1_47 wt1_47 (wgt (ta f (chT (cnt f sn) w (dw jj)) 5) w sn) kk1 (by first | assumption | omega) (by first | exact q47_0 | exact hG) (by first | exact GB_ta hB2 5 | exact hB2) (by
                  rw [← hv2]
                  first
                  | (rw [pdi_o (by omega), e66]; done)
                  | (rw [pdi_p (by omega) ⟨_, hLS.1⟩, e66, ← hta])) (by omega) _ _ hP hD hS ls (lv_sub hl [0, 1, 2] rfl)
          · skip
            refine lv_iload_n hx hb dX7_payDuesOf_53 rfl (lv_at hl 0 rfl) ?_
            refine zr_I hx hb hr hlk hQ (F1_47, T1_47, wt1_47, f) hP hD hS dX7_payDuesOf_54 (Nat.le_of_ble_eq_true rfl) (Nat.le_of_ble_eq_true rfl) ?_
            show FRok F1_47 ∧ jj = (pdi w dn dw sn du.toNat 0 sb lt).1 ∧ (jj = -9 → f = (pdi w dn dw sn du.toNat 0 sb lt).2.1)
            have hnp : ¬ canP (cnt f sn) w (dw jj) := by
              rintro ⟨s9, k1, k2, k3, k4⟩
              rcases q47_1 with q9 | q9
              · omega
              · exact q9.2 s9 k1 k2 k3
            rw [pdi_n (by omega) hnp] at hv2
            rw [← hv2]
            exact ⟨q47_0, rfl, fun h9 => by omega⟩
  exact L2 _ 0 sb F T wt lt du.toNat (by omega) (by exact hF) (by exact hB) (by rfl) (Nat.lt_succ_self _) _ _ hP hD hS ls (lv_sub hl [0, 1, 2] rfl)
set_option maxHeartbeats 4000000 in
set_option maxRecDepth 100000 in
theorem k_X7_payDues (l : Launch) (g : va_G) (ca : Nat → ClassId) (h7 : Nat) (hd : Nat) (h0 : Nat) (s0 : Nat) (hp : Nat) (hi : Nat) (hc : Nat) (hg : Nat) (hq : Nat) (hz : Nat) (hL : Nat) (hy : Nat) (h1 : Nat) (b : Int → Int) (n : Int) (lm : Int) (s1 : Nat) (sb : Int → Int) (sn : Int) (slm : Int) (hw : Nat) (he : Nat) (hdn : Nat) (hdw : Nat) (w : Int → Int) (ea : Int → Int) (du : Int) (hv : Int) (mo : Int) (oft : Int) (la : Int) (pA : Int) (pB : Int) (hf : Nat) (hk : Nat) (rw : Nat → Option Nat) (ra : Nat → Nat) (F : Int → Int → Int) (T : Int → Int) (wt : Int) (dn : Int → Int) (dw : Int → Int) (hrw : ∀ k : Nat, k < 5 → rw k = some (ra k)) (hF : FRok F) (hB : GB b n) (hW : GW w) (hE : EAok ea) (hM : 1 ≤ mo ∧ mo ≤ 9) (hDU : DUok dn dw du) : zI (S := (Int → Int → Int) × (Int → Int) × Int × (Int → Int) × Int × Int) l yX7_payDues wsX7_payDues ({ frames := 4, cells := 0, slots := 0, locals := 98 } : Room) g ca [.ref h7] [(h7, oB 7 [.ref hd, .ref h0, .ref s0, .ref hp, .ref hi, .ref hc, .ref hg, .ref hq, .ref hz, .ref hL, .ref hy]), (h0, oB 6 [.ref h1, vI n, vJ lm]), (h1, aJ ca 605 b), (s0, oB 6 [.ref s1, vI sn, vJ slm]), (s1, aJ ca 605 sb), (hL, oB 2 [.ref hw, .ref he, .ref hdn, .ref hdw, vI du, vI hv, vI mo, vI oft, vI la, vI pA, vI pB]), (hw, aI ca 5 w), (he, aI ca 5 ea), (hq, oB 4 [.ref hf, .ref hk, vI wt]), (hf, aQ ca 5 rw), (ra 0, aI ca 299 (F 0)), (ra 1, aI ca 299 (F 1)), (ra 2, aI ca 299 (F 2)), (ra 3, aI ca 299 (F 3)), (ra 4, aI ca 299 (F 4)), (hk, aI ca 5 T), (hdn, aI ca 6 dn), (hdw, aI ca 6 dw)] (fun (z : Int) (u : (Int → Int → Int) × (Int → Int) × Int × (Int → Int) × Int × Int) => FRok u.1 ∧ z = (pds w ea dn dw mo du (120 - n).toNat n b (wgt b w n)).1 ∧ (z = -9 → GB u.2.2.2.1 u.2.2.2.2.1 ∧ wgt u.2.2.2.1 w u.2.2.2.2.1 = (pds w ea dn dw mo du (120 - n).toNat n b (wgt b w n)).2.2)) (fun (u : (Int → Int → Int) × (Int → Int) × Int × (Int → Int) × Int × Int) => [(h7, oB 7 [.ref hd, .ref h0, .ref s0, .ref hp, .ref hi, .ref hc, .ref hg, .ref hq, .ref hz, .ref hL, .ref hy]), (h0, oB 6 [.ref h1, vI n, vJ lm]), (h1, aJ ca 605 b), (s0, oB 6 [.ref s1, vI u.2.2.2.2.1, vJ u.2.2.2.2.2]), (s1, aJ ca 605 u.2.2.2.1), (hL, oB 2 [.ref hw, .ref he, .ref hdn, .ref hdw, vI du, vI hv, vI mo, vI oft, vI la, vI pA, vI pB]), (hw, aI ca 5 w), (he, aI ca 5 ea), (hq, oB 4 [.ref hf, .ref hk, vI u.2.2.1]), (hf, aQ ca 5 rw), (ra 0, aI ca 299 (u.1 0)), (ra 1, aI ca 299 (u.1 1)), (ra 2, aI ca 299 (u.1 2)), (ra 3, aI ca 299 (u.1 3)), (ra 4, aI ca 299 (u.1 4)), (hk, aI ca 5 u.2.1), (hdn, aI ca 6 dn), (hdw, aI ca 6 dw)]) 0 0 := by
  refine zm_I (cc := cX7_payDues) (maxL := 4) (ret := some .int) (by decide) rfl (Nat.le_of_ble_eq_true rfl) ?_
  intro p e s m below meth c A ls R args Q hR hargs hQ hx hb hml hr hts hown hlk hnm hK hP hD hA hS hl
  have hown : s.vm.findClass RX7 = some m.cls := hown
  have hl : lv_has ls 4 [(0, .ref h7)] := hl
  have lk_f65 : (Cond.fieldLink RX7 65 "DripRings" "law" "LDripRings$Law;").before args s = true := hts _ (by decide +kernel)
  have inF_X7 : ∀ w ∈ wsX70, w ∈ wsX7_payDues := by decide +kernel
  have lk_f19 : (Cond.fieldLink RX7 19 "DripRings" "rings" "LDripRings$Rings;").before args s = true := hts _ (by decide +kernel)
  have lk_f125 : (Cond.fieldLink RX7 125 "DripRings$Rings" "night" "I").before args s = true := hts _ (by decide +kernel)
  have inF_X6 : ∀ w ∈ wsX60, w ∈ wsX7_payDues := by decide +kernel
  have lk_f23 : (Cond.fieldLink RX7 23 "DripRings" "scratch" "LDripRings$Rings;").before args s = true := hts _ (by decide +kernel)
  have hn0 := hB.1
  have hdu := hDU.1
  have hbl := bl (dn := dn) (n := n) du.toNat
  refine lv_aload_n hx hb dX7_payDues_0 rfl (lv_at hl 0 rfl) ?_
  refine va_get (D := g) (ci := 7) (v := .ref hL) (C := RX7) (T := TX7) (N := 11) hx hb hts inF_X7 hown hK.1 hP 0 rfl rfl 9 (by decide) lk_f65 (fun _ h9 => h9) rfl dX7_payDues_1 ?_
  refine lv_aload_n hx hb dX7_payDues_4 rfl (lv_at hl 0 rfl) ?_
  refine va_get (D := g) (ci := 7) (v := .ref h0) (C := RX7) (T := TX7) (N := 11) hx hb hts inF_X7 hown hK.1 hP 0 rfl rfl 1 (by decide) lk_f19 (fun _ h9 => h9) rfl dX7_payDues_5 ?_
  refine va_get (D := g) (ci := 6) (v := vI n) (C := RX6) (T := TX6) (N := 3) hx hb hts inF_X6 hown hK.1 hP 1 rfl rfl 1 (by decide) lk_f125 (fun _ h9 => h9) rfl dX7_payDues_8 ?_
  refine zc_VI (As := [vI n]) (rest := []) (wc := [(hL, oB 2 [.ref hw, .ref he, .ref hdn, .ref hdw, vI du, vI hv, vI mo, vI oft, vI la, vI pA, vI pB]), (hdn, aI ca 6 dn)]) (wr := [(h7, oB 7 [.ref hd, .ref h0, .ref s0, .ref hp, .ref hi, .ref hc, .ref hg, .ref hq, .ref hz, .ref hL, .ref hy]), (h0, oB 6 [.ref h1, vI n, vJ lm]), (h1, aJ ca 605 b), (s0, oB 6 [.ref s1, vI sn, vJ slm]), (s1, aJ ca 605 sb), (hw, aI ca 5 w), (he, aI ca 5 ea), (hq, oB 4 [.ref hf, .ref hk, vI wt]), (hf, aQ ca 5 rw), (ra 0, aI ca 299 (F 0)), (ra 1, aI ca 299 (F 1)), (ra 2, aI ca 299 (F 2)), (ra 3, aI ca 299 (F 3)), (ra 4, aI ca 299 (F 4)), (hk, aI ca 5 T), (hdw, aI ca 6 dw)]) (k_X2_lastDueNight l g ca hL hw he hdn hdw du hv mo oft la pA pB dn dw n (by exact hDU) (by first | assumption | omega)) dX7_payDues_11 (cwV 1 hts gX7_payDues_X2_lastDueNight rfl rfl rfl (by decide +kernel) (by rw [hR]; exact ⟨Nat.le_of_ble_eq_true rfl, Nat.le_of_ble_eq_true rfl⟩)) ⟨hx, hb, hml, hown, hts⟩ hl.1 hK hP hD hS hA 5 rfl rfl rfl [5, 16] [0, 1, 2, 3, 4, 6, 7, 8, 9, 10, 11, 12, 13, 14, 15, 17] rfl (by decide) rfl (by decide) (by decide) rfl rfl (Nat.le_of_ble_eq_true rfl) (by rw [hR]; exact ⟨Nat.le_of_ble_eq_true rfl, Nat.le_of_ble_eq_true rfl⟩) (fun z11 u H locs q11 hP hD hS => ?_)
  have q11 : z11 = ld dn n du.toNat ∧ n ≤ z11 ∧ z11 ≤ 120 := q11
  obtain ⟨q11_0, q11_1, q11_2⟩ := q11
  have hP : va_P g vwCl [(h7, oB 7 [.ref hd, .ref h0, .ref s0, .ref hp, .ref hi, .ref hc, .ref hg, .ref hq, .ref hz, .ref hL, .ref hy]), (h0, oB 6 [.ref h1, vI n, vJ lm]), (h1, aJ ca 605 b), (s0, oB 6 [.ref s1, vI sn, vJ slm]), (s1, aJ ca 605 sb), (hL, oB 2 [.ref hw, .ref he, .ref hdn, .ref hdw, vI du, vI hv, vI mo, vI oft, vI la, vI pA, vI pB]), (hw, aI ca 5 w), (he, aI ca 5 ea), (hq, oB 4 [.ref hf, .ref hk, vI wt]), (hf, aQ ca 5 rw), (ra 0, aI ca 299 (F 0)), (ra 1, aI ca 299 (F 1)), (ra 2, aI ca 299 (F 2)), (ra 3, aI ca 299 (F 3)), (ra 4, aI ca 299 (F 4)), (hk, aI ca 5 T), (hdn, aI ca 6 dn), (hdw, aI ca 6 dw)] H := hP.sub [0, 1, 2, 3, 4, 16, 5, 6, 7, 8, 9, 10, 11, 12, 13, 14, 17, 15] rfl
  have hD : va_D A [(h7, oB 7 [.ref hd, .ref h0, .ref s0, .ref hp, .ref hi, .ref hc, .ref hg, .ref hq, .ref hz, .ref hL, .ref hy]), (h0, oB 6 [.ref h1, vI n, vJ lm]), (h1, aJ ca 605 b), (s0, oB 6 [.ref s1, vI sn, vJ slm]), (s1, aJ ca 605 sb), (hL, oB 2 [.ref hw, .ref he, .ref hdn, .ref hdw, vI du, vI hv, vI mo, vI oft, vI la, vI pA, vI pB]), (hw, aI ca 5 w), (he, aI ca 5 ea), (hq, oB 4 [.ref hf, .ref hk, vI wt]), (hf, aQ ca 5 rw), (ra 0, aI ca 299 (F 0)), (ra 1, aI ca 299 (F 1)), (ra 2, aI ca 299 (F 2)), (ra 3, aI ca 299 (F 3)), (ra 4, aI ca 299 (F 4)), (hk, aI ca 5 T), (hdn, aI ca 6 dn), (hdw, aI ca 6 dw)] := hD.sub [0, 1, 2, 3, 4, 16, 5, 6, 7, 8, 9, 10, 11, 12, 13, 14, 17, 15] (by decide) rfl
  refine lv_istore_n (lv' := [(1, vI z11), (0, .ref h7)]) hx hb dX7_payDues_14 rfl hl (by decide) rfl (fun ls hl => ?_)
  refine lv_aload_n hx hb dX7_payDues_15 rfl (lv_at hl 1 rfl) ?_
  refine va_get (D := g) (ci := 7) (v := .ref s0) (C := RX7) (T := TX7) (N := 11) hx hb hts inF_X7 hown hK.1 hP 0 rfl rfl 2 (by decide) lk_f23 (fun _ h9 => h9) rfl dX7_payDues_16 ?_
  refine lv_aload_n hx hb dX7_payDues_19 rfl (lv_at hl 1 rfl) ?_
  refine va_get (D := g) (ci := 7) (v := .ref h0) (C := RX7) (T := TX7) (N := 11) hx hb hts inF_X7 hown hK.1 hP 0 rfl rfl 1 (by decide) lk_f19 (fun _ h9 => h9) rfl dX7_payDues_20 ?_
  refine zc_VV (As := [.ref h0]) (rest := []) (wc := [(s0, oB 6 [.ref s1, vI sn, vJ slm]), (s1, aJ ca 605 sb), (h0, oB 6 [.ref h1, vI n, vJ lm]), (h1, aJ ca 605 b)]) (wr := [(h7, oB 7 [.ref hd, .ref h0, .ref s0, .ref hp, .ref hi, .ref hc, .ref hg, .ref hq, .ref hz, .ref hL, .ref hy]), (hL, oB 2 [.ref hw, .ref he, .ref hdn, .ref hdw, vI du, vI hv, vI mo, vI oft, vI la, vI pA, vI pB]), (hw, aI ca 5 w), (he, aI ca 5 ea), (hq, oB 4 [.ref hf, .ref hk, vI wt]), (hf, aQ ca 5 rw), (ra 0, aI ca 299 (F 0)), (ra 1, aI ca 299 (F 1)), (ra 2, aI ca 299 (F 2)), (ra 3, aI ca 299 (F 3)), (ra 4, aI ca 299 (F 4)), (hk, aI ca 5 T), (hdn, aI ca 6 dn), (hdw, aI ca 6 dw)]) (k_X6_becomeLike l g ca s0 s1 sb sn slm h0 h1 b n lm ) dX7_payDues_23 (cwV 1 hts gX7_payDues_X6_becomeLike rfl rfl rfl (by decide +kernel) (by rw [hR]; exact ⟨Nat.le_of_ble_eq_true rfl, Nat.le_of_ble_eq_true rfl⟩)) ⟨hx, hb, hml, hown, hts⟩ hl.1 hK hP hD hS hA 3 rfl rfl rfl [3, 4, 1, 2] [0, 5, 6, 7, 8, 9, 10, 11, 12, 13, 14, 15, 16, 17] rfl (by decide) rfl (by decide) (by decide) rfl rfl (Nat.le_of_ble_eq_true rfl) (by rw [hR]; exact ⟨Nat.le_of_ble_eq_true rfl, Nat.le_of_ble_eq_true rfl⟩) (fun u H locs q23 hP hD hS => ?_)
  have hP : va_P g vwCl [(h7, oB 7 [.ref hd, .ref h0, .ref s0, .ref hp, .ref hi, .ref hc, .ref hg, .ref hq, .ref hz, .ref hL, .ref hy]), (h0, oB 6 [.ref h1, vI n, vJ lm]), (h1, aJ ca 605 b), (s0, oB 6 [.ref s1, vI n, vJ lm]), (s1, aJ ca 605 b), (hL, oB 2 [.ref hw, .ref he, .ref hdn, .ref hdw, vI du, vI hv, vI mo, vI oft, vI la, vI pA, vI pB]), (hw, aI ca 5 w), (he, aI ca 5 ea), (hq, oB 4 [.ref hf, .ref hk, vI wt]), (hf, aQ ca 5 rw), (ra 0, aI ca 299 (F 0)), (ra 1, aI ca 299 (F 1)), (ra 2, aI ca 299 (F 2)), (ra 3, aI ca 299 (F 3)), (ra 4, aI ca 299 (F 4)), (hk, aI ca 5 T), (hdn, aI ca 6 dn), (hdw, aI ca 6 dw)] H := hP.sub [0, 16, 17, 14, 15, 1, 2, 3, 4, 5, 6, 7, 8, 9, 10, 11, 12, 13] rfl
  have hD : va_D A [(h7, oB 7 [.ref hd, .ref h0, .ref s0, .ref hp, .ref hi, .ref hc, .ref hg, .ref hq, .ref hz, .ref hL, .ref hy]), (h0, oB 6 [.ref h1, vI n, vJ lm]), (h1, aJ ca 605 b), (s0, oB 6 [.ref s1, vI n, vJ lm]), (s1, aJ ca 605 b), (hL, oB 2 [.ref hw, .ref he, .ref hdn, .ref hdw, vI du, vI hv, vI mo, vI oft, vI la, vI pA, vI pB]), (hw, aI ca 5 w), (he, aI ca 5 ea), (hq, oB 4 [.ref hf, .ref hk, vI wt]), (hf, aQ ca 5 rw), (ra 0, aI ca 299 (F 0)), (ra 1, aI ca 299 (F 1)), (ra 2, aI ca 299 (F 2)), (ra 3, aI ca 299 (F 3)), (ra 4, aI ca 299 (F 4)), (hk, aI ca 5 T), (hdn, aI ca 6 dn), (hdw, aI ca 6 dw)] := hD.sub [0, 16, 17, 14, 15, 1, 2, 3, 4, 5, 6, 7, 8, 9, 10, 11, 12, 13] (by decide) rfl
  refine lv_aload_n hx hb dX7_payDues_26 rfl (lv_at hl 1 rfl) ?_
  refine va_get (D := g) (ci := 7) (v := .ref h0) (C := RX7) (T := TX7) (N := 11) hx hb hts inF_X7 hown hK.1 hP 0 rfl rfl 1 (by decide) lk_f19 (fun _ h9 => h9) rfl dX7_payDues_27 ?_
  refine va_get (D := g) (ci := 6) (v := vI n) (C := RX6) (T := TX6) (N := 3) hx hb hts inF_X6 hown hK.1 hP 1 rfl rfl 1 (by decide) lk_f125 (fun _ h9 => h9) rfl dX7_payDues_30 ?_
  refine lv_iconst (v := Int32.ofInt 1) hx hb dX7_payDues_33 rfl ?_
  refine ri_add hx hb dX7_payDues_34 (fun z34 e34 => ?_)
  refine lv_istore_n (lv' := [(2, vI z34), (1, vI z11), (0, .ref h7)]) hx hb dX7_payDues_35 rfl hl (by decide) rfl (fun ls hl => ?_)
  have L36 : ∀ (N36 : Nat) (i : Int) (f : Int → Int) (sn2 : Int) (G : Int → Int → Int) (T2 : Int → Int) (wt2 : Int) (lt2 : Int) (k : Nat) (hii : n + 1 ≤ i ∧ i ≤ z11 + 1 ∧ i + k = 121 ∧ sn2 = i - 1) (hG : FRok G) (hB2 : GB f sn2) (hv2 : pds w ea dn dw mo du k sn2 f lt2 = (pds w ea dn dw mo du (120 - n).toNat n b (wgt b w n))) (hlw : (sn2 = n ∨ ∃ j : Int, 0 ≤ j ∧ j < du ∧ dn j = sn2) → lt2 = wgt f w sn2) (hμ : k < N36) (H : Heap) (locs : List Loc) (hP : va_P g vwCl [(h7, oB 7 [.ref hd, .ref h0, .ref s0, .ref hp, .ref hi, .ref hc, .ref hg, .ref hq, .ref hz, .ref hL, .ref hy]), (h0, oB 6 [.ref h1, vI n, vJ lm]), (h1, aJ ca 605 b), (s0, oB 6 [.ref s1, vI sn2, vJ lm]), (s1, aJ ca 605 f), (hL, oB 2 [.ref hw, .ref he, .ref hdn, .ref hdw, vI du, vI hv, vI mo, vI oft, vI la, vI pA, vI pB]), (hw, aI ca 5 w), (he, aI ca 5 ea), (hq, oB 4 [.ref hf, .ref hk, vI wt2]), (hf, aQ ca 5 rw), (ra 0, aI ca 299 (G 0)), (ra 1, aI ca 299 (G 1)), (ra 2, aI ca 299 (G 2)), (ra 3, aI ca 299 (G 3)), (ra 4, aI ca 299 (G 4)), (hk, aI ca 5 T2), (hdn, aI ca 6 dn), (hdw, aI ca 6 dw)] H) (hD : va_D A [(h7, oB 7 [.ref hd, .ref h0, .ref s0, .ref hp, .ref hi, .ref hc, .ref hg, .ref hq, .ref hz, .ref hL, .ref hy]), (h0, oB 6 [.ref h1, vI n, vJ lm]), (h1, aJ ca 605 b), (s0, oB 6 [.ref s1, vI sn2, vJ lm]), (s1, aJ ca 605 f), (hL, oB 2 [.ref hw, .ref he, .ref hdn, .ref hdw, vI du, vI hv, vI mo, vI oft, vI la, vI pA, vI pB]), (hw, aI ca 5 w), (he, aI ca 5 ea), (hq, oB 4 [.ref hf, .ref hk, vI wt2]), (hf, aQ ca 5 rw), (ra 0, aI ca 299 (G 0)), (ra 1, aI ca 299 (G 1)), (ra 2, aI ca 299 (G 2)), (ra 3, aI ca 299 (G 3)), (ra 4, aI ca 299 (G 4)), (hk, aI ca 5 T2), (hdn, aI ca 6 dn), (hdw, aI ca 6 dw)]) (hS : va_S A s.heap H locs) (ls : Array Slot) (hl : lv_has ls 4 [(2, vI i), (1, vI z11), (0, .ref h7)]), W p l e R s m args below meth c H locs 0 0 Q (F0 m 36 ls []) := by
    intro N36; induction N36 with
    | zero => intro i f sn2 G T2 wt2 lt2 k hii hG hB2 hv2 hlw hμ; exact absurd hμ (Nat.not_lt_zero _)
    | succ N36 ih36 =>
      intro i f sn2 G T2 wt2 lt2 k hii hG hB2 hv2 hlw hμ H locs hP hD hS ls hl
      refine lv_iload_n hx hb dX7_payDues_36 rfl (lv_at hl 0 rfl) ?_
      refine lv_iload_n hx hb dX7_payDues_37 rfl (lv_at hl 1 rfl) ?_
      refine ri_icmp_gt (tgt := 73) hx hb dX7_payDues_38 (by decide) ⟨by omega, by omega⟩ ⟨by omega, by omega⟩ (fun c38 => ?_) (fun c38 => ?_)
      · skip
        refine lv_bipush (v := Int32.ofInt (-9)) hx hb dX7_payDues_73 (by decide) ?_
        refine zr_I hx hb hr hlk hQ (G, T2, wt2, f, sn2, lm) hP hD hS dX7_payDues_75 (Nat.le_of_ble_eq_true rfl) (Nat.le_of_ble_eq_true rfl) ?_
        show FRok G ∧ (-9) = (pds w ea dn dw mo du (120 - n).toNat n b (wgt b w n)).1 ∧ ((-9) = -9 → GB f sn2 ∧ wgt f w sn2 = (pds w ea dn dw mo du (120 - n).toNat n b (wgt b w n)).2.2)
        have hl9 : z11 = ld dn n du.toNat := q11_0
        have h9 := pds_none (w := w) (ea := ea) (dn := dn) (dw := dw) (mo := mo) (du := du) k sn2 f lt2 (fun j h1 h2 => by have := hbl.2 j h1 (by omega); omega)
        rw [hv2] at h9
        refine ⟨hG, h9.1.symm, fun _ => ⟨hB2, ?_⟩⟩
        rw [h9.2]
        refine (hlw ?_).symm
        rcases hbl.1 with h8 | ⟨j, h1, h2, h3⟩
        · exact Or.inl (by omega)
        · exact Or.inr ⟨j, h1, by omega, by omega⟩
      · skip
        obtain ⟨k1, rfl⟩ : ∃ q, k = q + 1 := ⟨k - 1, by omega⟩
        refine lv_aload_n hx hb dX7_payDues_41 rfl (lv_at hl 2 rfl) ?_
        refine va_get (D := g) (ci := 7) (v := .ref s0) (C := RX7) (T := TX7) (N := 11) hx hb hts inF_X7 hown hK.1 hP 0 rfl rfl 2 (by decide) lk_f23 (fun _ h9 => h9) rfl dX7_payDues_42 ?_
        refine lv_iload_n hx hb dX7_payDues_45 rfl (lv_at hl 0 rfl) ?_
        refine lv_aload_n hx hb dX7_payDues_46 rfl (lv_at hl 2 rfl) ?_
        refine va_get (D := g) (ci := 7) (v := .ref hL) (C := RX7) (T := TX7) (N := 11) hx hb hts inF_X7 hown hK.1 hP 0 rfl rfl 9 (by decide) lk_f65 (fun _ h9 => h9) rfl dX7_payDues_47 ?_
        refine zc_VV (As := [vI i, .ref hL]) (rest := []) (wc := [(s0, oB 6 [.ref s1, vI sn2, vJ lm]), (s1, aJ ca 605 f), (hL, oB 2 [.ref hw, .ref he, .ref hdn, .ref hdw, vI du, vI hv, vI mo, vI oft, vI la, vI pA, vI pB]), (hw, aI ca 5 w), (he, aI ca 5 ea)]) (wr := [(h7, oB 7 [.ref hd, .ref h0, .ref s0, .ref hp, .ref hi, .ref hc, .ref hg, .ref hq, .ref hz, .ref hL, .ref hy]), (h0, oB 6 [.ref h1, vI n, vJ lm]), (h1, aJ ca 605 b), (hq, oB 4 [.ref hf, .ref hk, vI wt2]), (hf, aQ ca 5 rw), (ra 0, aI ca 299 (G 0)), (ra 1, aI ca 299 (G 1)), (ra 2, aI ca 299 (G 2)), (ra 3, aI ca 299 (G 3)), (ra 4, aI ca 299 (G 4)), (hk, aI ca 5 T2), (hdn, aI ca 6 dn), (hdw, aI ca 6 dw)]) (k_X6_passTo l g ca s0 s1 f sn2 lm hL hw he hdn hdw w ea du hv mo oft la pA pB i (by first | assumption | omega) (by first | assumption | omega) (by first | assumption | omega) (by first | assumption | omega) (by first | assumption | omega)) dX7_payDues_50 (cwV 2 hts gX7_payDues_X6_passTo rfl rfl rfl (by decide +kernel) (by rw [hR]; exact ⟨Nat.le_of_ble_eq_true rfl, Nat.le_of_ble_eq_true rfl⟩)) ⟨hx, hb, hml, hown, hts⟩ hl.1 hK hP hD hS hA 3 rfl rfl rfl [3, 4, 5, 6, 7] [0, 1, 2, 8, 9, 10, 11, 12, 13, 14, 15, 16, 17] rfl (by decide) rfl (by decide) (by decide) rfl rfl (Nat.le_of_ble_eq_true rfl) (by rw [hR]; exact ⟨Nat.le_of_ble_eq_true rfl, Nat.le_of_ble_eq_true rfl⟩) (fun u H locs q50 hP hD hS => ?_)
        obtain ⟨n1_50, b1_50⟩ := u
        have q50 : n1_50 = (if sn2 < i then i else sn2) ∧ b1_50 = gt w ea mo sn2 f (i - sn2).toNat := q50
        obtain ⟨q50_0, q50_1⟩ := q50
        have hP : va_P g vwCl [(h7, oB 7 [.ref hd, .ref h0, .ref s0, .ref hp, .ref hi, .ref hc, .ref hg, .ref hq, .ref hz, .ref hL, .ref hy]), (h0, oB 6 [.ref h1, vI n, vJ lm]), (h1, aJ ca 605 b), (s0, oB 6 [.ref s1, vI n1_50, vJ lm]), (s1, aJ ca 605 b1_50), (hL, oB 2 [.ref hw, .ref he, .ref hdn, .ref hdw, vI du, vI hv, vI mo, vI oft, vI la, vI pA, vI pB]), (hw, aI ca 5 w), (he, aI ca 5 ea), (hq, oB 4 [.ref hf, .ref hk, vI wt2]), (hf, aQ ca 5 rw), (ra 0, aI ca 299 (G 0)), (ra 1, aI ca 299 (G 1)), (ra 2, aI ca 299 (G 2)), (ra 3, aI ca 299 (G 3)), (ra 4, aI ca 299 (G 4)), (hk, aI ca 5 T2), (hdn, aI ca 6 dn), (hdw, aI ca 6 dw)] H := hP.sub [0, 1, 2, 13, 14, 15, 16, 17, 3, 4, 5, 6, 7, 8, 9, 10, 11, 12] rfl
        have hD : va_D A [(h7, oB 7 [.ref hd, .ref h0, .ref s0, .ref hp, .ref hi, .ref hc, .ref hg, .ref hq, .ref hz, .ref hL, .ref hy]), (h0, oB 6 [.ref h1, vI n, vJ lm]), (h1, aJ ca 605 b), (s0, oB 6 [.ref s1, vI n1_50, vJ lm]), (s1, aJ ca 605 b1_50), (hL, oB 2 [.ref hw, .ref he, .ref hdn, .ref hdw, vI du, vI hv, vI mo, vI oft, vI la, vI pA, vI pB]), (hw, aI ca 5 w), (he, aI ca 5 ea), (hq, oB 4 [.ref hf, .ref hk, vI wt2]), (hf, aQ ca 5 rw), (ra 0, aI ca 299 (G 0)), (ra 1, aI ca 299 (G 1)), (ra 2, aI ca 299 (G 2)), (ra 3, aI ca 299 (G 3)), (ra 4, aI ca 299 (G 4)), (hk, aI ca 5 T2), (hdn, aI ca 6 dn), (hdw, aI ca 6 dw)] := hD.sub [0, 1, 2, 13, 14, 15, 16, 17, 3, 4, 5, 6, 7, 8, 9, 10, 11, 12] (by decide) rfl
        have hn9 : n1_50 = i := by rw [q50_0]; split <;> omega
        have hb9 : b1_50 = (gs w ea mo i f 4).1 := by
          rw [q50_1, show i = sn2 + 1 by omega]; exact gt_1
        have hBg : GB (gs w ea mo i f 4).1 i := by
          have h9 := GB_gs (w := w) hE hM (GB_up hB2 (by omega)) 4 (by omega)
          rw [show sn2 + 1 = i by omega] at h9
          exact h9
        refine lv_aload_n hx hb dX7_payDues_53 rfl (lv_at hl 2 rfl) ?_
        refine lv_iload_n hx hb dX7_payDues_54 rfl (lv_at hl 0 rfl) ?_
        refine zc_VI (As := [vI i]) (rest := []) (wc := [(h7, oB 7 [.ref hd, .ref h0, .ref s0, .ref hp, .ref hi, .ref hc, .ref hg, .ref hq, .ref hz, .ref hL, .ref hy]), (s0, oB 6 [.ref s1, vI n1_50, vJ lm]), (s1, aJ ca 605 b1_50), (hL, oB 2 [.ref hw, .ref he, .ref hdn, .ref hdw, vI du, vI hv, vI mo, vI oft, vI la, vI pA, vI pB]), (hw, aI ca 5 w), (he, aI ca 5 ea), (hq, oB 4 [.ref hf, .ref hk, vI wt2]), (hf, aQ ca 5 rw), (ra 0, aI ca 299 (G 0)), (ra 1, aI ca 299 (G 1)), (ra 2, aI ca 299 (G 2)), (ra 3, aI ca 299 (G 3)), (ra 4, aI ca 299 (G 4)), (hk, aI ca 5 T2), (hdn, aI ca 6 dn), (hdw, aI ca 6 dw)]) (wr := [(h0, oB 6 [.ref h1, vI n, vJ lm]), (h1, aJ ca 605 b)]) (k_X7_payDuesOf l g ca h7 hd h0 s0 hp hi hc hg hq hz hL hy s1 b1_50 n1_50 lm hw he hdn hdw w ea du hv mo oft la pA pB hf hk rw ra G T2 wt2 dn dw i lt2 (by first | assumption | omega) (by exact hG) (by rw [hb9, hn9]; exact hBg) (by first | assumption | omega) (by first | assumption | omega) (by first | assumption | omega)) dX7_payDues_55 (cwV 1 hts gX7_payDues_X7_payDuesOf rfl rfl rfl (by decide +kernel) (by rw [hR]; exact ⟨Nat.le_of_ble_eq_true rfl, Nat.le_of_ble_eq_true rfl⟩)) ⟨hx, hb, hml, hown, hts⟩ hl.1 hK hP hD hS hA 0 rfl rfl rfl [0, 3, 4, 5, 6, 7, 8, 9, 10, 11, 12, 13, 14, 15, 16, 17] [1, 2] rfl (by decide) rfl (by decide) (by decide) rfl rfl (Nat.le_of_ble_eq_true rfl) (by rw [hR]; exact ⟨Nat.le_of_ble_eq_true rfl, Nat.le_of_ble_eq_true rfl⟩) (fun z55 u H locs q55 hP hD hS => ?_)
        obtain ⟨F1_55, T1_55, wt1_55, sb1_55⟩ := u
        have q55 : FRok F1_55 ∧ z55 = (pdi w dn dw n1_50 du.toNat 0 b1_50 lt2).1 ∧ (z55 = -9 → sb1_55 = (pdi w dn dw n1_50 du.toNat 0 b1_50 lt2).2.1) := q55
        obtain ⟨q55_0, q55_1, q55_2⟩ := q55
        have hP : va_P g vwCl [(h7, oB 7 [.ref hd, .ref h0, .ref s0, .ref hp, .ref hi, .ref hc, .ref hg, .ref hq, .ref hz, .ref hL, .ref hy]), (h0, oB 6 [.ref h1, vI n, vJ lm]), (h1, aJ ca 605 b), (s0, oB 6 [.ref s1, vI n1_50, vJ lm]), (s1, aJ ca 605 sb1_55), (hL, oB 2 [.ref hw, .ref he, .ref hdn, .ref hdw, vI du, vI hv, vI mo, vI oft, vI la, vI pA, vI pB]), (hw, aI ca 5 w), (he, aI ca 5 ea), (hq, oB 4 [.ref hf, .ref hk, vI wt1_55]), (hf, aQ ca 5 rw), (ra 0, aI ca 299 (F1_55 0)), (ra 1, aI ca 299 (F1_55 1)), (ra 2, aI ca 299 (F1_55 2)), (ra 3, aI ca 299 (F1_55 3)), (ra 4, aI ca 299 (F1_55 4)), (hk, aI ca 5 T1_55), (hdn, aI ca 6 dn), (hdw, aI ca 6 dw)] H := hP.sub [2, 0, 1, 3, 4, 5, 6, 7, 8, 9, 10, 11, 12, 13, 14, 15, 16, 17] rfl
        have hD : va_D A [(h7, oB 7 [.ref hd, .ref h0, .ref s0, .ref hp, .ref hi, .ref hc, .ref hg, .ref hq, .ref hz, .ref hL, .ref hy]), (h0, oB 6 [.ref h1, vI n, vJ lm]), (h1, aJ ca 605 b), (s0, oB 6 [.ref s1, vI n1_50, vJ lm]), (s1, aJ ca 605 sb1_55), (hL, oB 2 [.ref hw, .ref he, .ref hdn, .ref hdw, vI du, vI hv, vI mo, vI oft, vI la, vI pA, vI pB]), (hw, aI ca 5 w), (he, aI ca 5 ea), (hq, oB 4 [.ref hf, .ref hk, vI wt1_55]), (hf, aQ ca 5 rw), (ra 0, aI ca 299 (F1_55 0)), (ra 1, aI ca 299 (F1_55 1)), (ra 2, aI ca 299 (F1_55 2)), (ra 3, aI ca 299 (F1_55 3)), (ra 4, aI ca 299 (F1_55 4)), (hk, aI ca 5 T1_55), (hdn, aI ca 6 dn), (hdw, aI ca 6 dw)] := hD.sub [2, 0, 1, 3, 4, 5, 6, 7, 8, 9, 10, 11, 12, 13, 14, 15, 16, 17] (by decide) rfl
        rw [hn9, hb9] at q55_1 q55_2
        have hz55 : -9 ≤ z55 ∧ z55 ≤ 200 := by rw [q55_1]; exact pdi_rng hdu.2 _ 0 _ _ (by omega) (by omega)
        refine lv_istore_n (lv' := [(3, vI z55), (2, vI i), (1, vI z11), (0, .ref h7)]) hx hb dX7_payDues_58 rfl hl (by decide) rfl (fun ls hl => ?_)
        refine lv_iload_n hx hb dX7_payDues_59 rfl (lv_at hl 0 rfl) ?_
        refine lv_bipush (v := Int32.ofInt (-9)) hx hb dX7_payDues_60 (by decide) ?_
        refine ri_icmp_eq (tgt := 67) hx hb dX7_payDues_62 (by decide) ⟨by omega, by omega⟩ ⟨by omega, by omega⟩ (fun c62 => ?_) (fun c62 => ?_)
        · skip
          have hsb : sb1_55 = (pdi w dn dw i du.toNat 0 (gs w ea mo i f 4).1 lt2).2.1 := q55_2 (by omega)
          have hB3 : GB (pdi w dn dw i du.toNat 0 (gs w ea mo i f 4).1 lt2).2.1 i := GB_pdi du.toNat 0 _ _ hBg
          obtain ⟨z67, e67⟩ : ∃ q : Int, q = i + 1 := ⟨_, rfl⟩
          refine ri_inc (lv' := [(2, vI z67), (3, vI z55), (1, vI z11), (0, .ref h7)]) hx hb dX7_payDues_67 hl (k := 1) rfl (by decide) z67 e67 rfl (fun ls hl => ?_)
          refine lv_goto (tgt := 36) hx hb dX7_payDues_70 (by decide) ?_
          exact ih36 z67 sb1_55 n1_50 F1_55 T1_55 wt1_55 ((pdi w dn dw i du.toNat 0 (gs w ea mo i f 4).1 lt2).2.2) k1 (by omega) (by exact q55_0) (by rw [hsb, hn9]; exact hB3) (by
                rw [← hv2, hn9, hsb]
                have h9 := pds_s (w := w) (ea := ea) (dn := dn) (dw := dw) (b := f) (mo := mo) (du := du) (nt := sn2) (lt := lt2) (k := k1) (by rw [show sn2 + 1 = i by omega]; omega)
                rw [show sn2 + 1 = i by omega] at h9
                exact h9.symm) (by
                intro h9
                rw [hsb, hn9]
                rw [hn9] at h9
                rcases h9 with h9 | ⟨j9, h1, h2, h3⟩
                · omega
                · exact pdi_w du.toNat 0 _ _ (by omega) (by omega) (Or.inr ⟨j9, h1, by omega, h3⟩)) (by omega) _ _ hP hD hS ls (lv_sub hl [0, 2, 3] rfl)
        · skip
          refine lv_iload_n hx hb dX7_payDues_65 rfl (lv_at hl 0 rfl) ?_
          refine zr_I hx hb hr hlk hQ (F1_55, T1_55, wt1_55, sb1_55, n1_50, lm) hP hD hS dX7_payDues_66 (Nat.le_of_ble_eq_true rfl) (Nat.le_of_ble_eq_true rfl) ?_
          show FRok F1_55 ∧ z55 = (pds w ea dn dw mo du (120 - n).toNat n b (wgt b w n)).1 ∧ (z55 = -9 → GB sb1_55 n1_50 ∧ wgt sb1_55 w n1_50 = (pds w ea dn dw mo du (120 - n).toNat n b (wgt b w n)).2.2)
          have h9 := pds_f (w := w) (ea := ea) (dn := dn) (dw := dw) (b := f) (mo := mo) (du := du) (nt := sn2) (lt := lt2) (k := k1) (by rw [show sn2 + 1 = i by omega]; omega)
          rw [show sn2 + 1 = i by omega] at h9
          rw [← hv2, h9]
          exact ⟨q55_0, q55_1, fun h => by omega⟩
  exact L36 _ z34 b n F T wt (wgt b w n) ((120 - n).toNat) (by omega) (by exact hF) (by exact hB) (by rfl) (by intro _; rfl) (Nat.lt_succ_self _) _ _ hP hD hS ls (lv_sub hl [0, 1, 2] rfl)
set_option maxHeartbeats 4000000 in
set_option maxRecDepth 100000 in
theorem k_X7_met (l : Launch) (g : va_G) (ca : Nat → ClassId) (h7 : Nat) (hd : Nat) (h0 : Nat) (s0 : Nat) (hp : Nat) (hi : Nat) (hc : Nat) (hg : Nat) (hq : Nat) (hz : Nat) (hL : Nat) (hy : Nat) (h1 : Nat) (b : Int → Int) (n : Int) (lm : Int) (s1 : Nat) (sb : Int → Int) (sn : Int) (slm : Int) (hw : Nat) (he : Nat) (hdn : Nat) (hdw : Nat) (w : Int → Int) (ea : Int → Int) (du : Int) (hv : Int) (mo : Int) (oft : Int) (la : Int) (pA : Int) (pB : Int) (hf : Nat) (hk : Nat) (rw : Nat → Option Nat) (ra : Nat → Nat) (F : Int → Int → Int) (T : Int → Int) (wt : Int) (dn : Int → Int) (dw : Int → Int) (hrw : ∀ k : Nat, k < 5 → rw k = some (ra k)) (hF : FRok F) (hB : GB b n) (hW : GW w) (hE : EAok ea) (hM : 1 ≤ mo ∧ mo ≤ 9) (hDU : DUok dn dw du) : zI (S := (Int → Int → Int) × (Int → Int) × Int × (Int → Int) × Int × Int) l yX7_met wsX7_met ({ frames := 5, cells := 0, slots := 0, locals := 121 } : Room) g ca [.ref h7] [(h7, oB 7 [.ref hd, .ref h0, .ref s0, .ref hp, .ref hi, .ref hc, .ref hg, .ref hq, .ref hz, .ref hL, .ref hy]), (h0, oB 6 [.ref h1, vI n, vJ lm]), (h1, aJ ca 605 b), (s0, oB 6 [.ref s1, vI sn, vJ slm]), (s1, aJ ca 605 sb), (hL, oB 2 [.ref hw, .ref he, .ref hdn, .ref hdw, vI du, vI hv, vI mo, vI oft, vI la, vI pA, vI pB]), (hw, aI ca 5 w), (he, aI ca 5 ea), (hq, oB 4 [.ref hf, .ref hk, vI wt]), (hf, aQ ca 5 rw), (ra 0, aI ca 299 (F 0)), (ra 1, aI ca 299 (F 1)), (ra 2, aI ca 299 (F 2)), (ra 3, aI ca 299 (F 3)), (ra 4, aI ca 299 (F 4)), (hk, aI ca 5 T), (hdn, aI ca 6 dn), (hdw, aI ca 6 dw)] (fun (z : Int) (u : (Int → Int → Int) × (Int → Int) × Int × (Int → Int) × Int × Int) => FRok u.1 ∧ z = (pds w ea dn dw mo du (120 - n).toNat n b (wgt b w n)).1) (fun (u : (Int → Int → Int) × (Int → Int) × Int × (Int → Int) × Int × Int) => [(h7, oB 7 [.ref hd, .ref h0, .ref s0, .ref hp, .ref hi, .ref hc, .ref hg, .ref hq, .ref hz, .ref hL, .ref hy]), (h0, oB 6 [.ref h1, vI n, vJ lm]), (h1, aJ ca 605 b), (s0, oB 6 [.ref s1, vI u.2.2.2.2.1, vJ u.2.2.2.2.2]), (s1, aJ ca 605 u.2.2.2.1), (hL, oB 2 [.ref hw, .ref he, .ref hdn, .ref hdw, vI du, vI hv, vI mo, vI oft, vI la, vI pA, vI pB]), (hw, aI ca 5 w), (he, aI ca 5 ea), (hq, oB 4 [.ref hf, .ref hk, vI u.2.2.1]), (hf, aQ ca 5 rw), (ra 0, aI ca 299 (u.1 0)), (ra 1, aI ca 299 (u.1 1)), (ra 2, aI ca 299 (u.1 2)), (ra 3, aI ca 299 (u.1 3)), (ra 4, aI ca 299 (u.1 4)), (hk, aI ca 5 u.2.1), (hdn, aI ca 6 dn), (hdw, aI ca 6 dw)]) 0 0 := by
  refine zm_I (cc := cX7_met) (maxL := 1) (ret := some .int) (by decide) rfl (Nat.le_of_ble_eq_true rfl) ?_
  intro p e s m below meth c A ls R args Q hR hargs hQ hx hb hml hr hts hown hlk hnm hK hP hD hA hS hl
  have hown : s.vm.findClass RX7 = some m.cls := hown
  have hl : lv_has ls 1 [(0, .ref h7)] := hl
  refine lv_aload_n hx hb dX7_met_0 rfl (lv_at hl 0 rfl) ?_
  refine zc_VI (As := []) (rest := []) (wc := [(h7, oB 7 [.ref hd, .ref h0, .ref s0, .ref hp, .ref hi, .ref hc, .ref hg, .ref hq, .ref hz, .ref hL, .ref hy]), (h0, oB 6 [.ref h1, vI n, vJ lm]), (h1, aJ ca 605 b), (s0, oB 6 [.ref s1, vI sn, vJ slm]), (s1, aJ ca 605 sb), (hL, oB 2 [.ref hw, .ref he, .ref hdn, .ref hdw, vI du, vI hv, vI mo, vI oft, vI la, vI pA, vI pB]), (hw, aI ca 5 w), (he, aI ca 5 ea), (hq, oB 4 [.ref hf, .ref hk, vI wt]), (hf, aQ ca 5 rw), (ra 0, aI ca 299 (F 0)), (ra 1, aI ca 299 (F 1)), (ra 2, aI ca 299 (F 2)), (ra 3, aI ca 299 (F 3)), (ra 4, aI ca 299 (F 4)), (hk, aI ca 5 T), (hdn, aI ca 6 dn), (hdw, aI ca 6 dw)]) (wr := []) (k_X7_payDues l g ca h7 hd h0 s0 hp hi hc hg hq hz hL hy h1 b n lm s1 sb sn slm hw he hdn hdw w ea du hv mo oft la pA pB hf hk rw ra F T wt dn dw (by first | assumption | omega) (by first | assumption | omega) (by first | assumption | omega) (by first | assumption | omega) (by first | assumption | omega) (by first | assumption | omega) (by first | assumption | omega)) dX7_met_1 (cwV 0 hts gX7_met_X7_payDues rfl rfl rfl (by decide +kernel) (by rw [hR]; exact ⟨Nat.le_of_ble_eq_true rfl, Nat.le_of_ble_eq_true rfl⟩)) ⟨hx, hb, hml, hown, hts⟩ hl.1 hK hP hD hS hA 0 rfl rfl rfl [0, 1, 2, 3, 4, 5, 6, 7, 8, 9, 10, 11, 12, 13, 14, 15, 16, 17] [] rfl (by decide) rfl (by decide) (by decide) rfl rfl (Nat.le_of_ble_eq_true rfl) (by rw [hR]; exact ⟨Nat.le_of_ble_eq_true rfl, Nat.le_of_ble_eq_true rfl⟩) (fun z1 u H locs q1 hP hD hS => ?_)
  obtain ⟨F1_1, T1_1, wt1_1, sb1_1, sn1_1, slm1_1⟩ := u
  have q1 : FRok F1_1 ∧ z1 = (pds w ea dn dw mo du (120 - n).toNat n b (wgt b w n)).1 ∧ (z1 = -9 → GB sb1_1 sn1_1 ∧ wgt sb1_1 w sn1_1 = (pds w ea dn dw mo du (120 - n).toNat n b (wgt b w n)).2.2) := q1
  obtain ⟨q1_0, q1_1, q1_2⟩ := q1
  have hP : va_P g vwCl [(h7, oB 7 [.ref hd, .ref h0, .ref s0, .ref hp, .ref hi, .ref hc, .ref hg, .ref hq, .ref hz, .ref hL, .ref hy]), (h0, oB 6 [.ref h1, vI n, vJ lm]), (h1, aJ ca 605 b), (s0, oB 6 [.ref s1, vI sn1_1, vJ slm1_1]), (s1, aJ ca 605 sb1_1), (hL, oB 2 [.ref hw, .ref he, .ref hdn, .ref hdw, vI du, vI hv, vI mo, vI oft, vI la, vI pA, vI pB]), (hw, aI ca 5 w), (he, aI ca 5 ea), (hq, oB 4 [.ref hf, .ref hk, vI wt1_1]), (hf, aQ ca 5 rw), (ra 0, aI ca 299 (F1_1 0)), (ra 1, aI ca 299 (F1_1 1)), (ra 2, aI ca 299 (F1_1 2)), (ra 3, aI ca 299 (F1_1 3)), (ra 4, aI ca 299 (F1_1 4)), (hk, aI ca 5 T1_1), (hdn, aI ca 6 dn), (hdw, aI ca 6 dw)] H := hP.sub [0, 1, 2, 3, 4, 5, 6, 7, 8, 9, 10, 11, 12, 13, 14, 15, 16, 17] rfl
  have hD : va_D A [(h7, oB 7 [.ref hd, .ref h0, .ref s0, .ref hp, .ref hi, .ref hc, .ref hg, .ref hq, .ref hz, .ref hL, .ref hy]), (h0, oB 6 [.ref h1, vI n, vJ lm]), (h1, aJ ca 605 b), (s0, oB 6 [.ref s1, vI sn1_1, vJ slm1_1]), (s1, aJ ca 605 sb1_1), (hL, oB 2 [.ref hw, .ref he, .ref hdn, .ref hdw, vI du, vI hv, vI mo, vI oft, vI la, vI pA, vI pB]), (hw, aI ca 5 w), (he, aI ca 5 ea), (hq, oB 4 [.ref hf, .ref hk, vI wt1_1]), (hf, aQ ca 5 rw), (ra 0, aI ca 299 (F1_1 0)), (ra 1, aI ca 299 (F1_1 1)), (ra 2, aI ca 299 (F1_1 2)), (ra 3, aI ca 299 (F1_1 3)), (ra 4, aI ca 299 (F1_1 4)), (hk, aI ca 5 T1_1), (hdn, aI ca 6 dn), (hdw, aI ca 6 dw)] := hD.sub [0, 1, 2, 3, 4, 5, 6, 7, 8, 9, 10, 11, 12, 13, 14, 15, 16, 17] (by decide) rfl
  refine zr_I hx hb hr hlk hQ (F1_1, T1_1, wt1_1, sb1_1, sn1_1, slm1_1) hP hD hS dX7_met_4 (Nat.le_of_ble_eq_true rfl) (Nat.le_of_ble_eq_true rfl) ?_
  show FRok F1_1 ∧ z1 = (pds w ea dn dw mo du (120 - n).toNat n b (wgt b w n)).1
  exact ⟨q1_0, q1_1⟩
set_option maxHeartbeats 4000000 in
set_option maxRecDepth 100000 in
theorem k_X7_left (l : Launch) (g : va_G) (ca : Nat → ClassId) (h7 : Nat) (hd : Nat) (h0 : Nat) (s0 : Nat) (hp : Nat) (hi : Nat) (hc : Nat) (hg : Nat) (hq : Nat) (hz : Nat) (hL : Nat) (hy : Nat) (h1 : Nat) (b : Int → Int) (n : Int) (lm : Int) (s1 : Nat) (sb : Int → Int) (sn : Int) (slm : Int) (hw : Nat) (he : Nat) (hdn : Nat) (hdw : Nat) (w : Int → Int) (ea : Int → Int) (du : Int) (hv : Int) (mo : Int) (oft : Int) (la : Int) (pA : Int) (pB : Int) (hf : Nat) (hk : Nat) (rw : Nat → Option Nat) (ra : Nat → Nat) (F : Int → Int → Int) (T : Int → Int) (wt : Int) (dn : Int → Int) (dw : Int → Int) (hrw : ∀ k : Nat, k < 5 → rw k = some (ra k)) (hF : FRok F) (hB : GB b n) (hW : GW w) (hE : EAok ea) (hM : 1 ≤ mo ∧ mo ≤ 9) (hDU : DUok dn dw du) : zJ (S := (Int → Int → Int) × (Int → Int) × Int × (Int → Int) × Int × Int) l yX7_left wsX7_left ({ frames := 5, cells := 0, slots := 0, locals := 121 } : Room) g ca [.ref h7] [(h7, oB 7 [.ref hd, .ref h0, .ref s0, .ref hp, .ref hi, .ref hc, .ref hg, .ref hq, .ref hz, .ref hL, .ref hy]), (h0, oB 6 [.ref h1, vI n, vJ lm]), (h1, aJ ca 605 b), (s0, oB 6 [.ref s1, vI sn, vJ slm]), (s1, aJ ca 605 sb), (hL, oB 2 [.ref hw, .ref he, .ref hdn, .ref hdw, vI du, vI hv, vI mo, vI oft, vI la, vI pA, vI pB]), (hw, aI ca 5 w), (he, aI ca 5 ea), (hq, oB 4 [.ref hf, .ref hk, vI wt]), (hf, aQ ca 5 rw), (ra 0, aI ca 299 (F 0)), (ra 1, aI ca 299 (F 1)), (ra 2, aI ca 299 (F 2)), (ra 3, aI ca 299 (F 3)), (ra 4, aI ca 299 (F 4)), (hk, aI ca 5 T), (hdn, aI ca 6 dn), (hdw, aI ca 6 dw)] (fun (z : Int) (u : (Int → Int → Int) × (Int → Int) × Int × (Int → Int) × Int × Int) => FRok u.1 ∧ z = (if (pds w ea dn dw mo du (120 - n).toNat n b (wgt b w n)).1 = -9 then (pds w ea dn dw mo du (120 - n).toNat n b (wgt b w n)).2.2 else -9)) (fun (u : (Int → Int → Int) × (Int → Int) × Int × (Int → Int) × Int × Int) => [(h7, oB 7 [.ref hd, .ref h0, .ref s0, .ref hp, .ref hi, .ref hc, .ref hg, .ref hq, .ref hz, .ref hL, .ref hy]), (h0, oB 6 [.ref h1, vI n, vJ lm]), (h1, aJ ca 605 b), (s0, oB 6 [.ref s1, vI u.2.2.2.2.1, vJ u.2.2.2.2.2]), (s1, aJ ca 605 u.2.2.2.1), (hL, oB 2 [.ref hw, .ref he, .ref hdn, .ref hdw, vI du, vI hv, vI mo, vI oft, vI la, vI pA, vI pB]), (hw, aI ca 5 w), (he, aI ca 5 ea), (hq, oB 4 [.ref hf, .ref hk, vI u.2.2.1]), (hf, aQ ca 5 rw), (ra 0, aI ca 299 (u.1 0)), (ra 1, aI ca 299 (u.1 1)), (ra 2, aI ca 299 (u.1 2)), (ra 3, aI ca 299 (u.1 3)), (ra 4, aI ca 299 (u.1 4)), (hk, aI ca 5 u.2.1), (hdn, aI ca 6 dn), (hdw, aI ca 6 dw)]) 0 0 := by
  refine zm_J (cc := cX7_left) (maxL := 1) (ret := some .long) (by decide) rfl (Nat.le_of_ble_eq_true rfl) ?_
  intro p e s m below meth c A ls R args Q hR hargs hQ hx hb hml hr hts hown hlk hnm hK hP hD hA hS hl
  have hown : s.vm.findClass RX7 = some m.cls := hown
  have hl : lv_has ls 1 [(0, .ref h7)] := hl
  have lk_c193 : (Cond.constantLong RX7 193 (-9)).before args s = true := hts _ (by decide +kernel)
  have lk_f23 : (Cond.fieldLink RX7 23 "DripRings" "scratch" "LDripRings$Rings;").before args s = true := hts _ (by decide +kernel)
  have inF_X7 : ∀ w ∈ wsX70, w ∈ wsX7_left := by decide +kernel
  have lk_f65 : (Cond.fieldLink RX7 65 "DripRings" "law" "LDripRings$Law;").before args s = true := hts _ (by decide +kernel)
  refine lv_aload_n hx hb dX7_left_0 rfl (lv_at hl 0 rfl) ?_
  refine zc_VI (As := []) (rest := []) (wc := [(h7, oB 7 [.ref hd, .ref h0, .ref s0, .ref hp, .ref hi, .ref hc, .ref hg, .ref hq, .ref hz, .ref hL, .ref hy]), (h0, oB 6 [.ref h1, vI n, vJ lm]), (h1, aJ ca 605 b), (s0, oB 6 [.ref s1, vI sn, vJ slm]), (s1, aJ ca 605 sb), (hL, oB 2 [.ref hw, .ref he, .ref hdn, .ref hdw, vI du, vI hv, vI mo, vI oft, vI la, vI pA, vI pB]), (hw, aI ca 5 w), (he, aI ca 5 ea), (hq, oB 4 [.ref hf, .ref hk, vI wt]), (hf, aQ ca 5 rw), (ra 0, aI ca 299 (F 0)), (ra 1, aI ca 299 (F 1)), (ra 2, aI ca 299 (F 2)), (ra 3, aI ca 299 (F 3)), (ra 4, aI ca 299 (F 4)), (hk, aI ca 5 T), (hdn, aI ca 6 dn), (hdw, aI ca 6 dw)]) (wr := []) (k_X7_payDues l g ca h7 hd h0 s0 hp hi hc hg hq hz hL hy h1 b n lm s1 sb sn slm hw he hdn hdw w ea du hv mo oft la pA pB hf hk rw ra F T wt dn dw (by first | assumption | omega) (by first | assumption | omega) (by first | assumption | omega) (by first | assumption | omega) (by first | assumption | omega) (by first | assumption | omega) (by first | assumption | omega)) dX7_left_1 (cwV 0 hts gX7_left_X7_payDues rfl rfl rfl (by decide +kernel) (by rw [hR]; exact ⟨Nat.le_of_ble_eq_true rfl, Nat.le_of_ble_eq_true rfl⟩)) ⟨hx, hb, hml, hown, hts⟩ hl.1 hK hP hD hS hA 0 rfl rfl rfl [0, 1, 2, 3, 4, 5, 6, 7, 8, 9, 10, 11, 12, 13, 14, 15, 16, 17] [] rfl (by decide) rfl (by decide) (by decide) rfl rfl (Nat.le_of_ble_eq_true rfl) (by rw [hR]; exact ⟨Nat.le_of_ble_eq_true rfl, Nat.le_of_ble_eq_true rfl⟩) (fun z1 u H locs q1 hP hD hS => ?_)
  obtain ⟨F1_1, T1_1, wt1_1, sb1_1, sn1_1, slm1_1⟩ := u
  have q1 : FRok F1_1 ∧ z1 = (pds w ea dn dw mo du (120 - n).toNat n b (wgt b w n)).1 ∧ (z1 = -9 → GB sb1_1 sn1_1 ∧ wgt sb1_1 w sn1_1 = (pds w ea dn dw mo du (120 - n).toNat n b (wgt b w n)).2.2) := q1
  obtain ⟨q1_0, q1_1, q1_2⟩ := q1
  have hP : va_P g vwCl [(h7, oB 7 [.ref hd, .ref h0, .ref s0, .ref hp, .ref hi, .ref hc, .ref hg, .ref hq, .ref hz, .ref hL, .ref hy]), (h0, oB 6 [.ref h1, vI n, vJ lm]), (h1, aJ ca 605 b), (s0, oB 6 [.ref s1, vI sn1_1, vJ slm1_1]), (s1, aJ ca 605 sb1_1), (hL, oB 2 [.ref hw, .ref he, .ref hdn, .ref hdw, vI du, vI hv, vI mo, vI oft, vI la, vI pA, vI pB]), (hw, aI ca 5 w), (he, aI ca 5 ea), (hq, oB 4 [.ref hf, .ref hk, vI wt1_1]), (hf, aQ ca 5 rw), (ra 0, aI ca 299 (F1_1 0)), (ra 1, aI ca 299 (F1_1 1)), (ra 2, aI ca 299 (F1_1 2)), (ra 3, aI ca 299 (F1_1 3)), (ra 4, aI ca 299 (F1_1 4)), (hk, aI ca 5 T1_1), (hdn, aI ca 6 dn), (hdw, aI ca 6 dw)] H := hP.sub [0, 1, 2, 3, 4, 5, 6, 7, 8, 9, 10, 11, 12, 13, 14, 15, 16, 17] rfl
  have hD : va_D A [(h7, oB 7 [.ref hd, .ref h0, .ref s0, .ref hp, .ref hi, .ref hc, .ref hg, .ref hq, .ref hz, .ref hL, .ref hy]), (h0, oB 6 [.ref h1, vI n, vJ lm]), (h1, aJ ca 605 b), (s0, oB 6 [.ref s1, vI sn1_1, vJ slm1_1]), (s1, aJ ca 605 sb1_1), (hL, oB 2 [.ref hw, .ref he, .ref hdn, .ref hdw, vI du, vI hv, vI mo, vI oft, vI la, vI pA, vI pB]), (hw, aI ca 5 w), (he, aI ca 5 ea), (hq, oB 4 [.ref hf, .ref hk, vI wt1_1]), (hf, aQ ca 5 rw), (ra 0, aI ca 299 (F1_1 0)), (ra 1, aI ca 299 (F1_1 1)), (ra 2, aI ca 299 (F1_1 2)), (ra 3, aI ca 299 (F1_1 3)), (ra 4, aI ca 299 (F1_1 4)), (hk, aI ca 5 T1_1), (hdn, aI ca 6 dn), (hdw, aI ca 6 dw)] := hD.sub [0, 1, 2, 3, 4, 5, 6, 7, 8, 9, 10, 11, 12, 13, 14, 15, 16, 17] (by decide) rfl
  have hz1 : -9 ≤ z1 ∧ z1 ≤ 200 := by rw [q1_1]; exact pds_rng hDU.1 _ _ _ _
  refine lv_bipush (v := Int32.ofInt (-9)) hx hb dX7_left_4 (by decide) ?_
  refine ri_icmp_ne (tgt := 23) hx hb dX7_left_6 (by decide) ⟨by omega, by omega⟩ ⟨by omega, by omega⟩ (fun c6 => ?_) (fun c6 => ?_)
  · skip
    refine rj_ldc (z := (-9)) hx hb hown lk_c193 dX7_left_23 (by decide) ?_
    refine zr_J hx hb hr hlk hQ (F1_1, T1_1, wt1_1, sb1_1, sn1_1, slm1_1) hP hD hS dX7_left_26 (Nat.le_of_ble_eq_true rfl) (Nat.le_of_ble_eq_true rfl) ?_
    show FRok F1_1 ∧ (-9) = (if (pds w ea dn dw mo du (120 - n).toNat n b (wgt b w n)).1 = -9 then (pds w ea dn dw mo du (120 - n).toNat n b (wgt b w n)).2.2 else -9)
    refine ⟨q1_0, ?_⟩
    first
    | (rw [if_neg (by omega)]; done)
    | (rw [if_pos (by omega), q17, hg9.2])
  · skip
    have hg9 := q1_2 (by omega)
    refine lv_aload_n hx hb dX7_left_9 rfl (lv_at hl 0 rfl) ?_
    refine va_get (D := g) (ci := 7) (v := .ref s0) (C := RX7) (T := TX7) (N := 11) hx hb hts inF_X7 hown hK.1 hP 0 rfl rfl 2 (by decide) lk_f23 (fun _ h9 => h9) rfl dX7_left_10 ?_
    refine lv_aload_n hx hb dX7_left_13 rfl (lv_at hl 0 rfl) ?_
    refine va_get (D := g) (ci := 7) (v := .ref hL) (C := RX7) (T := TX7) (N := 11) hx hb hts inF_X7 hown hK.1 hP 0 rfl rfl 9 (by decide) lk_f65 (fun _ h9 => h9) rfl dX7_left_14 ?_
    refine zc_VJ (As := [.ref hL]) (rest := []) (wc := [(s0, oB 6 [.ref s1, vI sn1_1, vJ slm1_1]), (s1, aJ ca 605 sb1_1), (hL, oB 2 [.ref hw, .ref he, .ref hdn, .ref hdw, vI du, vI hv, vI mo, vI oft, vI la, vI pA, vI pB]), (hw, aI ca 5 w)]) (wr := [(h7, oB 7 [.ref hd, .ref h0, .ref s0, .ref hp, .ref hi, .ref hc, .ref hg, .ref hq, .ref hz, .ref hL, .ref hy]), (h0, oB 6 [.ref h1, vI n, vJ lm]), (h1, aJ ca 605 b), (he, aI ca 5 ea), (hq, oB 4 [.ref hf, .ref hk, vI wt1_1]), (hf, aQ ca 5 rw), (ra 0, aI ca 299 (F1_1 0)), (ra 1, aI ca 299 (F1_1 1)), (ra 2, aI ca 299 (F1_1 2)), (ra 3, aI ca 299 (F1_1 3)), (ra 4, aI ca 299 (F1_1 4)), (hk, aI ca 5 T1_1), (hdn, aI ca 6 dn), (hdw, aI ca 6 dw)]) (k_X6_weight l g ca s0 s1 sb1_1 sn1_1 slm1_1 hL hw he hdn hdw w du hv mo oft la pA pB (by exact hg9.1.1) (by first | assumption | omega)) dX7_left_17 (cwV 1 hts gX7_left_X6_weight rfl rfl rfl (by decide +kernel) (by rw [hR]; exact ⟨Nat.le_of_ble_eq_true rfl, Nat.le_of_ble_eq_true rfl⟩)) ⟨hx, hb, hml, hown, hts⟩ hl.1 hK hP hD hS hA 3 rfl rfl rfl [3, 4, 5, 6] [0, 1, 2, 7, 8, 9, 10, 11, 12, 13, 14, 15, 16, 17] rfl (by decide) rfl (by decide) (by decide) rfl rfl (Nat.le_of_ble_eq_true rfl) (by rw [hR]; exact ⟨Nat.le_of_ble_eq_true rfl, Nat.le_of_ble_eq_true rfl⟩) (fun z17 u H locs q17 hP hD hS => ?_)
    have q17 : z17 = wgt sb1_1 w sn1_1 := q17
    have hP : va_P g vwCl [(h7, oB 7 [.ref hd, .ref h0, .ref s0, .ref hp, .ref hi, .ref hc, .ref hg, .ref hq, .ref hz, .ref hL, .ref hy]), (h0, oB 6 [.ref h1, vI n, vJ lm]), (h1, aJ ca 605 b), (s0, oB 6 [.ref s1, vI sn1_1, vJ slm1_1]), (s1, aJ ca 605 sb1_1), (hL, oB 2 [.ref hw, .ref he, .ref hdn, .ref hdw, vI du, vI hv, vI mo, vI oft, vI la, vI pA, vI pB]), (hw, aI ca 5 w), (he, aI ca 5 ea), (hq, oB 4 [.ref hf, .ref hk, vI wt1_1]), (hf, aQ ca 5 rw), (ra 0, aI ca 299 (F1_1 0)), (ra 1, aI ca 299 (F1_1 1)), (ra 2, aI ca 299 (F1_1 2)), (ra 3, aI ca 299 (F1_1 3)), (ra 4, aI ca 299 (F1_1 4)), (hk, aI ca 5 T1_1), (hdn, aI ca 6 dn), (hdw, aI ca 6 dw)] H := hP.sub [0, 1, 2, 14, 15, 16, 17, 3, 4, 5, 6, 7, 8, 9, 10, 11, 12, 13] rfl
    have hD : va_D A [(h7, oB 7 [.ref hd, .ref h0, .ref s0, .ref hp, .ref hi, .ref hc, .ref hg, .ref hq, .ref hz, .ref hL, .ref hy]), (h0, oB 6 [.ref h1, vI n, vJ lm]), (h1, aJ ca 605 b), (s0, oB 6 [.ref s1, vI sn1_1, vJ slm1_1]), (s1, aJ ca 605 sb1_1), (hL, oB 2 [.ref hw, .ref he, .ref hdn, .ref hdw, vI du, vI hv, vI mo, vI oft, vI la, vI pA, vI pB]), (hw, aI ca 5 w), (he, aI ca 5 ea), (hq, oB 4 [.ref hf, .ref hk, vI wt1_1]), (hf, aQ ca 5 rw), (ra 0, aI ca 299 (F1_1 0)), (ra 1, aI ca 299 (F1_1 1)), (ra 2, aI ca 299 (F1_1 2)), (ra 3, aI ca 299 (F1_1 3)), (ra 4, aI ca 299 (F1_1 4)), (hk, aI ca 5 T1_1), (hdn, aI ca 6 dn), (hdw, aI ca 6 dw)] := hD.sub [0, 1, 2, 14, 15, 16, 17, 3, 4, 5, 6, 7, 8, 9, 10, 11, 12, 13] (by decide) rfl
    refine lv_goto (tgt := 26) hx hb dX7_left_20 (by decide) ?_
    refine zr_J hx hb hr hlk hQ (F1_1, T1_1, wt1_1, sb1_1, sn1_1, slm1_1) hP hD hS dX7_left_26 (Nat.le_of_ble_eq_true rfl) (Nat.le_of_ble_eq_true rfl) ?_
    show FRok F1_1 ∧ z17 = (if (pds w ea dn dw mo du (120 - n).toNat n b (wgt b w n)).1 = -9 then (pds w ea dn dw mo du (120 - n).toNat n b (wgt b w n)).2.2 else -9)
    refine ⟨q1_0, ?_⟩
    first
    | (rw [if_neg (by omega)]; done)
    | (rw [if_pos (by omega), q17, hg9.2])
