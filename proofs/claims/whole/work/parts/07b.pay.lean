set_option maxHeartbeats 4000000 in
set_option maxRecDepth 100000 in
theorem k_X4_fill (l : Launch) (g : va_G) (ca : Nat → ClassId) (hq : Nat) (hf : Nat) (hk : Nat) (rw : Nat → Option Nat) (ra : Nat → Nat) (F : Int → Int → Int) (wt : Int) (cf : Int → Int) (w : Int → Int) (o : Int) (hv : Int) (ec : Int) (hrw : ∀ k : Nat, k < 5 → rw k = some (ra k)) (hF : FRok F) (ho : 0 ≤ o ∧ o ≤ 4) (hhv : 0 ≤ hv ∧ hv ≤ 1000000000000000 ∧ hv = cf o) (hec : 0 ≤ ec ∧ ec ≤ 99 ∧ ec = w o) (hW : GW w) (hlow : ∀ s : Int, 0 ≤ s → s ≤ 298 → (cwp F (o - 1) s ↔ RC cf w o.toNat s)) : zV (S := (Int → Int → Int)) l yX4_fill wsX4_fill ({ frames := 1, cells := 0, slots := 0, locals := 22 } : Room) g ca [.ref hq, vI o, vJ hv, vI ec] [(hq, oB 4 [.ref hf, .ref hk, vI wt]), (hf, aQ ca 5 rw), (ra 0, aI ca 299 (F 0)), (ra 1, aI ca 299 (F 1)), (ra 2, aI ca 299 (F 2)), (ra 3, aI ca 299 (F 3)), (ra 4, aI ca 299 (F 4))] (fun (u : (Int → Int → Int)) => FRok u ∧ (∀ k : Int, k ≠ o → u k = F k) ∧ (∀ s : Int, 0 ≤ s → s ≤ 298 → (cwp u o s ↔ RC cf w (o + 1).toNat s))) (fun (u : (Int → Int → Int)) => [(hq, oB 4 [.ref hf, .ref hk, vI wt]), (hf, aQ ca 5 rw), (ra 0, aI ca 299 (u 0)), (ra 1, aI ca 299 (u 1)), (ra 2, aI ca 299 (u 2)), (ra 3, aI ca 299 (u 3)), (ra 4, aI ca 299 (u 4))]) 0 0 := by
  refine zm_V (cc := cX4_fill) (maxL := 8) (ret := none) (by decide) rfl (Nat.le_of_ble_eq_true rfl) ?_
  intro p e s m below meth c A ls R args Q hR hargs hQ hx hb hml hr hts hown hlk hnm hK hP hD hA hS hl
  have hown : s.vm.findClass RX4 = some m.cls := hown
  have hl : lv_has ls 8 [(0, .ref hq), (1, vI o), (2, vJ hv), (4, vI ec)] := hl
  have lk_f13 : (Cond.fieldLink RX4 13 "DripRings$Payment" "fewest" "[[I").before args s = true := hts _ (by decide +kernel)
  have inF_X4 : ∀ w ∈ wsX40, w ∈ wsX4_fill := by decide +kernel
  refine lv_iconst (v := Int32.ofInt 0) hx hb dX4_fill_0 rfl ?_
  refine lv_istore (lv' := [(5, vI 0), (0, .ref hq), (1, vI o), (2, vJ hv), (4, vI ec)]) hx hb dX4_fill_1 hl (by decide) rfl (fun ls hl => ?_)
  have L3 : ∀ (N3 : Nat) (sx : Int) (G : Int → Int → Int) (hi : 0 ≤ sx ∧ sx ≤ 299) (hG : FRok G) (hGn : ∀ k : Int, k ≠ o → G k = F k) (hGo : ∀ s : Int, 0 ≤ s → s < sx → FW (RC cf w o.toNat) hv ec (G o s) s) (hμ : (299 - sx).toNat < N3) (H : Heap) (locs : List Loc) (hP : va_P g vwCl [(hq, oB 4 [.ref hf, .ref hk, vI wt]), (hf, aQ ca 5 rw), (ra 0, aI ca 299 (G 0)), (ra 1, aI ca 299 (G 1)), (ra 2, aI ca 299 (G 2)), (ra 3, aI ca 299 (G 3)), (ra 4, aI ca 299 (G 4))] H) (hD : va_D A [(hq, oB 4 [.ref hf, .ref hk, vI wt]), (hf, aQ ca 5 rw), (ra 0, aI ca 299 (G 0)), (ra 1, aI ca 299 (G 1)), (ra 2, aI ca 299 (G 2)), (ra 3, aI ca 299 (G 3)), (ra 4, aI ca 299 (G 4))]) (hS : va_S A s.heap H locs) (ls : Array Slot) (hl : lv_has ls 8 [(5, vI sx), (0, .ref hq), (1, vI o), (2, vJ hv), (4, vI ec)]), W p l e R s m args below meth c H locs 0 0 Q (F0 m 3 ls []) := by
    intro N3; induction N3 with
    | zero => intro sx G hi hG hGn hGo hμ; exact absurd hμ (Nat.not_lt_zero _)
    | succ N3 ih3 =>
      intro sx G hi hG hGn hGo hμ H locs hP hD hS ls hl
      refine lv_iload hx hb dX4_fill_3 (lv_at hl 0 rfl) ?_
      refine lv_sipush (v := Int32.ofInt 299) hx hb dX4_fill_5 (by decide) ?_
      refine ri_icmp_ge (tgt := 98) hx hb dX4_fill_8 (by decide) ⟨by omega, by omega⟩ ⟨by omega, by omega⟩ (fun c8 => ?_) (fun c8 => ?_)
      · skip
        refine zr_V hx hb hr hlk hQ (G) hP hD hS dX4_fill_98 (Nat.le_of_ble_eq_true rfl) (Nat.le_of_ble_eq_true rfl) ?_
        show FRok G ∧ (∀ k : Int, k ≠ o → G k = F k) ∧ (∀ s : Int, 0 ≤ s → s ≤ 298 → (cwp G o s ↔ RC cf w (o + 1).toNat s))
        refine ⟨hG, hGn, fun s h1 h2 => ?_⟩
        have h3 := FW_iff (hGo s h1 (by omega))
        unfold cwp
        rw [if_neg (by omega), h3]
        obtain ⟨k9, rfl⟩ : ∃ k9 : Nat, o = k9 := ⟨o.toNat, by omega⟩
        rw [show ((k9 : Int) + 1).toNat = k9 + 1 by omega, hhv.2.2, hec.2.2]
        rfl
      · skip
        refine lv_iconst (v := Int32.ofInt (-1)) hx hb dX4_fill_11 rfl ?_
        refine lv_istore (lv' := [(6, vI (-1)), (5, vI sx), (0, .ref hq), (1, vI o), (2, vJ hv), (4, vI ec)]) hx hb dX4_fill_12 hl (by decide) rfl (fun ls hl => ?_)
        refine lv_aload_n hx hb dX4_fill_14 rfl (lv_at hl 2 rfl) ?_
        refine lv_iload_n hx hb dX4_fill_15 rfl (lv_at hl 3 rfl) ?_
        refine lv_iconst (v := Int32.ofInt 1) hx hb dX4_fill_16 rfl ?_
        refine ri_sub hx hb dX4_fill_17 (fun z17 e17 => ?_)
        refine lv_iload hx hb dX4_fill_18 (lv_at hl 1 rfl) ?_
        refine zc_VI (As := [vI z17, vI sx]) (rest := []) (wc := [(hq, oB 4 [.ref hf, .ref hk, vI wt]), (hf, aQ ca 5 rw), (ra 0, aI ca 299 (G 0)), (ra 1, aI ca 299 (G 1)), (ra 2, aI ca 299 (G 2)), (ra 3, aI ca 299 (G 3)), (ra 4, aI ca 299 (G 4))]) (wr := []) (k_X4_canWeigh l g ca hq hf hk rw ra G wt z17 sx (by first | assumption | omega) (by exact hG) (by first | assumption | omega) (by first | assumption | omega)) dX4_fill_20 (cwV 2 hts gX4_fill_X4_canWeigh rfl rfl rfl (by decide +kernel) (by rw [hR]; exact ⟨Nat.le_of_ble_eq_true rfl, Nat.le_of_ble_eq_true rfl⟩)) ⟨hx, hb, hml, hown, hts⟩ hl.1 hK hP hD hS hA 0 rfl rfl rfl [0, 1, 2, 3, 4, 5, 6] [] rfl (by decide) rfl (by decide) (by decide) rfl rfl (Nat.le_of_ble_eq_true rfl) (by rw [hR]; exact ⟨Nat.le_of_ble_eq_true rfl, Nat.le_of_ble_eq_true rfl⟩) (fun z20 u H locs q20 hP hD hS => ?_)
        have q20 : (z20 = 1 ∧ cwp G z17 sx) ∨ (z20 = 0 ∧ ¬ cwp G z17 sx) := q20
        have hP : va_P g vwCl [(hq, oB 4 [.ref hf, .ref hk, vI wt]), (hf, aQ ca 5 rw), (ra 0, aI ca 299 (G 0)), (ra 1, aI ca 299 (G 1)), (ra 2, aI ca 299 (G 2)), (ra 3, aI ca 299 (G 3)), (ra 4, aI ca 299 (G 4))] H := hP.sub [0, 1, 2, 3, 4, 5, 6] rfl
        have hD : va_D A [(hq, oB 4 [.ref hf, .ref hk, vI wt]), (hf, aQ ca 5 rw), (ra 0, aI ca 299 (G 0)), (ra 1, aI ca 299 (G 1)), (ra 2, aI ca 299 (G 2)), (ra 3, aI ca 299 (G 3)), (ra 4, aI ca 299 (G 4))] := hD.sub [0, 1, 2, 3, 4, 5, 6] (by decide) rfl
        have hl23 := hlow sx (by omega) (by omega)
        have hc23 : cwp G (o - 1) sx ↔ cwp F (o - 1) sx := by
          unfold cwp
          rw [hGn (o - 1) (by omega)]
        rw [e17, hc23, hl23] at q20
        refine ri_if_eq (tgt := 32) hx hb dX4_fill_23 (by decide) ⟨by omega, by omega⟩ (fun c23 => ?_) (fun c23 => ?_)
        · skip
          refine lv_iload hx hb dX4_fill_32 (lv_at hl 5 rfl) ?_
          refine ri_if_le (tgt := 81) hx hb dX4_fill_34 (by decide) ⟨by omega, by omega⟩ (fun c34 => ?_) (fun c34 => ?_)
          · skip
            have hx81 : FW (RC cf w o.toNat) hv ec (-1) sx := by
              rcases q20 with q9 | q9
              · first | exact FW_0 (by omega) (by omega) q9.2 | (exfalso; omega)
              · first | (exfalso; omega) | exact FW_none (fun x hx9 => RC_neg hW _ x (by omega) hx9) q9.2 (by omega) (by omega) | (rw [e74]; exact (FW_step q9.2 (by omega) (by omega) hp57).1 (by omega)) | exact (FW_step q9.2 (by omega) (by omega) hp57).2 (by omega)
            refine lv_aload_n hx hb dX4_fill_81 rfl (lv_at hl 2 rfl) ?_
            refine va_get (D := g) (ci := 4) (v := .ref hf) (C := RX4) (T := TX4) (N := 3) hx hb hts inF_X4 hown hK.1 hP 0 rfl rfl 0 (by decide) lk_f13 (fun _ h9 => h9) rfl dX4_fill_82 ?_
            refine lv_iload_n hx hb dX4_fill_85 rfl (lv_at hl 3 rfl) ?_
            refine ra_qld hx hb hK hP 1 rfl dX4_fill_86 ⟨by omega, by omega⟩ (by omega) (x := ra o.toNat) (hrw o.toNat (by omega)) ?_
            refine lv_iload hx hb dX4_fill_87 (lv_at hl 1 rfl) ?_
            refine lv_iload hx hb dX4_fill_89 (lv_at hl 0 rfl) ?_
            refine ra_ist hx hb hK hP hD hS (2 + (o).toNat) (n := 299) (f := G o) (zf_get ⟨by omega, by omega⟩) dX4_fill_91 ⟨by omega, by omega⟩ (by omega) (fun H locs hP hD hS => ?_)
            rw [zf_set ⟨by omega, by omega⟩] at hP hD
            have hP : va_P g vwCl [(hq, oB 4 [.ref hf, .ref hk, vI wt]), (hf, aQ ca 5 rw), (ra 0, aI ca 299 ((zF G o (zu (G o) sx (-1))) 0)), (ra 1, aI ca 299 ((zF G o (zu (G o) sx (-1))) 1)), (ra 2, aI ca 299 ((zF G o (zu (G o) sx (-1))) 2)), (ra 3, aI ca 299 ((zF G o (zu (G o) sx (-1))) 3)), (ra 4, aI ca 299 ((zF G o (zu (G o) sx (-1))) 4))] H := hP
            have hD : va_D A [(hq, oB 4 [.ref hf, .ref hk, vI wt]), (hf, aQ ca 5 rw), (ra 0, aI ca 299 ((zF G o (zu (G o) sx (-1))) 0)), (ra 1, aI ca 299 ((zF G o (zu (G o) sx (-1))) 1)), (ra 2, aI ca 299 ((zF G o (zu (G o) sx (-1))) 2)), (ra 3, aI ca 299 ((zF G o (zu (G o) sx (-1))) 3)), (ra 4, aI ca 299 ((zF G o (zu (G o) sx (-1))) 4))] := hD
            obtain ⟨z92, e92⟩ : ∃ q : Int, q = sx + 1 := ⟨_, rfl⟩
            refine ri_inc (lv' := [(5, vI z92), (6, vI (-1)), (0, .ref hq), (1, vI o), (2, vJ hv), (4, vI ec)]) hx hb dX4_fill_92 hl (k := 1) rfl (by decide) z92 e92 rfl (fun ls hl => ?_)
            refine lv_goto (tgt := 3) hx hb dX4_fill_95 (by decide) ?_
            exact ih3 z92 (zF G o (zu (G o) sx (-1))) (by first | assumption | omega) (by exact FRok_set hG (FW_rng hx81 (by omega))) (by intro k hk; rw [zF_n hk]; exact hGn k hk) (by rw [e92]; exact fill_go hGo hx81) (by omega) _ _ hP hD hS ls (lv_sub hl [0, 2, 3, 4, 5] rfl)
          · skip
            refine lv_iload hx hb dX4_fill_37 (lv_at hl 1 rfl) ?_
            refine lv_iload hx hb dX4_fill_39 (lv_at hl 5 rfl) ?_
            refine ri_icmp_lt (tgt := 81) hx hb dX4_fill_41 (by decide) ⟨by omega, by omega⟩ ⟨by omega, by omega⟩ (fun c41 => ?_) (fun c41 => ?_)
            · skip
              have hx81 : FW (RC cf w o.toNat) hv ec (-1) sx := by
                rcases q20 with q9 | q9
                · first | exact FW_0 (by omega) (by omega) q9.2 | (exfalso; omega)
                · first | (exfalso; omega) | exact FW_none (fun x hx9 => RC_neg hW _ x (by omega) hx9) q9.2 (by omega) (by omega) | (rw [e74]; exact (FW_step q9.2 (by omega) (by omega) hp57).1 (by omega)) | exact (FW_step q9.2 (by omega) (by omega) hp57).2 (by omega)
              refine lv_aload_n hx hb dX4_fill_81 rfl (lv_at hl 2 rfl) ?_
              refine va_get (D := g) (ci := 4) (v := .ref hf) (C := RX4) (T := TX4) (N := 3) hx hb hts inF_X4 hown hK.1 hP 0 rfl rfl 0 (by decide) lk_f13 (fun _ h9 => h9) rfl dX4_fill_82 ?_
              refine lv_iload_n hx hb dX4_fill_85 rfl (lv_at hl 3 rfl) ?_
              refine ra_qld hx hb hK hP 1 rfl dX4_fill_86 ⟨by omega, by omega⟩ (by omega) (x := ra o.toNat) (hrw o.toNat (by omega)) ?_
              refine lv_iload hx hb dX4_fill_87 (lv_at hl 1 rfl) ?_
              refine lv_iload hx hb dX4_fill_89 (lv_at hl 0 rfl) ?_
              refine ra_ist hx hb hK hP hD hS (2 + (o).toNat) (n := 299) (f := G o) (zf_get ⟨by omega, by omega⟩) dX4_fill_91 ⟨by omega, by omega⟩ (by omega) (fun H locs hP hD hS => ?_)
              rw [zf_set ⟨by omega, by omega⟩] at hP hD
              have hP : va_P g vwCl [(hq, oB 4 [.ref hf, .ref hk, vI wt]), (hf, aQ ca 5 rw), (ra 0, aI ca 299 ((zF G o (zu (G o) sx (-1))) 0)), (ra 1, aI ca 299 ((zF G o (zu (G o) sx (-1))) 1)), (ra 2, aI ca 299 ((zF G o (zu (G o) sx (-1))) 2)), (ra 3, aI ca 299 ((zF G o (zu (G o) sx (-1))) 3)), (ra 4, aI ca 299 ((zF G o (zu (G o) sx (-1))) 4))] H := hP
              have hD : va_D A [(hq, oB 4 [.ref hf, .ref hk, vI wt]), (hf, aQ ca 5 rw), (ra 0, aI ca 299 ((zF G o (zu (G o) sx (-1))) 0)), (ra 1, aI ca 299 ((zF G o (zu (G o) sx (-1))) 1)), (ra 2, aI ca 299 ((zF G o (zu (G o) sx (-1))) 2)), (ra 3, aI ca 299 ((zF G o (zu (G o) sx (-1))) 3)), (ra 4, aI ca 299 ((zF G o (zu (G o) sx (-1))) 4))] := hD
              obtain ⟨z92, e92⟩ : ∃ q : Int, q = sx + 1 := ⟨_, rfl⟩
              refine ri_inc (lv' := [(5, vI z92), (6, vI (-1)), (0, .ref hq), (1, vI o), (2, vJ hv), (4, vI ec)]) hx hb dX4_fill_92 hl (k := 1) rfl (by decide) z92 e92 rfl (fun ls hl => ?_)
              refine lv_goto (tgt := 3) hx hb dX4_fill_95 (by decide) ?_
              exact ih3 z92 (zF G o (zu (G o) sx (-1))) (by first | assumption | omega) (by exact FRok_set hG (FW_rng hx81 (by omega))) (by intro k hk; rw [zF_n hk]; exact hGn k hk) (by rw [e92]; exact fill_go hGo hx81) (by omega) _ _ hP hD hS ls (lv_sub hl [0, 2, 3, 4, 5] rfl)
            · skip
              refine lv_aload_n hx hb dX4_fill_44 rfl (lv_at hl 2 rfl) ?_
              refine va_get (D := g) (ci := 4) (v := .ref hf) (C := RX4) (T := TX4) (N := 3) hx hb hts inF_X4 hown hK.1 hP 0 rfl rfl 0 (by decide) lk_f13 (fun _ h9 => h9) rfl dX4_fill_45 ?_
              refine lv_iload_n hx hb dX4_fill_48 rfl (lv_at hl 3 rfl) ?_
              refine ra_qld hx hb hK hP 1 rfl dX4_fill_49 ⟨by omega, by omega⟩ (by omega) (x := ra o.toNat) (hrw o.toNat (by omega)) ?_
              refine lv_iload hx hb dX4_fill_50 (lv_at hl 1 rfl) ?_
              refine lv_iload hx hb dX4_fill_52 (lv_at hl 5 rfl) ?_
              refine ri_sub hx hb dX4_fill_54 (fun z54 e54 => ?_)
              refine ra_ild hx hb hK hP (2 + (o).toNat) (n := 299) (f := G o) (zf_get ⟨by omega, by omega⟩) dX4_fill_55 ⟨by omega, by omega⟩ (by omega) ?_
              have hp56 := hGo z54 (by omega) (by omega)
              have hg56 := FW_rng hp56 ⟨by omega, by omega⟩
              have hp57 : FW (RC cf w o.toNat) hv ec (G o z54) (sx - ec) := by rw [← e54]; exact hp56
              refine lv_istore (lv' := [(7, vI ((G o) z54)), (6, vI (-1)), (5, vI sx), (0, .ref hq), (1, vI o), (2, vJ hv), (4, vI ec)]) hx hb dX4_fill_56 hl (by decide) rfl (fun ls hl => ?_)
              refine lv_iload hx hb dX4_fill_58 (lv_at hl 0 rfl) ?_
              refine ri_if_lt (tgt := 78) hx hb dX4_fill_60 (by decide) ⟨by omega, by omega⟩ (fun c60 => ?_) (fun c60 => ?_)
              · skip
                refine lv_iconst (v := Int32.ofInt (-1)) hx hb dX4_fill_78 rfl ?_
                refine lv_istore (lv' := [(6, vI (-1)), (7, vI ((G o) z54)), (5, vI sx), (0, .ref hq), (1, vI o), (2, vJ hv), (4, vI ec)]) hx hb dX4_fill_79 hl (by decide) rfl (fun ls hl => ?_)
                have hx81 : FW (RC cf w o.toNat) hv ec (-1) sx := by
                  rcases q20 with q9 | q9
                  · first | exact FW_0 (by omega) (by omega) q9.2 | (exfalso; omega)
                  · first | (exfalso; omega) | exact FW_none (fun x hx9 => RC_neg hW _ x (by omega) hx9) q9.2 (by omega) (by omega) | (rw [e74]; exact (FW_step q9.2 (by omega) (by omega) hp57).1 (by omega)) | exact (FW_step q9.2 (by omega) (by omega) hp57).2 (by omega)
                refine lv_aload_n hx hb dX4_fill_81 rfl (lv_at hl 3 rfl) ?_
                refine va_get (D := g) (ci := 4) (v := .ref hf) (C := RX4) (T := TX4) (N := 3) hx hb hts inF_X4 hown hK.1 hP 0 rfl rfl 0 (by decide) lk_f13 (fun _ h9 => h9) rfl dX4_fill_82 ?_
                refine lv_iload_n hx hb dX4_fill_85 rfl (lv_at hl 4 rfl) ?_
                refine ra_qld hx hb hK hP 1 rfl dX4_fill_86 ⟨by omega, by omega⟩ (by omega) (x := ra o.toNat) (hrw o.toNat (by omega)) ?_
                refine lv_iload hx hb dX4_fill_87 (lv_at hl 2 rfl) ?_
                refine lv_iload hx hb dX4_fill_89 (lv_at hl 0 rfl) ?_
                refine ra_ist hx hb hK hP hD hS (2 + (o).toNat) (n := 299) (f := G o) (zf_get ⟨by omega, by omega⟩) dX4_fill_91 ⟨by omega, by omega⟩ (by omega) (fun H locs hP hD hS => ?_)
                rw [zf_set ⟨by omega, by omega⟩] at hP hD
                have hP : va_P g vwCl [(hq, oB 4 [.ref hf, .ref hk, vI wt]), (hf, aQ ca 5 rw), (ra 0, aI ca 299 ((zF G o (zu (G o) sx (-1))) 0)), (ra 1, aI ca 299 ((zF G o (zu (G o) sx (-1))) 1)), (ra 2, aI ca 299 ((zF G o (zu (G o) sx (-1))) 2)), (ra 3, aI ca 299 ((zF G o (zu (G o) sx (-1))) 3)), (ra 4, aI ca 299 ((zF G o (zu (G o) sx (-1))) 4))] H := hP
                have hD : va_D A [(hq, oB 4 [.ref hf, .ref hk, vI wt]), (hf, aQ ca 5 rw), (ra 0, aI ca 299 ((zF G o (zu (G o) sx (-1))) 0)), (ra 1, aI ca 299 ((zF G o (zu (G o) sx (-1))) 1)), (ra 2, aI ca 299 ((zF G o (zu (G o) sx (-1))) 2)), (ra 3, aI ca 299 ((zF G o (zu (G o) sx (-1))) 3)), (ra 4, aI ca 299 ((zF G o (zu (G o) sx (-1))) 4))] := hD
                obtain ⟨z92, e92⟩ : ∃ q : Int, q = sx + 1 := ⟨_, rfl⟩
                refine ri_inc (lv' := [(5, vI z92), (6, vI (-1)), (7, vI ((G o) z54)), (0, .ref hq), (1, vI o), (2, vJ hv), (4, vI ec)]) hx hb dX4_fill_92 hl (k := 2) rfl (by decide) z92 e92 rfl (fun ls hl => ?_)
                refine lv_goto (tgt := 3) hx hb dX4_fill_95 (by decide) ?_
                exact ih3 z92 (zF G o (zu (G o) sx (-1))) (by first | assumption | omega) (by exact FRok_set hG (FW_rng hx81 (by omega))) (by intro k hk; rw [zF_n hk]; exact hGn k hk) (by rw [e92]; exact fill_go hGo hx81) (by omega) _ _ hP hD hS ls (lv_sub hl [0, 3, 4, 5, 6] rfl)
              · skip
                refine lv_iload hx hb dX4_fill_63 (lv_at hl 0 rfl) ?_
                refine ri_l hx hb dX4_fill_65 ⟨by omega, by omega⟩ ?_
                refine lv_lload_n hx hb dX4_fill_66 rfl (lv_at hl 5 rfl) ?_
                refine rj_cmp hx hb dX4_fill_67 ⟨by omega, by omega⟩ ⟨by omega, by omega⟩ (fun z67 e67 => ?_)
                refine ri_if_ge (tgt := 78) hx hb dX4_fill_68 (by decide) ⟨by omega, by omega⟩ (fun c68 => ?_) (fun c68 => ?_)
                · skip
                  have c68 : hv ≤ ((G o) z54) := by omega
                  clear e67
                  refine lv_iconst (v := Int32.ofInt (-1)) hx hb dX4_fill_78 rfl ?_
                  refine lv_istore (lv' := [(6, vI (-1)), (7, vI ((G o) z54)), (5, vI sx), (0, .ref hq), (1, vI o), (2, vJ hv), (4, vI ec)]) hx hb dX4_fill_79 hl (by decide) rfl (fun ls hl => ?_)
                  have hx81 : FW (RC cf w o.toNat) hv ec (-1) sx := by
                    rcases q20 with q9 | q9
                    · first | exact FW_0 (by omega) (by omega) q9.2 | (exfalso; omega)
                    · first | (exfalso; omega) | exact FW_none (fun x hx9 => RC_neg hW _ x (by omega) hx9) q9.2 (by omega) (by omega) | (rw [e74]; exact (FW_step q9.2 (by omega) (by omega) hp57).1 (by omega)) | exact (FW_step q9.2 (by omega) (by omega) hp57).2 (by omega)
                  refine lv_aload_n hx hb dX4_fill_81 rfl (lv_at hl 3 rfl) ?_
                  refine va_get (D := g) (ci := 4) (v := .ref hf) (C := RX4) (T := TX4) (N := 3) hx hb hts inF_X4 hown hK.1 hP 0 rfl rfl 0 (by decide) lk_f13 (fun _ h9 => h9) rfl dX4_fill_82 ?_
                  refine lv_iload_n hx hb dX4_fill_85 rfl (lv_at hl 4 rfl) ?_
                  refine ra_qld hx hb hK hP 1 rfl dX4_fill_86 ⟨by omega, by omega⟩ (by omega) (x := ra o.toNat) (hrw o.toNat (by omega)) ?_
                  refine lv_iload hx hb dX4_fill_87 (lv_at hl 2 rfl) ?_
                  refine lv_iload hx hb dX4_fill_89 (lv_at hl 0 rfl) ?_
                  refine ra_ist hx hb hK hP hD hS (2 + (o).toNat) (n := 299) (f := G o) (zf_get ⟨by omega, by omega⟩) dX4_fill_91 ⟨by omega, by omega⟩ (by omega) (fun H locs hP hD hS => ?_)
                  rw [zf_set ⟨by omega, by omega⟩] at hP hD
                  have hP : va_P g vwCl [(hq, oB 4 [.ref hf, .ref hk, vI wt]), (hf, aQ ca 5 rw), (ra 0, aI ca 299 ((zF G o (zu (G o) sx (-1))) 0)), (ra 1, aI ca 299 ((zF G o (zu (G o) sx (-1))) 1)), (ra 2, aI ca 299 ((zF G o (zu (G o) sx (-1))) 2)), (ra 3, aI ca 299 ((zF G o (zu (G o) sx (-1))) 3)), (ra 4, aI ca 299 ((zF G o (zu (G o) sx (-1))) 4))] H := hP
                  have hD : va_D A [(hq, oB 4 [.ref hf, .ref hk, vI wt]), (hf, aQ ca 5 rw), (ra 0, aI ca 299 ((zF G o (zu (G o) sx (-1))) 0)), (ra 1, aI ca 299 ((zF G o (zu (G o) sx (-1))) 1)), (ra 2, aI ca 299 ((zF G o (zu (G o) sx (-1))) 2)), (ra 3, aI ca 299 ((zF G o (zu (G o) sx (-1))) 3)), (ra 4, aI ca 299 ((zF G o (zu (G o) sx (-1))) 4))] := hD
                  obtain ⟨z92, e92⟩ : ∃ q : Int, q = sx + 1 := ⟨_, rfl⟩
                  refine ri_inc (lv' := [(5, vI z92), (6, vI (-1)), (7, vI ((G o) z54)), (0, .ref hq), (1, vI o), (2, vJ hv), (4, vI ec)]) hx hb dX4_fill_92 hl (k := 2) rfl (by decide) z92 e92 rfl (fun ls hl => ?_)
                  refine lv_goto (tgt := 3) hx hb dX4_fill_95 (by decide) ?_
                  exact ih3 z92 (zF G o (zu (G o) sx (-1))) (by first | assumption | omega) (by exact FRok_set hG (FW_rng hx81 (by omega))) (by intro k hk; rw [zF_n hk]; exact hGn k hk) (by rw [e92]; exact fill_go hGo hx81) (by omega) _ _ hP hD hS ls (lv_sub hl [0, 3, 4, 5, 6] rfl)
                · skip
                  have c68 : ((G o) z54) < hv := by omega
                  clear e67
                  refine lv_iload hx hb dX4_fill_71 (lv_at hl 0 rfl) ?_
                  refine lv_iconst (v := Int32.ofInt 1) hx hb dX4_fill_73 rfl ?_
                  refine ri_add hx hb dX4_fill_74 (fun z74 e74 => ?_)
                  refine lv_goto (tgt := 79) hx hb dX4_fill_75 (by decide) ?_
                  refine lv_istore (lv' := [(6, vI z74), (7, vI ((G o) z54)), (5, vI sx), (0, .ref hq), (1, vI o), (2, vJ hv), (4, vI ec)]) hx hb dX4_fill_79 hl (by decide) rfl (fun ls hl => ?_)
                  have hx81 : FW (RC cf w o.toNat) hv ec z74 sx := by
                    rcases q20 with q9 | q9
                    · first | exact FW_0 (by omega) (by omega) q9.2 | (exfalso; omega)
                    · first | (exfalso; omega) | exact FW_none (fun x hx9 => RC_neg hW _ x (by omega) hx9) q9.2 (by omega) (by omega) | (rw [e74]; exact (FW_step q9.2 (by omega) (by omega) hp57).1 (by omega)) | exact (FW_step q9.2 (by omega) (by omega) hp57).2 (by omega)
                  refine lv_aload_n hx hb dX4_fill_81 rfl (lv_at hl 3 rfl) ?_
                  refine va_get (D := g) (ci := 4) (v := .ref hf) (C := RX4) (T := TX4) (N := 3) hx hb hts inF_X4 hown hK.1 hP 0 rfl rfl 0 (by decide) lk_f13 (fun _ h9 => h9) rfl dX4_fill_82 ?_
                  refine lv_iload_n hx hb dX4_fill_85 rfl (lv_at hl 4 rfl) ?_
                  refine ra_qld hx hb hK hP 1 rfl dX4_fill_86 ⟨by omega, by omega⟩ (by omega) (x := ra o.toNat) (hrw o.toNat (by omega)) ?_
                  refine lv_iload hx hb dX4_fill_87 (lv_at hl 2 rfl) ?_
                  refine lv_iload hx hb dX4_fill_89 (lv_at hl 0 rfl) ?_
                  refine ra_ist hx hb hK hP hD hS (2 + (o).toNat) (n := 299) (f := G o) (zf_get ⟨by omega, by omega⟩) dX4_fill_91 ⟨by omega, by omega⟩ (by omega) (fun H locs hP hD hS => ?_)
                  rw [zf_set ⟨by omega, by omega⟩] at hP hD
                  have hP : va_P g vwCl [(hq, oB 4 [.ref hf, .ref hk, vI wt]), (hf, aQ ca 5 rw), (ra 0, aI ca 299 ((zF G o (zu (G o) sx z74)) 0)), (ra 1, aI ca 299 ((zF G o (zu (G o) sx z74)) 1)), (ra 2, aI ca 299 ((zF G o (zu (G o) sx z74)) 2)), (ra 3, aI ca 299 ((zF G o (zu (G o) sx z74)) 3)), (ra 4, aI ca 299 ((zF G o (zu (G o) sx z74)) 4))] H := hP
                  have hD : va_D A [(hq, oB 4 [.ref hf, .ref hk, vI wt]), (hf, aQ ca 5 rw), (ra 0, aI ca 299 ((zF G o (zu (G o) sx z74)) 0)), (ra 1, aI ca 299 ((zF G o (zu (G o) sx z74)) 1)), (ra 2, aI ca 299 ((zF G o (zu (G o) sx z74)) 2)), (ra 3, aI ca 299 ((zF G o (zu (G o) sx z74)) 3)), (ra 4, aI ca 299 ((zF G o (zu (G o) sx z74)) 4))] := hD
                  obtain ⟨z92, e92⟩ : ∃ q : Int, q = sx + 1 := ⟨_, rfl⟩
                  refine ri_inc (lv' := [(5, vI z92), (6, vI z74), (7, vI ((G o) z54)), (0, .ref hq), (1, vI o), (2, vJ hv), (4, vI ec)]) hx hb dX4_fill_92 hl (k := 2) rfl (by decide) z92 e92 rfl (fun ls hl => ?_)
                  refine lv_goto (tgt := 3) hx hb dX4_fill_95 (by decide) ?_
                  exact ih3 z92 (zF G o (zu (G o) sx z74)) (by first | assumption | omega) (by exact FRok_set hG (FW_rng hx81 (by omega))) (by intro k hk; rw [zF_n hk]; exact hGn k hk) (by rw [e92]; exact fill_go hGo hx81) (by omega) _ _ hP hD hS ls (lv_sub hl [0, 3, 4, 5, 6] rfl)
        · skip
          refine lv_iconst (v := Int32.ofInt 0) hx hb dX4_fill_26 rfl ?_
          refine lv_istore (lv' := [(6, vI 0), (5, vI sx), (0, .ref hq), (1, vI o), (2, vJ hv), (4, vI ec)]) hx hb dX4_fill_27 hl (by decide) rfl (fun ls hl => ?_)
          refine lv_goto (tgt := 81) hx hb dX4_fill_29 (by decide) ?_
          have hx81 : FW (RC cf w o.toNat) hv ec 0 sx := by
            rcases q20 with q9 | q9
            · first | exact FW_0 (by omega) (by omega) q9.2 | (exfalso; omega)
            · first | (exfalso; omega) | exact FW_none (fun x hx9 => RC_neg hW _ x (by omega) hx9) q9.2 (by omega) (by omega) | (rw [e74]; exact (FW_step q9.2 (by omega) (by omega) hp57).1 (by omega)) | exact (FW_step q9.2 (by omega) (by omega) hp57).2 (by omega)
          refine lv_aload_n hx hb dX4_fill_81 rfl (lv_at hl 2 rfl) ?_
          refine va_get (D := g) (ci := 4) (v := .ref hf) (C := RX4) (T := TX4) (N := 3) hx hb hts inF_X4 hown hK.1 hP 0 rfl rfl 0 (by decide) lk_f13 (fun _ h9 => h9) rfl dX4_fill_82 ?_
          refine lv_iload_n hx hb dX4_fill_85 rfl (lv_at hl 3 rfl) ?_
          refine ra_qld hx hb hK hP 1 rfl dX4_fill_86 ⟨by omega, by omega⟩ (by omega) (x := ra o.toNat) (hrw o.toNat (by omega)) ?_
          refine lv_iload hx hb dX4_fill_87 (lv_at hl 1 rfl) ?_
          refine lv_iload hx hb dX4_fill_89 (lv_at hl 0 rfl) ?_
          refine ra_ist hx hb hK hP hD hS (2 + (o).toNat) (n := 299) (f := G o) (zf_get ⟨by omega, by omega⟩) dX4_fill_91 ⟨by omega, by omega⟩ (by omega) (fun H locs hP hD hS => ?_)
          rw [zf_set ⟨by omega, by omega⟩] at hP hD
          have hP : va_P g vwCl [(hq, oB 4 [.ref hf, .ref hk, vI wt]), (hf, aQ ca 5 rw), (ra 0, aI ca 299 ((zF G o (zu (G o) sx 0)) 0)), (ra 1, aI ca 299 ((zF G o (zu (G o) sx 0)) 1)), (ra 2, aI ca 299 ((zF G o (zu (G o) sx 0)) 2)), (ra 3, aI ca 299 ((zF G o (zu (G o) sx 0)) 3)), (ra 4, aI ca 299 ((zF G o (zu (G o) sx 0)) 4))] H := hP
          have hD : va_D A [(hq, oB 4 [.ref hf, .ref hk, vI wt]), (hf, aQ ca 5 rw), (ra 0, aI ca 299 ((zF G o (zu (G o) sx 0)) 0)), (ra 1, aI ca 299 ((zF G o (zu (G o) sx 0)) 1)), (ra 2, aI ca 299 ((zF G o (zu (G o) sx 0)) 2)), (ra 3, aI ca 299 ((zF G o (zu (G o) sx 0)) 3)), (ra 4, aI ca 299 ((zF G o (zu (G o) sx 0)) 4))] := hD
          obtain ⟨z92, e92⟩ : ∃ q : Int, q = sx + 1 := ⟨_, rfl⟩
          refine ri_inc (lv' := [(5, vI z92), (6, vI 0), (0, .ref hq), (1, vI o), (2, vJ hv), (4, vI ec)]) hx hb dX4_fill_92 hl (k := 1) rfl (by decide) z92 e92 rfl (fun ls hl => ?_)
          refine lv_goto (tgt := 3) hx hb dX4_fill_95 (by decide) ?_
          exact ih3 z92 (zF G o (zu (G o) sx 0)) (by first | assumption | omega) (by exact FRok_set hG (FW_rng hx81 (by omega))) (by intro k hk; rw [zF_n hk]; exact hGn k hk) (by rw [e92]; exact fill_go hGo hx81) (by omega) _ _ hP hD hS ls (lv_sub hl [0, 2, 3, 4, 5] rfl)
  exact L3 _ 0 F (by first | assumption | omega) (by exact hF) (by intro k _; rfl) (by intro s h1 h2; omega) (Nat.lt_succ_self _) _ _ hP hD hS ls (lv_sub hl [0, 1, 2, 3, 4] rfl)
set_option maxHeartbeats 4000000 in
set_option maxRecDepth 100000 in
theorem k_X4_choose (l : Launch) (g : va_G) (ca : Nat → ClassId) (hq : Nat) (hf : Nat) (hk : Nat) (rw : Nat → Option Nat) (ra : Nat → Nat) (F : Int → Int → Int) (T : Int → Int) (wt : Int) (h0 : Nat) (h1 : Nat) (b : Int → Int) (n : Int) (lm : Int) (hL : Nat) (hw : Nat) (he : Nat) (hdn : Nat) (hdw : Nat) (w : Int → Int) (du : Int) (hv : Int) (mo : Int) (oft : Int) (la : Int) (pA : Int) (pB : Int) (hrw : ∀ k : Nat, k < 5 → rw k = some (ra k)) (hF : FRok F) (hB : GB b n) (hW : GW w) (hrows : ∀ k s : Int, 0 ≤ k → k ≤ 4 → 0 ≤ s → s ≤ 298 → (cwp F k s ↔ RC (cnt b n) w (k + 1).toNat s)) (hwt : 0 ≤ wt ∧ wt ≤ 298) (hrc : RC (cnt b n) w 5 wt) : zV (S := (Int → Int)) l yX4_choose wsX4_choose ({ frames := 1, cells := 0, slots := 0, locals := 24 } : Room) g ca [.ref hq, .ref h0, .ref hL] [(hq, oB 4 [.ref hf, .ref hk, vI wt]), (hf, aQ ca 5 rw), (ra 0, aI ca 299 (F 0)), (ra 1, aI ca 299 (F 1)), (ra 2, aI ca 299 (F 2)), (ra 3, aI ca 299 (F 3)), (ra 4, aI ca 299 (F 4)), (hk, aI ca 5 T), (h0, oB 6 [.ref h1, vI n, vJ lm]), (h1, aJ ca 605 b), (hL, oB 2 [.ref hw, .ref he, .ref hdn, .ref hdw, vI du, vI hv, vI mo, vI oft, vI la, vI pA, vI pB]), (hw, aI ca 5 w)] (fun (u : (Int → Int)) => CHO (cnt b n) w u 5 wt) (fun (u : (Int → Int)) => [(hq, oB 4 [.ref hf, .ref hk, vI wt]), (hf, aQ ca 5 rw), (ra 0, aI ca 299 (F 0)), (ra 1, aI ca 299 (F 1)), (ra 2, aI ca 299 (F 2)), (ra 3, aI ca 299 (F 3)), (ra 4, aI ca 299 (F 4)), (hk, aI ca 5 u), (h0, oB 6 [.ref h1, vI n, vJ lm]), (h1, aJ ca 605 b), (hL, oB 2 [.ref hw, .ref he, .ref hdn, .ref hdw, vI du, vI hv, vI mo, vI oft, vI la, vI pA, vI pB]), (hw, aI ca 5 w)]) 0 0 := by
  refine zm_V (cc := cX4_choose) (maxL := 8) (ret := none) (by decide) rfl (Nat.le_of_ble_eq_true rfl) ?_
  intro p e s m below meth c A ls R args Q hR hargs hQ hx hb hml hr hts hown hlk hnm hK hP hD hA hS hl
  have hown : s.vm.findClass RX4 = some m.cls := hown
  have hl : lv_has ls 8 [(0, .ref hq), (1, .ref h0), (2, .ref hL)] := hl
  have lk_f39 : (Cond.fieldLink RX4 39 "DripRings$Payment" "weight" "I").before args s = true := hts _ (by decide +kernel)
  have inF_X4 : ∀ w ∈ wsX40, w ∈ wsX4_choose := by decide +kernel
  have lk_f26 : (Cond.fieldLink RX4 26 "DripRings$Law" "weights" "[I").before args s = true := hts _ (by decide +kernel)
  have inF_X2 : ∀ w ∈ wsX20, w ∈ wsX4_choose := by decide +kernel
  have lk_f16 : (Cond.fieldLink RX4 16 "DripRings$Payment" "taken" "[I").before args s = true := hts _ (by decide +kernel)
  have lk_jmin47 : (Cond.methodLink RX4 47 Lib.MathLoose.min_long.x).before args s = true := hts _ (by decide +kernel)
  have lk_jmins : (Cond.static Lib.MathLoose.min_long.x).before args s = true := hts _ (by decide +kernel)
  have lk_mathz : (Cond.initialized "java/lang/Math").before args s = true := hts _ (by decide +kernel)
  have lk_jminc : (Cond.code Lib.MathLoose.min_long.x Lib.MathLoose.min_long.code 4 (some .long)).before args s = true := hts _ (by decide +kernel)
  have hn := hB.1
  refine lv_aload_n hx hb dX4_choose_0 rfl (lv_at hl 0 rfl) ?_
  refine va_get (D := g) (ci := 4) (v := vI wt) (C := RX4) (T := TX4) (N := 3) hx hb hts inF_X4 hown hK.1 hP 0 rfl rfl 2 (by decide) lk_f39 (fun _ h9 => h9) rfl dX4_choose_1 ?_
  refine lv_istore_n (lv' := [(3, vI wt), (0, .ref hq), (1, .ref h0), (2, .ref hL)]) hx hb dX4_choose_4 rfl hl (by decide) rfl (fun ls hl => ?_)
  refine lv_iconst (v := Int32.ofInt 4) hx hb dX4_choose_5 rfl ?_
  refine lv_istore (lv' := [(4, vI 4), (3, vI wt), (0, .ref hq), (1, .ref h0), (2, .ref hL)]) hx hb dX4_choose_6 hl (by decide) rfl (fun ls hl => ?_)
  have L8 : ∀ (N8 : Nat) (o : Int) (r : Int) (T2 : Int → Int) (hi : -1 ≤ o ∧ o ≤ 4 ∧ 0 ≤ r ∧ r ≤ 298) (hrr : RC (cnt b n) w (o + 1).toNat r) (hch : ∀ T' : Int → Int, (∀ k : Int, o < k → k ≤ 4 → T' k = T2 k) → CHO (cnt b n) w T' (o + 1).toNat r → CHO (cnt b n) w T' 5 wt) (hμ : (o + 1).toNat < N8) (H : Heap) (locs : List Loc) (hP : va_P g vwCl [(hq, oB 4 [.ref hf, .ref hk, vI wt]), (hf, aQ ca 5 rw), (ra 0, aI ca 299 (F 0)), (ra 1, aI ca 299 (F 1)), (ra 2, aI ca 299 (F 2)), (ra 3, aI ca 299 (F 3)), (ra 4, aI ca 299 (F 4)), (hk, aI ca 5 T2), (h0, oB 6 [.ref h1, vI n, vJ lm]), (h1, aJ ca 605 b), (hL, oB 2 [.ref hw, .ref he, .ref hdn, .ref hdw, vI du, vI hv, vI mo, vI oft, vI la, vI pA, vI pB]), (hw, aI ca 5 w)] H) (hD : va_D A [(hq, oB 4 [.ref hf, .ref hk, vI wt]), (hf, aQ ca 5 rw), (ra 0, aI ca 299 (F 0)), (ra 1, aI ca 299 (F 1)), (ra 2, aI ca 299 (F 2)), (ra 3, aI ca 299 (F 3)), (ra 4, aI ca 299 (F 4)), (hk, aI ca 5 T2), (h0, oB 6 [.ref h1, vI n, vJ lm]), (h1, aJ ca 605 b), (hL, oB 2 [.ref hw, .ref he, .ref hdn, .ref hdw, vI du, vI hv, vI mo, vI oft, vI la, vI pA, vI pB]), (hw, aI ca 5 w)]) (hS : va_S A s.heap H locs) (ls : Array Slot) (hl : lv_has ls 8 [(4, vI o), (3, vI r), (0, .ref hq), (1, .ref h0), (2, .ref hL)]), W p l e R s m args below meth c H locs 0 0 Q (F0 m 8 ls []) := by
    intro N8; induction N8 with
    | zero => intro o r T2 hi hrr hch hμ; exact absurd hμ (Nat.not_lt_zero _)
    | succ N8 ih8 =>
      intro o r T2 hi hrr hch hμ H locs hP hD hS ls hl
      refine lv_iload hx hb dX4_choose_8 (lv_at hl 0 rfl) ?_
      refine ri_if_lt (tgt := 120) hx hb dX4_choose_10 (by decide) ⟨by omega, by omega⟩ (fun c10 => ?_) (fun c10 => ?_)
      · skip
        refine zr_V hx hb hr hlk hQ (T2) hP hD hS dX4_choose_120 (Nat.le_of_ble_eq_true rfl) (Nat.le_of_ble_eq_true rfl) ?_
        show CHO (cnt b n) w T2 5 wt
        exact hch T2 (fun _ _ _ => rfl) (by rw [show o = -1 by omega]; trivial)
      · skip
        refine lv_aload_n hx hb dX4_choose_13 rfl (lv_at hl 4 rfl) ?_
        refine va_get (D := g) (ci := 2) (v := .ref hw) (C := RX2) (T := TX2) (N := 11) hx hb hts inF_X2 hown hK.1 hP 10 rfl rfl 0 (by decide) lk_f26 (fun _ h9 => h9) rfl dX4_choose_14 ?_
        refine lv_iload hx hb dX4_choose_17 (lv_at hl 0 rfl) ?_
        refine ra_ild hx hb hK hP 11 rfl dX4_choose_19 ⟨by omega, by omega⟩ (by omega) ?_
        refine lv_istore (lv' := [(5, vI (w o)), (4, vI o), (3, vI r), (0, .ref hq), (1, .ref h0), (2, .ref hL)]) hx hb dX4_choose_20 hl (by decide) rfl (fun ls hl => ?_)
        have J46 : ∀ (mst : Int) (hm0 : 0 ≤ mst ∧ mst ≤ 298) (hm : (w o = 0 ∧ mst = 0) ∨ (0 < w o ∧ mst ≤ cnt b n o ∧ mst * w o ≤ r ∧ ∀ x : Int, mst < x → x ≤ cnt b n o → r - x * w o < 0)) (H : Heap) (locs : List Loc) (hP : va_P g vwCl [(hq, oB 4 [.ref hf, .ref hk, vI wt]), (hf, aQ ca 5 rw), (ra 0, aI ca 299 (F 0)), (ra 1, aI ca 299 (F 1)), (ra 2, aI ca 299 (F 2)), (ra 3, aI ca 299 (F 3)), (ra 4, aI ca 299 (F 4)), (hk, aI ca 5 T2), (h0, oB 6 [.ref h1, vI n, vJ lm]), (h1, aJ ca 605 b), (hL, oB 2 [.ref hw, .ref he, .ref hdn, .ref hdw, vI du, vI hv, vI mo, vI oft, vI la, vI pA, vI pB]), (hw, aI ca 5 w)] H) (hD : va_D A [(hq, oB 4 [.ref hf, .ref hk, vI wt]), (hf, aQ ca 5 rw), (ra 0, aI ca 299 (F 0)), (ra 1, aI ca 299 (F 1)), (ra 2, aI ca 299 (F 2)), (ra 3, aI ca 299 (F 3)), (ra 4, aI ca 299 (F 4)), (hk, aI ca 5 T2), (h0, oB 6 [.ref h1, vI n, vJ lm]), (h1, aJ ca 605 b), (hL, oB 2 [.ref hw, .ref he, .ref hdn, .ref hdw, vI du, vI hv, vI mo, vI oft, vI la, vI pA, vI pB]), (hw, aI ca 5 w)]) (hS : va_S A s.heap H locs) (ls : Array Slot) (hl : lv_has ls 8 [(5, vI (w o)), (4, vI o), (3, vI r), (0, .ref hq), (1, .ref h0), (2, .ref hL)]), W p l e R s m args below meth c H locs 0 0 Q (F0 m 46 ls [vI mst]) := by
          intro mst hm0 hm H locs hP hD hS ls hl
          refine lv_istore (lv' := [(6, vI mst), (5, vI (w o)), (4, vI o), (3, vI r), (0, .ref hq), (1, .ref h0), (2, .ref hL)]) hx hb dX4_choose_46 hl (by decide) rfl (fun ls hl => ?_)
          refine lv_aload_n hx hb dX4_choose_48 rfl (lv_at hl 4 rfl) ?_
          refine va_get (D := g) (ci := 4) (v := .ref hk) (C := RX4) (T := TX4) (N := 3) hx hb hts inF_X4 hown hK.1 hP 0 rfl rfl 1 (by decide) lk_f16 (fun _ h9 => h9) rfl dX4_choose_49 ?_
          refine lv_iload hx hb dX4_choose_52 (lv_at hl 2 rfl) ?_
          refine lv_iconst (v := Int32.ofInt 0) hx hb dX4_choose_54 rfl ?_
          refine ra_ist hx hb hK hP hD hS 7 rfl dX4_choose_55 ⟨by omega, by omega⟩ (by omega) (fun H locs hP hD hS => ?_)
          have hP : va_P g vwCl [(hq, oB 4 [.ref hf, .ref hk, vI wt]), (hf, aQ ca 5 rw), (ra 0, aI ca 299 (F 0)), (ra 1, aI ca 299 (F 1)), (ra 2, aI ca 299 (F 2)), (ra 3, aI ca 299 (F 3)), (ra 4, aI ca 299 (F 4)), (hk, aI ca 5 (zu T2 o 0)), (h0, oB 6 [.ref h1, vI n, vJ lm]), (h1, aJ ca 605 b), (hL, oB 2 [.ref hw, .ref he, .ref hdn, .ref hdw, vI du, vI hv, vI mo, vI oft, vI la, vI pA, vI pB]), (hw, aI ca 5 w)] H := hP
          have hD : va_D A [(hq, oB 4 [.ref hf, .ref hk, vI wt]), (hf, aQ ca 5 rw), (ra 0, aI ca 299 (F 0)), (ra 1, aI ca 299 (F 1)), (ra 2, aI ca 299 (F 2)), (ra 3, aI ca 299 (F 3)), (ra 4, aI ca 299 (F 4)), (hk, aI ca 5 (zu T2 o 0)), (h0, oB 6 [.ref h1, vI n, vJ lm]), (h1, aJ ca 605 b), (hL, oB 2 [.ref hw, .ref he, .ref hdn, .ref hdw, vI du, vI hv, vI mo, vI oft, vI la, vI pA, vI pB]), (hw, aI ca 5 w)] := hD
          refine lv_iload hx hb dX4_choose_56 (lv_at hl 0 rfl) ?_
          refine lv_istore (lv' := [(7, vI mst), (6, vI mst), (5, vI (w o)), (4, vI o), (3, vI r), (0, .ref hq), (1, .ref h0), (2, .ref hL)]) hx hb dX4_choose_58 hl (by decide) rfl (fun ls hl => ?_)
          have L60 : ∀ (N60 : Nat) (nn : Int) (hnn : 0 ≤ nn ∧ nn ≤ mst) (hno : ∀ x : Int, nn < x → x ≤ mst → ¬ RC (cnt b n) w o.toNat (r - x * w o)) (hμ : nn.toNat < N60) (H : Heap) (locs : List Loc) (hP : va_P g vwCl [(hq, oB 4 [.ref hf, .ref hk, vI wt]), (hf, aQ ca 5 rw), (ra 0, aI ca 299 (F 0)), (ra 1, aI ca 299 (F 1)), (ra 2, aI ca 299 (F 2)), (ra 3, aI ca 299 (F 3)), (ra 4, aI ca 299 (F 4)), (hk, aI ca 5 (zu T2 o 0)), (h0, oB 6 [.ref h1, vI n, vJ lm]), (h1, aJ ca 605 b), (hL, oB 2 [.ref hw, .ref he, .ref hdn, .ref hdw, vI du, vI hv, vI mo, vI oft, vI la, vI pA, vI pB]), (hw, aI ca 5 w)] H) (hD : va_D A [(hq, oB 4 [.ref hf, .ref hk, vI wt]), (hf, aQ ca 5 rw), (ra 0, aI ca 299 (F 0)), (ra 1, aI ca 299 (F 1)), (ra 2, aI ca 299 (F 2)), (ra 3, aI ca 299 (F 3)), (ra 4, aI ca 299 (F 4)), (hk, aI ca 5 (zu T2 o 0)), (h0, oB 6 [.ref h1, vI n, vJ lm]), (h1, aJ ca 605 b), (hL, oB 2 [.ref hw, .ref he, .ref hdn, .ref hdw, vI du, vI hv, vI mo, vI oft, vI la, vI pA, vI pB]), (hw, aI ca 5 w)]) (hS : va_S A s.heap H locs) (ls : Array Slot) (hl : lv_has ls 8 [(7, vI nn), (6, vI mst), (5, vI (w o)), (4, vI o), (3, vI r), (0, .ref hq), (1, .ref h0), (2, .ref hL)]), W p l e R s m args below meth c H locs 0 0 Q (F0 m 60 ls []) := by
            intro N60; induction N60 with
            | zero => intro nn hnn hno hμ; exact absurd hμ (Nat.not_lt_zero _)
            | succ N60 ih60 =>
              intro nn hnn hno hμ H locs hP hD hS ls hl
              have J101 : ∀ (T3 : Int → Int) (hT3 : ∀ k : Int, k ≠ o → T3 k = T2 k) (hg3 : GRT (cnt b n o) (w o) (RC (cnt b n) w o.toNat) r (T3 o)) (H : Heap) (locs : List Loc) (hP : va_P g vwCl [(hq, oB 4 [.ref hf, .ref hk, vI wt]), (hf, aQ ca 5 rw), (ra 0, aI ca 299 (F 0)), (ra 1, aI ca 299 (F 1)), (ra 2, aI ca 299 (F 2)), (ra 3, aI ca 299 (F 3)), (ra 4, aI ca 299 (F 4)), (hk, aI ca 5 T3), (h0, oB 6 [.ref h1, vI n, vJ lm]), (h1, aJ ca 605 b), (hL, oB 2 [.ref hw, .ref he, .ref hdn, .ref hdw, vI du, vI hv, vI mo, vI oft, vI la, vI pA, vI pB]), (hw, aI ca 5 w)] H) (hD : va_D A [(hq, oB 4 [.ref hf, .ref hk, vI wt]), (hf, aQ ca 5 rw), (ra 0, aI ca 299 (F 0)), (ra 1, aI ca 299 (F 1)), (ra 2, aI ca 299 (F 2)), (ra 3, aI ca 299 (F 3)), (ra 4, aI ca 299 (F 4)), (hk, aI ca 5 T3), (h0, oB 6 [.ref h1, vI n, vJ lm]), (h1, aJ ca 605 b), (hL, oB 2 [.ref hw, .ref he, .ref hdn, .ref hdw, vI du, vI hv, vI mo, vI oft, vI la, vI pA, vI pB]), (hw, aI ca 5 w)]) (hS : va_S A s.heap H locs) (ls : Array Slot) (hl : lv_has ls 8 [(6, vI mst), (5, vI (w o)), (4, vI o), (3, vI r), (0, .ref hq), (1, .ref h0), (2, .ref hL)]), W p l e R s m args below meth c H locs 0 0 Q (F0 m 101 ls []) := by
                intro T3 hT3 hg3 H locs hP hD hS ls hl
                refine lv_iload_n hx hb dX4_choose_101 rfl (lv_at hl 3 rfl) ?_
                refine lv_aload_n hx hb dX4_choose_102 rfl (lv_at hl 4 rfl) ?_
                refine va_get (D := g) (ci := 4) (v := .ref hk) (C := RX4) (T := TX4) (N := 3) hx hb hts inF_X4 hown hK.1 hP 0 rfl rfl 1 (by decide) lk_f16 (fun _ h9 => h9) rfl dX4_choose_103 ?_
                refine lv_iload hx hb dX4_choose_106 (lv_at hl 2 rfl) ?_
                refine ra_ild hx hb hK hP 7 rfl dX4_choose_108 ⟨by omega, by omega⟩ (by omega) ?_
                refine lv_iload hx hb dX4_choose_109 (lv_at hl 1 rfl) ?_
                refine ri_mul hx hb dX4_choose_111 (fun z111 e111 => ?_)
                have hr112 := grt_rng (by omega) hg3 (fun x hx9 => RC_neg hW _ x (by omega) hx9) (by omega)
                refine ri_sub hx hb dX4_choose_112 (fun z112 e112 => ?_)
                refine lv_istore_n (lv' := [(3, vI z112), (6, vI mst), (5, vI (w o)), (4, vI o), (0, .ref hq), (1, .ref h0), (2, .ref hL)]) hx hb dX4_choose_113 rfl hl (by decide) rfl (fun ls hl => ?_)
                obtain ⟨z114, e114⟩ : ∃ q : Int, q = o + (-1) := ⟨_, rfl⟩
                refine ri_inc (lv' := [(4, vI z114), (3, vI z112), (6, vI mst), (5, vI (w o)), (0, .ref hq), (1, .ref h0), (2, .ref hL)]) hx hb dX4_choose_114 hl (k := 3) rfl (by decide) z114 e114 rfl (fun ls hl => ?_)
                refine lv_goto (tgt := 8) hx hb dX4_choose_117 (by decide) ?_
                exact ih8 z114 z112 T3 (by omega) (by
                      rw [e114, show o + -1 + 1 = o by omega, e112, e111]
                      by_cases hw9 : w o = 0
                      · rw [hw9, Int.mul_zero, Int.sub_zero]
                        obtain ⟨k9, hk9⟩ : ∃ k9 : Nat, o = k9 := ⟨o.toNat, by omega⟩
                        subst hk9
                        rw [show ((k9 : Int) + 1).toNat = k9 + 1 by omega] at hrr
                        obtain ⟨m9, a1, a2, a3⟩ := hrr
                        rw [hw9, Int.mul_zero, Int.sub_zero] at a3
                        rw [show ((k9 : Int)).toNat = k9 by omega]
                        exact a3
                      · exact (hg3.2 (by omega)).2.2.1) (by
                      intro T' q1 q2
                      rw [e114, show o + -1 + 1 = o by omega, e112, e111] at q2
                      exact cho_step (by omega) hT3 hg3 hch (fun k k1 k2 => q1 k (by omega) k2) (by omega) q2) (by omega) _ _ hP hD hS ls (lv_sub hl [0, 1, 4, 5, 6] rfl)
              refine lv_iload hx hb dX4_choose_60 (lv_at hl 0 rfl) ?_
              refine ri_if_le (tgt := 101) hx hb dX4_choose_62 (by decide) ⟨by omega, by omega⟩ (fun c62 => ?_) (fun c62 => ?_)
              · skip
                exact J101 (zu T2 o 0) (by intro k hk; first | rw [zu_n hk, zu_n hk] | rw [zu_n hk]) (by
                      rw [zu_s]
                      first | exact grt_a (by omega) hm hnn hR81 (fun x hx9 => RC_neg hW _ x (by omega) hx9) hno | exact grt_b (by omega) hm (RC_ex (by omega) hrr) hm0.1 (fun x hx9 => RC_neg hW _ x (by omega) hx9) (fun x h1 h2 => hno x (by omega) h2)) _ _ hP hD hS ls (lv_sub hl [1, 2, 3, 4, 5, 6, 7] rfl)
              · skip
                refine lv_aload_n hx hb dX4_choose_65 rfl (lv_at hl 5 rfl) ?_
                refine lv_iload hx hb dX4_choose_66 (lv_at hl 3 rfl) ?_
                refine lv_iconst (v := Int32.ofInt 1) hx hb dX4_choose_68 rfl ?_
                refine ri_sub hx hb dX4_choose_69 (fun z69 e69 => ?_)
                refine lv_iload_n hx hb dX4_choose_70 rfl (lv_at hl 4 rfl) ?_
                refine lv_iload hx hb dX4_choose_71 (lv_at hl 0 rfl) ?_
                refine lv_iload hx hb dX4_choose_73 (lv_at hl 2 rfl) ?_
                have hm75 : nn * w o ≤ mst * w o ∧ 0 ≤ nn * w o := ⟨Int.mul_le_mul_of_nonneg_right (by omega) (by omega), Int.mul_nonneg (by omega) (by omega)⟩
                have hm76 : mst * w o ≤ r := by
                  rcases hm with hm | hm
                  · rw [hm.1, Int.mul_zero]; omega
                  · exact hm.2.2.1
                refine ri_mul hx hb dX4_choose_75 (fun z75 e75 => ?_)
                refine ri_sub hx hb dX4_choose_76 (fun z76 e76 => ?_)
                refine zc_VI (As := [vI z69, vI z76]) (rest := []) (wc := [(hq, oB 4 [.ref hf, .ref hk, vI wt]), (hf, aQ ca 5 rw), (ra 0, aI ca 299 (F 0)), (ra 1, aI ca 299 (F 1)), (ra 2, aI ca 299 (F 2)), (ra 3, aI ca 299 (F 3)), (ra 4, aI ca 299 (F 4))]) (wr := [(hk, aI ca 5 (zu T2 o 0)), (h0, oB 6 [.ref h1, vI n, vJ lm]), (h1, aJ ca 605 b), (hL, oB 2 [.ref hw, .ref he, .ref hdn, .ref hdw, vI du, vI hv, vI mo, vI oft, vI la, vI pA, vI pB]), (hw, aI ca 5 w)]) (k_X4_canWeigh l g ca hq hf hk rw ra F wt z69 z76 (by first | assumption | omega) (by first | assumption | omega) (by first | assumption | omega) (by first | assumption | omega)) dX4_choose_77 (cwV 2 hts gX4_choose_X4_canWeigh rfl rfl rfl (by decide +kernel) (by rw [hR]; exact ⟨Nat.le_of_ble_eq_true rfl, Nat.le_of_ble_eq_true rfl⟩)) ⟨hx, hb, hml, hown, hts⟩ hl.1 hK hP hD hS hA 0 rfl rfl rfl [0, 1, 2, 3, 4, 5, 6] [7, 8, 9, 10, 11] rfl (by decide) rfl (by decide) (by decide) rfl rfl (Nat.le_of_ble_eq_true rfl) (by rw [hR]; exact ⟨Nat.le_of_ble_eq_true rfl, Nat.le_of_ble_eq_true rfl⟩) (fun z77 u H locs q77 hP hD hS => ?_)
                have q77 : (z77 = 1 ∧ cwp F z69 z76) ∨ (z77 = 0 ∧ ¬ cwp F z69 z76) := q77
                have hP : va_P g vwCl [(hq, oB 4 [.ref hf, .ref hk, vI wt]), (hf, aQ ca 5 rw), (ra 0, aI ca 299 (F 0)), (ra 1, aI ca 299 (F 1)), (ra 2, aI ca 299 (F 2)), (ra 3, aI ca 299 (F 3)), (ra 4, aI ca 299 (F 4)), (hk, aI ca 5 (zu T2 o 0)), (h0, oB 6 [.ref h1, vI n, vJ lm]), (h1, aJ ca 605 b), (hL, oB 2 [.ref hw, .ref he, .ref hdn, .ref hdw, vI du, vI hv, vI mo, vI oft, vI la, vI pA, vI pB]), (hw, aI ca 5 w)] H := hP.sub [5, 6, 7, 8, 9, 10, 11, 0, 1, 2, 3, 4] rfl
                have hD : va_D A [(hq, oB 4 [.ref hf, .ref hk, vI wt]), (hf, aQ ca 5 rw), (ra 0, aI ca 299 (F 0)), (ra 1, aI ca 299 (F 1)), (ra 2, aI ca 299 (F 2)), (ra 3, aI ca 299 (F 3)), (ra 4, aI ca 299 (F 4)), (hk, aI ca 5 (zu T2 o 0)), (h0, oB 6 [.ref h1, vI n, vJ lm]), (h1, aJ ca 605 b), (hL, oB 2 [.ref hw, .ref he, .ref hdn, .ref hdw, vI du, vI hv, vI mo, vI oft, vI la, vI pA, vI pB]), (hw, aI ca 5 w)] := hD.sub [5, 6, 7, 8, 9, 10, 11, 0, 1, 2, 3, 4] (by decide) rfl
                have h77 : cwp F (o - 1) (r - nn * w o) ↔ RC (cnt b n) w o.toNat (r - nn * w o) := by
                  by_cases h0 : o = 0
                  · rw [h0]; rfl
                  · have := hrows (o - 1) (r - nn * w o) (by omega) (by omega) (by omega) (by omega)
                    rw [show o - 1 + 1 = o by omega] at this
                    exact this
                refine ri_if_eq (tgt := 95) hx hb dX4_choose_80 (by decide) ⟨by omega, by omega⟩ (fun c80 => ?_) (fun c80 => ?_)
                · skip
                  obtain ⟨z95, e95⟩ : ∃ q : Int, q = nn + (-1) := ⟨_, rfl⟩
                  refine ri_inc (lv' := [(7, vI z95), (6, vI mst), (5, vI (w o)), (4, vI o), (3, vI r), (0, .ref hq), (1, .ref h0), (2, .ref hL)]) hx hb dX4_choose_95 hl (k := 0) rfl (by decide) z95 e95 rfl (fun ls hl => ?_)
                  refine lv_goto (tgt := 60) hx hb dX4_choose_98 (by decide) ?_
                  exact ih60 z95 (by first | assumption | omega) (by
                        intro x h1 h2
                        by_cases q : x = nn
                        · rw [q]
                          intro q9
                          rw [e76, e75, e69, h77] at q77
                          rcases q77 with q8 | q8
                          · omega
                          · exact q8.2 q9
                        · exact hno x (by omega) h2) (by omega) _ _ hP hD hS ls (lv_sub hl [0, 1, 2, 3, 4, 5, 6, 7] rfl)
                · skip
                  have hR81 : RC (cnt b n) w o.toNat (r - nn * w o) := by
                    rw [e76, e75, e69, h77] at q77
                    rcases q77 with q8 | q8
                    · exact q8.2
                    · omega
                  refine lv_aload_n hx hb dX4_choose_83 rfl (lv_at hl 5 rfl) ?_
                  refine va_get (D := g) (ci := 4) (v := .ref hk) (C := RX4) (T := TX4) (N := 3) hx hb hts inF_X4 hown hK.1 hP 0 rfl rfl 1 (by decide) lk_f16 (fun _ h9 => h9) rfl dX4_choose_84 ?_
                  refine lv_iload hx hb dX4_choose_87 (lv_at hl 3 rfl) ?_
                  refine lv_iload hx hb dX4_choose_89 (lv_at hl 0 rfl) ?_
                  refine ra_ist hx hb hK hP hD hS 7 rfl dX4_choose_91 ⟨by omega, by omega⟩ (by omega) (fun H locs hP hD hS => ?_)
                  have hP : va_P g vwCl [(hq, oB 4 [.ref hf, .ref hk, vI wt]), (hf, aQ ca 5 rw), (ra 0, aI ca 299 (F 0)), (ra 1, aI ca 299 (F 1)), (ra 2, aI ca 299 (F 2)), (ra 3, aI ca 299 (F 3)), (ra 4, aI ca 299 (F 4)), (hk, aI ca 5 (zu (zu T2 o 0) o nn)), (h0, oB 6 [.ref h1, vI n, vJ lm]), (h1, aJ ca 605 b), (hL, oB 2 [.ref hw, .ref he, .ref hdn, .ref hdw, vI du, vI hv, vI mo, vI oft, vI la, vI pA, vI pB]), (hw, aI ca 5 w)] H := hP
                  have hD : va_D A [(hq, oB 4 [.ref hf, .ref hk, vI wt]), (hf, aQ ca 5 rw), (ra 0, aI ca 299 (F 0)), (ra 1, aI ca 299 (F 1)), (ra 2, aI ca 299 (F 2)), (ra 3, aI ca 299 (F 3)), (ra 4, aI ca 299 (F 4)), (hk, aI ca 5 (zu (zu T2 o 0) o nn)), (h0, oB 6 [.ref h1, vI n, vJ lm]), (h1, aJ ca 605 b), (hL, oB 2 [.ref hw, .ref he, .ref hdn, .ref hdw, vI du, vI hv, vI mo, vI oft, vI la, vI pA, vI pB]), (hw, aI ca 5 w)] := hD
                  refine lv_goto (tgt := 101) hx hb dX4_choose_92 (by decide) ?_
                  exact J101 (zu (zu T2 o 0) o nn) (by intro k hk; first | rw [zu_n hk, zu_n hk] | rw [zu_n hk]) (by
                        rw [zu_s]
                        first | exact grt_a (by omega) hm hnn hR81 (fun x hx9 => RC_neg hW _ x (by omega) hx9) hno | exact grt_b (by omega) hm (RC_ex (by omega) hrr) hm0.1 (fun x hx9 => RC_neg hW _ x (by omega) hx9) (fun x h1 h2 => hno x (by omega) h2)) _ _ hP hD hS ls (lv_sub hl [1, 2, 3, 4, 5, 6, 7] rfl)
          exact L60 _ mst (by first | assumption | omega) (by intro x h1 h2; omega) (Nat.lt_succ_self _) _ _ hP hD hS ls (lv_sub hl [0, 1, 2, 3, 4, 5, 6, 7] rfl)
        have hw22 := hW o (by omega) (by omega)
        refine lv_iload hx hb dX4_choose_22 (lv_at hl 0 rfl) ?_
        refine ri_if_le (tgt := 45) hx hb dX4_choose_24 (by decide) ⟨by omega, by omega⟩ (fun c24 => ?_) (fun c24 => ?_)
        · skip
          refine lv_iconst (v := Int32.ofInt 0) hx hb dX4_choose_45 rfl ?_
          exact J46 0 (by first | omega | exact ⟨by omega, by omega⟩) (by first | exact Or.inl ⟨by omega, rfl⟩ | exact Or.inr ⟨by omega, by omega, most_le (by omega) (by omega) (by omega), fun x h1 h2 => most_neg (by omega) hm41 h1 h2⟩) _ _ hP hD hS ls (lv_sub hl [0, 1, 2, 3, 4, 5] rfl)
        · skip
          refine lv_aload_n hx hb dX4_choose_27 rfl (lv_at hl 4 rfl) ?_
          refine lv_iload hx hb dX4_choose_28 (lv_at hl 1 rfl) ?_
          refine zc_VJ (As := [vI o]) (rest := []) (wc := [(h0, oB 6 [.ref h1, vI n, vJ lm]), (h1, aJ ca 605 b)]) (wr := [(hq, oB 4 [.ref hf, .ref hk, vI wt]), (hf, aQ ca 5 rw), (ra 0, aI ca 299 (F 0)), (ra 1, aI ca 299 (F 1)), (ra 2, aI ca 299 (F 2)), (ra 3, aI ca 299 (F 3)), (ra 4, aI ca 299 (F 4)), (hk, aI ca 5 T2), (hL, oB 2 [.ref hw, .ref he, .ref hdn, .ref hdw, vI du, vI hv, vI mo, vI oft, vI la, vI pA, vI pB]), (hw, aI ca 5 w)]) (k_X6_ofOrder l g ca h0 h1 b n lm o (by first | assumption | omega) (by first | assumption | omega)) dX4_choose_30 (cwV 1 hts gX4_choose_X6_ofOrder rfl rfl rfl (by decide +kernel) (by rw [hR]; exact ⟨Nat.le_of_ble_eq_true rfl, Nat.le_of_ble_eq_true rfl⟩)) ⟨hx, hb, hml, hown, hts⟩ hl.1 hK hP hD hS hA 8 rfl rfl rfl [8, 9] [0, 1, 2, 3, 4, 5, 6, 7, 10, 11] rfl (by decide) rfl (by decide) (by decide) rfl rfl (Nat.le_of_ble_eq_true rfl) (by rw [hR]; exact ⟨Nat.le_of_ble_eq_true rfl, Nat.le_of_ble_eq_true rfl⟩) (fun z30 u H locs q30 hP hD hS => ?_)
          have q30 : z30 = cnt b n o := q30
          have hP : va_P g vwCl [(hq, oB 4 [.ref hf, .ref hk, vI wt]), (hf, aQ ca 5 rw), (ra 0, aI ca 299 (F 0)), (ra 1, aI ca 299 (F 1)), (ra 2, aI ca 299 (F 2)), (ra 3, aI ca 299 (F 3)), (ra 4, aI ca 299 (F 4)), (hk, aI ca 5 T2), (h0, oB 6 [.ref h1, vI n, vJ lm]), (h1, aJ ca 605 b), (hL, oB 2 [.ref hw, .ref he, .ref hdn, .ref hdw, vI du, vI hv, vI mo, vI oft, vI la, vI pA, vI pB]), (hw, aI ca 5 w)] H := hP.sub [0, 1, 2, 3, 4, 5, 6, 7, 10, 11, 8, 9] rfl
          have hD : va_D A [(hq, oB 4 [.ref hf, .ref hk, vI wt]), (hf, aQ ca 5 rw), (ra 0, aI ca 299 (F 0)), (ra 1, aI ca 299 (F 1)), (ra 2, aI ca 299 (F 2)), (ra 3, aI ca 299 (F 3)), (ra 4, aI ca 299 (F 4)), (hk, aI ca 5 T2), (h0, oB 6 [.ref h1, vI n, vJ lm]), (h1, aJ ca 605 b), (hL, oB 2 [.ref hw, .ref he, .ref hdn, .ref hdw, vI du, vI hv, vI mo, vI oft, vI la, vI pA, vI pB]), (hw, aI ca 5 w)] := hD.sub [0, 1, 2, 3, 4, 5, 6, 7, 10, 11, 8, 9] (by decide) rfl
          have hc33 := cnt_bd hB (o := o) (by omega) (by omega)
          refine lv_iload_n hx hb dX4_choose_33 rfl (lv_at hl 2 rfl) ?_
          refine lv_iload hx hb dX4_choose_34 (lv_at hl 0 rfl) ?_
          refine ri_div hx hb dX4_choose_36 ⟨by omega, by omega⟩ ⟨by omega, by omega⟩ (fun z36 e36 => ?_)
          have hd37 : 0 ≤ z36 ∧ z36 ≤ 298 := by
            rw [e36]
            exact ⟨Int.ediv_nonneg (by omega) (by omega), by have := Int.ediv_le_self (w o) (show 0 ≤ r by omega); omega⟩
          refine ri_l hx hb dX4_choose_37 ⟨by omega, by omega⟩ ?_
          refine rj_min hx hb (by rw [hml]; exact hl.1.symm) hown lk_jmin47 lk_jmins lk_mathz lk_jminc (by rw [hR]; exact Nat.le_of_ble_eq_true rfl) (by rw [hR]; exact Nat.le_of_ble_eq_true rfl) (by rw [hR]; exact Nat.le_of_ble_eq_true rfl) (by rw [hR]; exact Nat.le_of_ble_eq_true rfl) ⟨by omega, by omega⟩ ⟨by omega, by omega⟩ dX4_choose_38 (fun z38 e38 => ?_)
          have hz41 : 0 ≤ z38 ∧ z38 ≤ z36 ∧ z38 ≤ cnt b n o := by
            rw [e38]; split <;> omega
          have hm41 : z38 = if r / w o < cnt b n o then r / w o else cnt b n o := by rw [e38, q30, e36]
          refine rj_i hx hb dX4_choose_41 ⟨by omega, by omega⟩ ?_
          refine lv_goto (tgt := 46) hx hb dX4_choose_42 (by decide) ?_
          exact J46 z38 (by first | omega | exact ⟨by omega, by omega⟩) (by first | exact Or.inl ⟨by omega, rfl⟩ | exact Or.inr ⟨by omega, by omega, most_le (by omega) (by omega) (by omega), fun x h1 h2 => most_neg (by omega) hm41 h1 h2⟩) _ _ hP hD hS ls (lv_sub hl [0, 1, 2, 3, 4, 5] rfl)
  exact L8 _ 4 wt T (by first | assumption | omega) (by exact hrc) (by intro T' _ q; exact q) (Nat.lt_succ_self _) _ _ hP hD hS ls (lv_sub hl [0, 1, 2, 3, 4] rfl)
set_option maxHeartbeats 4000000 in
set_option maxRecDepth 100000 in
theorem k_X4_takeFrom (l : Launch) (g : va_G) (ca : Nat → ClassId) (hq : Nat) (hf : Nat) (hk : Nat) (T : Int → Int) (wt : Int) (h0 : Nat) (h1 : Nat) (b : Int → Int) (n : Int) (lm : Int) (hB : GB b n) (hT : ∀ o : Int, 0 ≤ o → o ≤ 4 → 0 ≤ T o ∧ T o ≤ 1000) : zV (S := Unit) l yX4_takeFrom wsX4_takeFrom ({ frames := 2, cells := 0, slots := 0, locals := 51 } : Room) g ca [.ref hq, .ref h0] [(hq, oB 4 [.ref hf, .ref hk, vI wt]), (hk, aI ca 5 T), (h0, oB 6 [.ref h1, vI n, vJ lm]), (h1, aJ ca 605 b)] (fun (u : Unit) => True) (fun (u : Unit) => [(hq, oB 4 [.ref hf, .ref hk, vI wt]), (hk, aI ca 5 T), (h0, oB 6 [.ref h1, vI n, vJ lm]), (h1, aJ ca 605 (ta b T 5))]) 0 0 := by
  refine zm_V (cc := cX4_takeFrom) (maxL := 3) (ret := none) (by decide) rfl (Nat.le_of_ble_eq_true rfl) ?_
  intro p e s m below meth c A ls R args Q hR hargs hQ hx hb hml hr hts hown hlk hnm hK hP hD hA hS hl
  have hown : s.vm.findClass RX4 = some m.cls := hown
  have hl : lv_has ls 3 [(0, .ref hq), (1, .ref h0)] := hl
  have lk_f16 : (Cond.fieldLink RX4 16 "DripRings$Payment" "taken" "[I").before args s = true := hts _ (by decide +kernel)
  have inF_X4 : ∀ w ∈ wsX40, w ∈ wsX4_takeFrom := by decide +kernel
  refine lv_iconst (v := Int32.ofInt 0) hx hb dX4_takeFrom_0 rfl ?_
  refine lv_istore_n (lv' := [(2, vI 0), (0, .ref hq), (1, .ref h0)]) hx hb dX4_takeFrom_1 rfl hl (by decide) rfl (fun ls hl => ?_)
  have L2 : ∀ (N2 : Nat) (o : Int) (f : Int → Int) (hi : 0 ≤ o ∧ o ≤ 5) (hfe : f = ta b T o.toNat) (hμ : (5 - o).toNat < N2) (H : Heap) (locs : List Loc) (hP : va_P g vwCl [(hq, oB 4 [.ref hf, .ref hk, vI wt]), (hk, aI ca 5 T), (h0, oB 6 [.ref h1, vI n, vJ lm]), (h1, aJ ca 605 f)] H) (hD : va_D A [(hq, oB 4 [.ref hf, .ref hk, vI wt]), (hk, aI ca 5 T), (h0, oB 6 [.ref h1, vI n, vJ lm]), (h1, aJ ca 605 f)]) (hS : va_S A s.heap H locs) (ls : Array Slot) (hl : lv_has ls 3 [(2, vI o), (0, .ref hq), (1, .ref h0)]), W p l e R s m args below meth c H locs 0 0 Q (F0 m 2 ls []) := by
    intro N2; induction N2 with
    | zero => intro o f hi hfe hμ; exact absurd hμ (Nat.not_lt_zero _)
    | succ N2 ih2 =>
      intro o f hi hfe hμ H locs hP hD hS ls hl
      refine lv_iload_n hx hb dX4_takeFrom_2 rfl (lv_at hl 0 rfl) ?_
      refine lv_iconst (v := Int32.ofInt 5) hx hb dX4_takeFrom_3 rfl ?_
      refine ri_icmp_ge (tgt := 25) hx hb dX4_takeFrom_4 (by decide) ⟨by omega, by omega⟩ ⟨by omega, by omega⟩ (fun c4 => ?_) (fun c4 => ?_)
      · skip
        have hP := za_extJ hP 3 rfl (ta b T 5) (fun j hj0 hj1 => (by rw [hfe, show o = 5 by omega]; rfl))
        have hD := hD.set (e := aJ ca 605 (ta b T 5)) (show ([(hq, oB 4 [.ref hf, .ref hk, vI wt]), (hk, aI ca 5 T), (h0, oB 6 [.ref h1, vI n, vJ lm]), (h1, aJ ca 605 f)] : va_W)[3]? = some _ from rfl)
        have hP : va_P g vwCl [(hq, oB 4 [.ref hf, .ref hk, vI wt]), (hk, aI ca 5 T), (h0, oB 6 [.ref h1, vI n, vJ lm]), (h1, aJ ca 605 (ta b T 5))] H := hP
        have hD : va_D A [(hq, oB 4 [.ref hf, .ref hk, vI wt]), (hk, aI ca 5 T), (h0, oB 6 [.ref h1, vI n, vJ lm]), (h1, aJ ca 605 (ta b T 5))] := hD
        refine zr_V hx hb hr hlk hQ () hP hD hS dX4_takeFrom_25 (Nat.le_of_ble_eq_true rfl) (Nat.le_of_ble_eq_true rfl) ?_
        show True
        trivial
      · skip
        refine lv_aload_n hx hb dX4_takeFrom_7 rfl (lv_at hl 2 rfl) ?_
        refine lv_iload_n hx hb dX4_takeFrom_8 rfl (lv_at hl 0 rfl) ?_
        refine lv_aload_n hx hb dX4_takeFrom_9 rfl (lv_at hl 1 rfl) ?_
        refine va_get (D := g) (ci := 4) (v := .ref hk) (C := RX4) (T := TX4) (N := 3) hx hb hts inF_X4 hown hK.1 hP 0 rfl rfl 1 (by decide) lk_f16 (fun _ h9 => h9) rfl dX4_takeFrom_10 ?_
        refine lv_iload_n hx hb dX4_takeFrom_13 rfl (lv_at hl 0 rfl) ?_
        refine ra_ild hx hb hK hP 1 rfl dX4_takeFrom_14 ⟨by omega, by omega⟩ (by omega) ?_
        have ht15 := hT o (by omega) (by omega)
        refine ri_l hx hb dX4_takeFrom_15 ⟨by omega, by omega⟩ ?_
        refine zc_VV (As := [vI o, vJ (T o)]) (rest := []) (wc := [(h0, oB 6 [.ref h1, vI n, vJ lm]), (h1, aJ ca 605 f)]) (wr := [(hq, oB 4 [.ref hf, .ref hk, vI wt]), (hk, aI ca 5 T)]) (k_X6_takeOldest l g ca h0 h1 f n lm o (T o) (by rw [hfe]; exact GB_ta hB _) (by first | assumption | omega) (by first | assumption | omega)) dX4_takeFrom_16 (cwV 2 hts gX4_takeFrom_X6_takeOldest rfl rfl rfl (by decide +kernel) (by rw [hR]; exact ⟨Nat.le_of_ble_eq_true rfl, Nat.le_of_ble_eq_true rfl⟩)) ⟨hx, hb, hml, hown, hts⟩ hl.1 hK hP hD hS hA 2 rfl rfl rfl [2, 3] [0, 1] rfl (by decide) rfl (by decide) (by decide) rfl rfl (Nat.le_of_ble_eq_true rfl) (by rw [hR]; exact ⟨Nat.le_of_ble_eq_true rfl, Nat.le_of_ble_eq_true rfl⟩) (fun u H locs q16 hP hD hS => ?_)
        have hP : va_P g vwCl [(hq, oB 4 [.ref hf, .ref hk, vI wt]), (hk, aI ca 5 T), (h0, oB 6 [.ref h1, vI n, vJ lm]), (h1, aJ ca 605 (tk f (121 * o) (T o)))] H := hP.sub [0, 1, 2, 3] rfl
        have hD : va_D A [(hq, oB 4 [.ref hf, .ref hk, vI wt]), (hk, aI ca 5 T), (h0, oB 6 [.ref h1, vI n, vJ lm]), (h1, aJ ca 605 (tk f (121 * o) (T o)))] := hD.sub [0, 1, 2, 3] (by decide) rfl
        obtain ⟨z19, e19⟩ : ∃ q : Int, q = o + 1 := ⟨_, rfl⟩
        refine ri_inc (lv' := [(2, vI z19), (0, .ref hq), (1, .ref h0)]) hx hb dX4_takeFrom_19 hl (k := 0) rfl (by decide) z19 e19 rfl (fun ls hl => ?_)
        refine lv_goto (tgt := 2) hx hb dX4_takeFrom_22 (by decide) ?_
        exact ih2 z19 (tk f (121 * o) (T o)) (by first | assumption | omega) (by rw [e19, ta_s _ _ (by omega), ← hfe]) (by omega) _ _ hP hD hS ls (lv_sub hl [0, 1, 2] rfl)
  exact L2 _ 0 b (by first | assumption | omega) (by rfl) (Nat.lt_succ_self _) _ _ hP hD hS ls (lv_sub hl [0, 1, 2] rfl)
set_option maxHeartbeats 4000000 in
set_option maxRecDepth 100000 in
theorem k_X4_find (l : Launch) (g : va_G) (ca : Nat → ClassId) (hq : Nat) (hf : Nat) (hk : Nat) (rw : Nat → Option Nat) (ra : Nat → Nat) (F : Int → Int → Int) (T : Int → Int) (wt : Int) (h0 : Nat) (h1 : Nat) (b : Int → Int) (n : Int) (lm : Int) (hL : Nat) (hw : Nat) (he : Nat) (hdn : Nat) (hdw : Nat) (w : Int → Int) (du : Int) (hv : Int) (mo : Int) (oft : Int) (la : Int) (pA : Int) (pB : Int) (w0 : Int) (hrw : ∀ k : Nat, k < 5 → rw k = some (ra k)) (hF : FRok F) (hB : GB b n) (hW : GW w) (hw0 : 1 ≤ w0 ∧ w0 ≤ 200) : zI (S := (Int → Int → Int) × (Int → Int) × Int) l yX4_find wsX4_find ({ frames := 2, cells := 0, slots := 0, locals := 51 } : Room) g ca [.ref hq, .ref h0, .ref hL, vI w0] [(hq, oB 4 [.ref hf, .ref hk, vI wt]), (hf, aQ ca 5 rw), (ra 0, aI ca 299 (F 0)), (ra 1, aI ca 299 (F 1)), (ra 2, aI ca 299 (F 2)), (ra 3, aI ca 299 (F 3)), (ra 4, aI ca 299 (F 4)), (hk, aI ca 5 T), (h0, oB 6 [.ref h1, vI n, vJ lm]), (h1, aJ ca 605 b), (hL, oB 2 [.ref hw, .ref he, .ref hdn, .ref hdw, vI du, vI hv, vI mo, vI oft, vI la, vI pA, vI pB]), (hw, aI ca 5 w)] (fun (z : Int) (u : (Int → Int → Int) × (Int → Int) × Int) => FRok u.1 ∧ ((z = 1 ∧ LST (cnt b n) w w0 u.2.2 ∧ CHO (cnt b n) w u.2.1 5 u.2.2) ∨ (z = 0 ∧ ∀ x : Int, w0 ≤ x → x ≤ 298 → ¬ RC (cnt b n) w 5 x))) (fun (u : (Int → Int → Int) × (Int → Int) × Int) => [(hq, oB 4 [.ref hf, .ref hk, vI u.2.2]), (hf, aQ ca 5 rw), (ra 0, aI ca 299 (u.1 0)), (ra 1, aI ca 299 (u.1 1)), (ra 2, aI ca 299 (u.1 2)), (ra 3, aI ca 299 (u.1 3)), (ra 4, aI ca 299 (u.1 4)), (hk, aI ca 5 u.2.1), (h0, oB 6 [.ref h1, vI n, vJ lm]), (h1, aJ ca 605 b), (hL, oB 2 [.ref hw, .ref he, .ref hdn, .ref hdw, vI du, vI hv, vI mo, vI oft, vI la, vI pA, vI pB]), (hw, aI ca 5 w)]) 0 0 := by
  refine zm_I (cc := cX4_find) (maxL := 5) (ret := some .boolean) (by decide) rfl (Nat.le_of_ble_eq_true rfl) ?_
  intro p e s m below meth c A ls R args Q hR hargs hQ hx hb hml hr hts hown hlk hnm hK hP hD hA hS hl
  have hown : s.vm.findClass RX4 = some m.cls := hown
  have hl : lv_has ls 5 [(0, .ref hq), (1, .ref h0), (2, .ref hL), (3, vI w0)] := hl
  have lk_f39 : (Cond.fieldLink RX4 39 "DripRings$Payment" "weight" "I").before args s = true := hts _ (by decide +kernel)
  have inF_X4 : ∀ w ∈ wsX40, w ∈ wsX4_find := by decide +kernel
  have lk_f26 : (Cond.fieldLink RX4 26 "DripRings$Law" "weights" "[I").before args s = true := hts _ (by decide +kernel)
  have inF_X2 : ∀ w ∈ wsX20, w ∈ wsX4_find := by decide +kernel
  have hn := hB.1
  refine lv_iconst (v := Int32.ofInt 0) hx hb dX4_find_0 rfl ?_
  refine lv_istore (lv' := [(4, vI 0), (0, .ref hq), (1, .ref h0), (2, .ref hL), (3, vI w0)]) hx hb dX4_find_1 hl (by decide) rfl (fun ls hl => ?_)
  have L3 : ∀ (N3 : Nat) (o : Int) (G : Int → Int → Int) (hi : 0 ≤ o ∧ o ≤ 5) (hG : FRok G) (hGr : ∀ k s : Int, 0 ≤ k → k < o → 0 ≤ s → s ≤ 298 → (cwp G k s ↔ RC (cnt b n) w (k + 1).toNat s)) (hμ : (5 - o).toNat < N3) (H : Heap) (locs : List Loc) (hP : va_P g vwCl [(hq, oB 4 [.ref hf, .ref hk, vI wt]), (hf, aQ ca 5 rw), (ra 0, aI ca 299 (G 0)), (ra 1, aI ca 299 (G 1)), (ra 2, aI ca 299 (G 2)), (ra 3, aI ca 299 (G 3)), (ra 4, aI ca 299 (G 4)), (hk, aI ca 5 T), (h0, oB 6 [.ref h1, vI n, vJ lm]), (h1, aJ ca 605 b), (hL, oB 2 [.ref hw, .ref he, .ref hdn, .ref hdw, vI du, vI hv, vI mo, vI oft, vI la, vI pA, vI pB]), (hw, aI ca 5 w)] H) (hD : va_D A [(hq, oB 4 [.ref hf, .ref hk, vI wt]), (hf, aQ ca 5 rw), (ra 0, aI ca 299 (G 0)), (ra 1, aI ca 299 (G 1)), (ra 2, aI ca 299 (G 2)), (ra 3, aI ca 299 (G 3)), (ra 4, aI ca 299 (G 4)), (hk, aI ca 5 T), (h0, oB 6 [.ref h1, vI n, vJ lm]), (h1, aJ ca 605 b), (hL, oB 2 [.ref hw, .ref he, .ref hdn, .ref hdw, vI du, vI hv, vI mo, vI oft, vI la, vI pA, vI pB]), (hw, aI ca 5 w)]) (hS : va_S A s.heap H locs) (ls : Array Slot) (hl : lv_has ls 5 [(4, vI o), (0, .ref hq), (1, .ref h0), (2, .ref hL), (3, vI w0)]), W p l e R s m args below meth c H locs 0 0 Q (F0 m 3 ls []) := by
    intro N3; induction N3 with
    | zero => intro o G hi hG hGr hμ; exact absurd hμ (Nat.not_lt_zero _)
    | succ N3 ih3 =>
      intro o G hi hG hGr hμ H locs hP hD hS ls hl
      refine lv_iload hx hb dX4_find_3 (lv_at hl 0 rfl) ?_
      refine lv_iconst (v := Int32.ofInt 5) hx hb dX4_find_5 rfl ?_
      refine ri_icmp_ge (tgt := 34) hx hb dX4_find_6 (by decide) ⟨by omega, by omega⟩ ⟨by omega, by omega⟩ (fun c6 => ?_) (fun c6 => ?_)
      · skip
        refine lv_iload_n hx hb dX4_find_34 rfl (lv_at hl 4 rfl) ?_
        refine lv_istore (lv' := [(4, vI w0), (0, .ref hq), (1, .ref h0), (2, .ref hL), (3, vI w0)]) hx hb dX4_find_35 hl (by decide) rfl (fun ls hl => ?_)
        have L37 : ∀ (N37 : Nat) (sx : Int) (hs : w0 ≤ sx ∧ sx ≤ 299) (hno : ∀ x : Int, w0 ≤ x → x < sx → ¬ RC (cnt b n) w 5 x) (hμ : (299 - sx).toNat < N37) (H : Heap) (locs : List Loc) (hP : va_P g vwCl [(hq, oB 4 [.ref hf, .ref hk, vI wt]), (hf, aQ ca 5 rw), (ra 0, aI ca 299 (G 0)), (ra 1, aI ca 299 (G 1)), (ra 2, aI ca 299 (G 2)), (ra 3, aI ca 299 (G 3)), (ra 4, aI ca 299 (G 4)), (hk, aI ca 5 T), (h0, oB 6 [.ref h1, vI n, vJ lm]), (h1, aJ ca 605 b), (hL, oB 2 [.ref hw, .ref he, .ref hdn, .ref hdw, vI du, vI hv, vI mo, vI oft, vI la, vI pA, vI pB]), (hw, aI ca 5 w)] H) (hD : va_D A [(hq, oB 4 [.ref hf, .ref hk, vI wt]), (hf, aQ ca 5 rw), (ra 0, aI ca 299 (G 0)), (ra 1, aI ca 299 (G 1)), (ra 2, aI ca 299 (G 2)), (ra 3, aI ca 299 (G 3)), (ra 4, aI ca 299 (G 4)), (hk, aI ca 5 T), (h0, oB 6 [.ref h1, vI n, vJ lm]), (h1, aJ ca 605 b), (hL, oB 2 [.ref hw, .ref he, .ref hdn, .ref hdw, vI du, vI hv, vI mo, vI oft, vI la, vI pA, vI pB]), (hw, aI ca 5 w)]) (hS : va_S A s.heap H locs) (ls : Array Slot) (hl : lv_has ls 5 [(4, vI sx), (0, .ref hq), (1, .ref h0), (2, .ref hL), (3, vI w0)]), W p l e R s m args below meth c H locs 0 0 Q (F0 m 37 ls []) := by
          intro N37; induction N37 with
          | zero => intro sx hs hno hμ; exact absurd hμ (Nat.not_lt_zero _)
          | succ N37 ih37 =>
            intro sx hs hno hμ H locs hP hD hS ls hl
            refine lv_iload hx hb dX4_find_37 (lv_at hl 0 rfl) ?_
            refine lv_sipush (v := Int32.ofInt 299) hx hb dX4_find_39 (by decide) ?_
            refine ri_icmp_ge (tgt := 75) hx hb dX4_find_42 (by decide) ⟨by omega, by omega⟩ ⟨by omega, by omega⟩ (fun c42 => ?_) (fun c42 => ?_)
            · skip
              refine lv_iconst (v := Int32.ofInt 0) hx hb dX4_find_75 rfl ?_
              refine zr_Z hx hb hr hlk hQ (G, T, wt) hP hD hS dX4_find_76 (Nat.le_of_ble_eq_true rfl) (Nat.le_of_ble_eq_true rfl) (Or.inl rfl) ?_
              show FRok G ∧ ((0 = 1 ∧ LST (cnt b n) w w0 wt ∧ CHO (cnt b n) w T 5 wt) ∨ (0 = 0 ∧ ∀ x : Int, w0 ≤ x → x ≤ 298 → ¬ RC (cnt b n) w 5 x))
              exact ⟨hG, Or.inr ⟨rfl, fun x h1 h2 => hno x h1 (by omega)⟩⟩
            · skip
              refine lv_aload_n hx hb dX4_find_45 rfl (lv_at hl 1 rfl) ?_
              refine lv_iconst (v := Int32.ofInt 4) hx hb dX4_find_46 rfl ?_
              refine lv_iload hx hb dX4_find_47 (lv_at hl 0 rfl) ?_
              refine zc_VI (As := [vI 4, vI sx]) (rest := []) (wc := [(hq, oB 4 [.ref hf, .ref hk, vI wt]), (hf, aQ ca 5 rw), (ra 0, aI ca 299 (G 0)), (ra 1, aI ca 299 (G 1)), (ra 2, aI ca 299 (G 2)), (ra 3, aI ca 299 (G 3)), (ra 4, aI ca 299 (G 4))]) (wr := [(hk, aI ca 5 T), (h0, oB 6 [.ref h1, vI n, vJ lm]), (h1, aJ ca 605 b), (hL, oB 2 [.ref hw, .ref he, .ref hdn, .ref hdw, vI du, vI hv, vI mo, vI oft, vI la, vI pA, vI pB]), (hw, aI ca 5 w)]) (k_X4_canWeigh l g ca hq hf hk rw ra G wt 4 sx (by first | assumption | omega) (by exact hG) (by first | assumption | omega) (by first | assumption | omega)) dX4_find_49 (cwV 2 hts gX4_find_X4_canWeigh rfl rfl rfl (by decide +kernel) (by rw [hR]; exact ⟨Nat.le_of_ble_eq_true rfl, Nat.le_of_ble_eq_true rfl⟩)) ⟨hx, hb, hml, hown, hts⟩ hl.1 hK hP hD hS hA 0 rfl rfl rfl [0, 1, 2, 3, 4, 5, 6] [7, 8, 9, 10, 11] rfl (by decide) rfl (by decide) (by decide) rfl rfl (Nat.le_of_ble_eq_true rfl) (by rw [hR]; exact ⟨Nat.le_of_ble_eq_true rfl, Nat.le_of_ble_eq_true rfl⟩) (fun z49 u H locs q49 hP hD hS => ?_)
              have q49 : (z49 = 1 ∧ cwp G 4 sx) ∨ (z49 = 0 ∧ ¬ cwp G 4 sx) := q49
              have hP : va_P g vwCl [(hq, oB 4 [.ref hf, .ref hk, vI wt]), (hf, aQ ca 5 rw), (ra 0, aI ca 299 (G 0)), (ra 1, aI ca 299 (G 1)), (ra 2, aI ca 299 (G 2)), (ra 3, aI ca 299 (G 3)), (ra 4, aI ca 299 (G 4)), (hk, aI ca 5 T), (h0, oB 6 [.ref h1, vI n, vJ lm]), (h1, aJ ca 605 b), (hL, oB 2 [.ref hw, .ref he, .ref hdn, .ref hdw, vI du, vI hv, vI mo, vI oft, vI la, vI pA, vI pB]), (hw, aI ca 5 w)] H := hP.sub [5, 6, 7, 8, 9, 10, 11, 0, 1, 2, 3, 4] rfl
              have hD : va_D A [(hq, oB 4 [.ref hf, .ref hk, vI wt]), (hf, aQ ca 5 rw), (ra 0, aI ca 299 (G 0)), (ra 1, aI ca 299 (G 1)), (ra 2, aI ca 299 (G 2)), (ra 3, aI ca 299 (G 3)), (ra 4, aI ca 299 (G 4)), (hk, aI ca 5 T), (h0, oB 6 [.ref h1, vI n, vJ lm]), (h1, aJ ca 605 b), (hL, oB 2 [.ref hw, .ref he, .ref hdn, .ref hdw, vI du, vI hv, vI mo, vI oft, vI la, vI pA, vI pB]), (hw, aI ca 5 w)] := hD.sub [5, 6, 7, 8, 9, 10, 11, 0, 1, 2, 3, 4] (by decide) rfl
              refine ri_if_eq (tgt := 69) hx hb dX4_find_52 (by decide) ⟨by omega, by omega⟩ (fun c52 => ?_) (fun c52 => ?_)
              · skip
                obtain ⟨z69, e69⟩ : ∃ q : Int, q = sx + 1 := ⟨_, rfl⟩
                refine ri_inc (lv' := [(4, vI z69), (0, .ref hq), (1, .ref h0), (2, .ref hL), (3, vI w0)]) hx hb dX4_find_69 hl (k := 0) rfl (by decide) z69 e69 rfl (fun ls hl => ?_)
                refine lv_goto (tgt := 37) hx hb dX4_find_72 (by decide) ?_
                exact ih37 z69 (by first | assumption | omega) (by
                      intro x h1 h2 q
                      by_cases h : x = sx
                      · rw [h] at q
                        have := (hGr 4 sx (by omega) (by omega) (by omega) (by omega)).mpr q
                        rcases q49 with q8 | q8
                        · omega
                        · exact q8.2 this
                      · exact hno x h1 (by omega) q) (by omega) _ _ hP hD hS ls (lv_sub hl [0, 1, 2, 3, 4] rfl)
              · skip
                have hR55 : RC (cnt b n) w 5 sx := by
                  rcases q49 with q8 | q8
                  · exact (hGr 4 sx (by omega) (by omega) (by omega) (by omega)).mp q8.2
                  · omega
                refine lv_aload_n hx hb dX4_find_55 rfl (lv_at hl 1 rfl) ?_
                refine lv_iload hx hb dX4_find_56 (lv_at hl 0 rfl) ?_
                refine va_put (D := g) (ci := 4) (v := vI sx) (ty := .int) (C := RX4) (T := TX4) (N := 3) hx hb hts inF_X4 tyX4 tyX4_ok nmX4 hown hK.1 hP hD hS 0 rfl rfl 2 (by decide) lk_f39 (fun _ h9 => h9) rfl (by decide +kernel) rfl rfl (Nat.le_of_ble_eq_true rfl) dX4_find_58 (fun H locs hP hD hS => ?_)
                have hP : va_P g vwCl [(hq, oB 4 [.ref hf, .ref hk, vI sx]), (hf, aQ ca 5 rw), (ra 0, aI ca 299 (G 0)), (ra 1, aI ca 299 (G 1)), (ra 2, aI ca 299 (G 2)), (ra 3, aI ca 299 (G 3)), (ra 4, aI ca 299 (G 4)), (hk, aI ca 5 T), (h0, oB 6 [.ref h1, vI n, vJ lm]), (h1, aJ ca 605 b), (hL, oB 2 [.ref hw, .ref he, .ref hdn, .ref hdw, vI du, vI hv, vI mo, vI oft, vI la, vI pA, vI pB]), (hw, aI ca 5 w)] H := hP
                have hD : va_D A [(hq, oB 4 [.ref hf, .ref hk, vI sx]), (hf, aQ ca 5 rw), (ra 0, aI ca 299 (G 0)), (ra 1, aI ca 299 (G 1)), (ra 2, aI ca 299 (G 2)), (ra 3, aI ca 299 (G 3)), (ra 4, aI ca 299 (G 4)), (hk, aI ca 5 T), (h0, oB 6 [.ref h1, vI n, vJ lm]), (h1, aJ ca 605 b), (hL, oB 2 [.ref hw, .ref he, .ref hdn, .ref hdw, vI du, vI hv, vI mo, vI oft, vI la, vI pA, vI pB]), (hw, aI ca 5 w)] := hD
                refine lv_aload_n hx hb dX4_find_61 rfl (lv_at hl 1 rfl) ?_
                refine lv_aload_n hx hb dX4_find_62 rfl (lv_at hl 2 rfl) ?_
                refine lv_aload_n hx hb dX4_find_63 rfl (lv_at hl 3 rfl) ?_
                refine zc_VV (As := [.ref h0, .ref hL]) (rest := []) (wc := [(hq, oB 4 [.ref hf, .ref hk, vI sx]), (hf, aQ ca 5 rw), (ra 0, aI ca 299 (G 0)), (ra 1, aI ca 299 (G 1)), (ra 2, aI ca 299 (G 2)), (ra 3, aI ca 299 (G 3)), (ra 4, aI ca 299 (G 4)), (hk, aI ca 5 T), (h0, oB 6 [.ref h1, vI n, vJ lm]), (h1, aJ ca 605 b), (hL, oB 2 [.ref hw, .ref he, .ref hdn, .ref hdw, vI du, vI hv, vI mo, vI oft, vI la, vI pA, vI pB]), (hw, aI ca 5 w)]) (wr := []) (k_X4_choose l g ca hq hf hk rw ra G T sx h0 h1 b n lm hL hw he hdn hdw w du hv mo oft la pA pB (by first | assumption | omega) (by exact hG) (by first | assumption | omega) (by first | assumption | omega) (by intro k s h1 h2 h3 h4; exact hGr k s h1 (by omega) h3 h4) (by first | assumption | omega) (by exact hR55)) dX4_find_64 (cwV 2 hts gX4_find_X4_choose rfl rfl rfl (by decide +kernel) (by rw [hR]; exact ⟨Nat.le_of_ble_eq_true rfl, Nat.le_of_ble_eq_true rfl⟩)) ⟨hx, hb, hml, hown, hts⟩ hl.1 hK hP hD hS hA 0 rfl rfl rfl [0, 1, 2, 3, 4, 5, 6, 7, 8, 9, 10, 11] [] rfl (by decide) rfl (by decide) (by decide) rfl rfl (Nat.le_of_ble_eq_true rfl) (by rw [hR]; exact ⟨Nat.le_of_ble_eq_true rfl, Nat.le_of_ble_eq_true rfl⟩) (fun u H locs q64 hP hD hS => ?_)
                obtain ⟨T1_64, rfl⟩ : ∃ q, q = u := ⟨_, rfl⟩
                have q64 : CHO (cnt b n) w T1_64 5 sx := q64
                have hP : va_P g vwCl [(hq, oB 4 [.ref hf, .ref hk, vI sx]), (hf, aQ ca 5 rw), (ra 0, aI ca 299 (G 0)), (ra 1, aI ca 299 (G 1)), (ra 2, aI ca 299 (G 2)), (ra 3, aI ca 299 (G 3)), (ra 4, aI ca 299 (G 4)), (hk, aI ca 5 T1_64), (h0, oB 6 [.ref h1, vI n, vJ lm]), (h1, aJ ca 605 b), (hL, oB 2 [.ref hw, .ref he, .ref hdn, .ref hdw, vI du, vI hv, vI mo, vI oft, vI la, vI pA, vI pB]), (hw, aI ca 5 w)] H := hP.sub [0, 1, 2, 3, 4, 5, 6, 7, 8, 9, 10, 11] rfl
                have hD : va_D A [(hq, oB 4 [.ref hf, .ref hk, vI sx]), (hf, aQ ca 5 rw), (ra 0, aI ca 299 (G 0)), (ra 1, aI ca 299 (G 1)), (ra 2, aI ca 299 (G 2)), (ra 3, aI ca 299 (G 3)), (ra 4, aI ca 299 (G 4)), (hk, aI ca 5 T1_64), (h0, oB 6 [.ref h1, vI n, vJ lm]), (h1, aJ ca 605 b), (hL, oB 2 [.ref hw, .ref he, .ref hdn, .ref hdw, vI du, vI hv, vI mo, vI oft, vI la, vI pA, vI pB]), (hw, aI ca 5 w)] := hD.sub [0, 1, 2, 3, 4, 5, 6, 7, 8, 9, 10, 11] (by decide) rfl
                refine lv_iconst (v := Int32.ofInt 1) hx hb dX4_find_67 rfl ?_
                refine zr_Z hx hb hr hlk hQ (G, T1_64, sx) hP hD hS dX4_find_68 (Nat.le_of_ble_eq_true rfl) (Nat.le_of_ble_eq_true rfl) (Or.inr rfl) ?_
                show FRok G ∧ ((1 = 1 ∧ LST (cnt b n) w w0 sx ∧ CHO (cnt b n) w T1_64 5 sx) ∨ (1 = 0 ∧ ∀ x : Int, w0 ≤ x → x ≤ 298 → ¬ RC (cnt b n) w 5 x))
                exact ⟨hG, Or.inl ⟨rfl, ⟨by omega, by omega, hR55, hno⟩, q64⟩⟩
        exact L37 _ w0 (by first | assumption | omega) (by intro x h1 h2; omega) (Nat.lt_succ_self _) _ _ hP hD hS ls (lv_sub hl [0, 1, 2, 3, 4] rfl)
      · skip
        refine lv_aload_n hx hb dX4_find_9 rfl (lv_at hl 1 rfl) ?_
        refine lv_iload hx hb dX4_find_10 (lv_at hl 0 rfl) ?_
        refine lv_aload_n hx hb dX4_find_12 rfl (lv_at hl 2 rfl) ?_
        refine lv_iload hx hb dX4_find_13 (lv_at hl 0 rfl) ?_
        refine zc_VJ (As := [vI o]) (rest := [vI o, .ref hq]) (wc := [(h0, oB 6 [.ref h1, vI n, vJ lm]), (h1, aJ ca 605 b)]) (wr := [(hq, oB 4 [.ref hf, .ref hk, vI wt]), (hf, aQ ca 5 rw), (ra 0, aI ca 299 (G 0)), (ra 1, aI ca 299 (G 1)), (ra 2, aI ca 299 (G 2)), (ra 3, aI ca 299 (G 3)), (ra 4, aI ca 299 (G 4)), (hk, aI ca 5 T), (hL, oB 2 [.ref hw, .ref he, .ref hdn, .ref hdw, vI du, vI hv, vI mo, vI oft, vI la, vI pA, vI pB]), (hw, aI ca 5 w)]) (k_X6_ofOrder l g ca h0 h1 b n lm o (by first | assumption | omega) (by first | assumption | omega)) dX4_find_15 (cwV 1 hts gX4_find_X6_ofOrder rfl rfl rfl (by decide +kernel) (by rw [hR]; exact ⟨Nat.le_of_ble_eq_true rfl, Nat.le_of_ble_eq_true rfl⟩)) ⟨hx, hb, hml, hown, hts⟩ hl.1 hK hP hD hS hA 8 rfl rfl rfl [8, 9] [0, 1, 2, 3, 4, 5, 6, 7, 10, 11] rfl (by decide) rfl (by decide) (by decide) rfl rfl (Nat.le_of_ble_eq_true rfl) (by rw [hR]; exact ⟨Nat.le_of_ble_eq_true rfl, Nat.le_of_ble_eq_true rfl⟩) (fun z15 u H locs q15 hP hD hS => ?_)
        have q15 : z15 = cnt b n o := q15
        have hP : va_P g vwCl [(hq, oB 4 [.ref hf, .ref hk, vI wt]), (hf, aQ ca 5 rw), (ra 0, aI ca 299 (G 0)), (ra 1, aI ca 299 (G 1)), (ra 2, aI ca 299 (G 2)), (ra 3, aI ca 299 (G 3)), (ra 4, aI ca 299 (G 4)), (hk, aI ca 5 T), (h0, oB 6 [.ref h1, vI n, vJ lm]), (h1, aJ ca 605 b), (hL, oB 2 [.ref hw, .ref he, .ref hdn, .ref hdw, vI du, vI hv, vI mo, vI oft, vI la, vI pA, vI pB]), (hw, aI ca 5 w)] H := hP.sub [0, 1, 2, 3, 4, 5, 6, 7, 10, 11, 8, 9] rfl
        have hD : va_D A [(hq, oB 4 [.ref hf, .ref hk, vI wt]), (hf, aQ ca 5 rw), (ra 0, aI ca 299 (G 0)), (ra 1, aI ca 299 (G 1)), (ra 2, aI ca 299 (G 2)), (ra 3, aI ca 299 (G 3)), (ra 4, aI ca 299 (G 4)), (hk, aI ca 5 T), (h0, oB 6 [.ref h1, vI n, vJ lm]), (h1, aJ ca 605 b), (hL, oB 2 [.ref hw, .ref he, .ref hdn, .ref hdw, vI du, vI hv, vI mo, vI oft, vI la, vI pA, vI pB]), (hw, aI ca 5 w)] := hD.sub [0, 1, 2, 3, 4, 5, 6, 7, 10, 11, 8, 9] (by decide) rfl
        have hc18 := cnt_bd hB (o := o) (by omega) (by omega)
        refine lv_aload_n hx hb dX4_find_18 rfl (lv_at hl 3 rfl) ?_
        refine va_get (D := g) (ci := 2) (v := .ref hw) (C := RX2) (T := TX2) (N := 11) hx hb hts inF_X2 hown hK.1 hP 10 rfl rfl 0 (by decide) lk_f26 (fun _ h9 => h9) rfl dX4_find_19 ?_
        refine lv_iload hx hb dX4_find_22 (lv_at hl 0 rfl) ?_
        refine ra_ild hx hb hK hP 11 rfl dX4_find_24 ⟨by omega, by omega⟩ (by omega) ?_
        have hw25 := hW o (by omega) (by omega)
        refine zc_VV (As := [vI o, vJ z15, vI (w o)]) (rest := []) (wc := [(hq, oB 4 [.ref hf, .ref hk, vI wt]), (hf, aQ ca 5 rw), (ra 0, aI ca 299 (G 0)), (ra 1, aI ca 299 (G 1)), (ra 2, aI ca 299 (G 2)), (ra 3, aI ca 299 (G 3)), (ra 4, aI ca 299 (G 4))]) (wr := [(hk, aI ca 5 T), (h0, oB 6 [.ref h1, vI n, vJ lm]), (h1, aJ ca 605 b), (hL, oB 2 [.ref hw, .ref he, .ref hdn, .ref hdw, vI du, vI hv, vI mo, vI oft, vI la, vI pA, vI pB]), (hw, aI ca 5 w)]) (k_X4_fill l g ca hq hf hk rw ra G wt (cnt b n) w o z15 (w o) (by first | assumption | omega) (by exact hG) (by first | assumption | omega) (by exact ⟨by omega, by omega, q15⟩) (by exact ⟨by omega, by omega, rfl⟩) (by first | assumption | omega) (by
              intro s h1 h2
              by_cases h0 : o = 0
              · rw [h0]; rfl
              · have := hGr (o - 1) s (by omega) (by omega) h1 h2
                rw [show o - 1 + 1 = o by omega] at this
                exact this)) dX4_find_25 (cwV 3 hts gX4_find_X4_fill rfl rfl rfl (by decide +kernel) (by rw [hR]; exact ⟨Nat.le_of_ble_eq_true rfl, Nat.le_of_ble_eq_true rfl⟩)) ⟨hx, hb, hml, hown, hts⟩ hl.1 hK hP hD hS hA 0 rfl rfl rfl [0, 1, 2, 3, 4, 5, 6] [7, 8, 9, 10, 11] rfl (by decide) rfl (by decide) (by decide) rfl rfl (Nat.le_of_ble_eq_true rfl) (by rw [hR]; exact ⟨Nat.le_of_ble_eq_true rfl, Nat.le_of_ble_eq_true rfl⟩) (fun u H locs q25 hP hD hS => ?_)
        obtain ⟨F1_25, rfl⟩ : ∃ q, q = u := ⟨_, rfl⟩
        have q25 : FRok F1_25 ∧ (∀ k : Int, k ≠ o → F1_25 k = G k) ∧ (∀ s : Int, 0 ≤ s → s ≤ 298 → (cwp F1_25 o s ↔ RC (cnt b n) w (o + 1).toNat s)) := q25
        obtain ⟨q25_0, q25_1, q25_2⟩ := q25
        have hP : va_P g vwCl [(hq, oB 4 [.ref hf, .ref hk, vI wt]), (hf, aQ ca 5 rw), (ra 0, aI ca 299 (F1_25 0)), (ra 1, aI ca 299 (F1_25 1)), (ra 2, aI ca 299 (F1_25 2)), (ra 3, aI ca 299 (F1_25 3)), (ra 4, aI ca 299 (F1_25 4)), (hk, aI ca 5 T), (h0, oB 6 [.ref h1, vI n, vJ lm]), (h1, aJ ca 605 b), (hL, oB 2 [.ref hw, .ref he, .ref hdn, .ref hdw, vI du, vI hv, vI mo, vI oft, vI la, vI pA, vI pB]), (hw, aI ca 5 w)] H := hP.sub [5, 6, 7, 8, 9, 10, 11, 0, 1, 2, 3, 4] rfl
        have hD : va_D A [(hq, oB 4 [.ref hf, .ref hk, vI wt]), (hf, aQ ca 5 rw), (ra 0, aI ca 299 (F1_25 0)), (ra 1, aI ca 299 (F1_25 1)), (ra 2, aI ca 299 (F1_25 2)), (ra 3, aI ca 299 (F1_25 3)), (ra 4, aI ca 299 (F1_25 4)), (hk, aI ca 5 T), (h0, oB 6 [.ref h1, vI n, vJ lm]), (h1, aJ ca 605 b), (hL, oB 2 [.ref hw, .ref he, .ref hdn, .ref hdw, vI du, vI hv, vI mo, vI oft, vI la, vI pA, vI pB]), (hw, aI ca 5 w)] := hD.sub [5, 6, 7, 8, 9, 10, 11, 0, 1, 2, 3, 4] (by decide) rfl
        obtain ⟨z28, e28⟩ : ∃ q : Int, q = o + 1 := ⟨_, rfl⟩
        refine ri_inc (lv' := [(4, vI z28), (0, .ref hq), (1, .ref h0), (2, .ref hL), (3, vI w0)]) hx hb dX4_find_28 hl (k := 0) rfl (by decide) z28 e28 rfl (fun ls hl => ?_)
        refine lv_goto (tgt := 3) hx hb dX4_find_31 (by decide) ?_
        exact ih3 z28 F1_25 (by first | assumption | omega) (by exact q25_0) (by
              intro k s h1 h2 h3 h4
              by_cases q : k = o
              · rw [q]; exact q25_2 s h3 h4
              · rw [show cwp F1_25 k s = cwp G k s by unfold cwp; rw [q25_1 k q]]
                exact hGr k s h1 (by omega) h3 h4) (by omega) _ _ hP hD hS ls (lv_sub hl [0, 1, 2, 3, 4] rfl)
  exact L3 _ 0 F (by first | assumption | omega) (by exact hF) (by intro k s h1 h2; omega) (Nat.lt_succ_self _) _ _ hP hD hS ls (lv_sub hl [0, 1, 2, 3, 4] rfl)
