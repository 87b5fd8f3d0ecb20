theorem pdi_rng {w dn dw : Int → Int} {nt du : Int} (hd : du ≤ 6) : ∀ (k : Nat) (i : Int) (b : Int → Int) (lt : Int), 0 ≤ i → i + k ≤ du → (-9 ≤ (pdi w dn dw nt k i b lt).1 ∧ (pdi w dn dw nt k i b lt).1 ≤ 200)
  | 0, i, b, lt, h0, h1 => by show (-9 : Int) ≤ -9 ∧ (-9 : Int) ≤ 200; omega
  | k + 1, i, b, lt, h0, h1 => by
    by_cases q : dn i = nt
    · by_cases q2 : canP (cnt b nt) w (dw i)
      · rw [pdi_p q q2]; exact pdi_rng hd k (i + 1) _ _ (by omega) (by omega)
      · rw [pdi_n q q2]; show -9 ≤ i ∧ i ≤ 200; omega
    · rw [pdi_o q]; exact pdi_rng hd k (i + 1) _ _ (by omega) (by omega)
theorem pds_rng {w ea dn dw : Int → Int} {mo du : Int} (hd : 0 ≤ du ∧ du ≤ 6) : ∀ (k : Nat) (nt : Int) (b : Int → Int) (lt : Int), (-9 ≤ (pds w ea dn dw mo du k nt b lt).1 ∧ (pds w ea dn dw mo du k nt b lt).1 ≤ 200)
  | 0, nt, b, lt => by show (-9 : Int) ≤ -9 ∧ (-9 : Int) ≤ 200; omega
  | k + 1, nt, b, lt => by
    by_cases q : (pdi w dn dw (nt + 1) du.toNat 0 (gs w ea mo (nt + 1) b 4).1 lt).1 = -9
    · rw [pds_s q]; exact pds_rng hd k (nt + 1) _ _
    · rw [pds_f q]; exact pdi_rng hd.2 _ 0 _ _ (by omega) (by omega)
theorem sm_cnt {b : Int → Int} {n o : Int} (h : GB b n) (h0 : 0 ≤ o) (h4 : o ≤ 4) : cnt b n o ≤ tot b n := by
  have c0 := cnt_bd h (o := 0) (by omega) (by omega)
  have c1 := cnt_bd h (o := 1) (by omega) (by omega)
  have c2 := cnt_bd h (o := 2) (by omega) (by omega)
  have c3 := cnt_bd h (o := 3) (by omega) (by omega)
  have c4 := cnt_bd h (o := 4) (by omega) (by omega)
  have e : tot b n = 0 + cnt b n (0 + ((0 : Nat) : Int)) + cnt b n (0 + ((1 : Nat) : Int)) + cnt b n (0 + ((2 : Nat) : Int)) + cnt b n (0 + ((3 : Nat) : Int)) + cnt b n (0 + ((4 : Nat) : Int)) := rfl
  simp only [show (0 : Int) + ((0 : Nat) : Int) = 0 from rfl, show (0 : Int) + ((1 : Nat) : Int) = 1 from rfl, show (0 : Int) + ((2 : Nat) : Int) = 2 from rfl, show (0 : Int) + ((3 : Nat) : Int) = 3 from rfl, show (0 : Int) + ((4 : Nat) : Int) = 4 from rfl] at e
  rcases (show o = 0 ∨ o = 1 ∨ o = 2 ∨ o = 3 ∨ o = 4 by omega) with rfl | rfl | rfl | rfl | rfl <;> omega
set_option maxHeartbeats 4000000 in
set_option maxRecDepth 100000 in
theorem k_X8_age (l : Launch) (g : va_G) (ca : Nat → ClassId) (hm : Nat) (m0 : Nat) (m2 : Nat) (m3 : Nat) (m8 : Nat) (m9 : Nat) (m11 : Nat) (m12 : Nat) (m14 : Nat) (m19 : Nat) (m21 : Nat) (m22 : Nat) (m25 : Nat) (m26 : Nat) (un : Int) (mo : Int) (oft : Int) (la : Int) (du : Int) (to : Int) (tr : Int) (n : Int) (at0 : Int) (sa : Int) (vv : Int) (rdu : Int) (se : Int) (its : Int) (lt0 : Int) (w : Int → Int) (x : Int) (hW : GW w) (hx0 : in32 x) : zI (S := Unit) l yX8_age wsX8_age ({ frames := 1, cells := 0, slots := 0, locals := 25 } : Room) g ca [.ref hm, vI x] [(hm, oB 8 [.ref m0, vI un, .ref m2, .ref m3, vI mo, vI oft, vI la, vI du, .ref m8, .ref m9, vI to, .ref m11, .ref m12, vJ tr, .ref m14, vI n, vI at0, vI sa, vI vv, .ref m19, vI rdu, .ref m21, .ref m22, vI se, vI its, .ref m25, .ref m26, vJ lt0]), (m3, aI ca 5 w)] (fun (z : Int) (u : Unit) => z = agv w x) (fun (u : Unit) => [(hm, oB 8 [.ref m0, vI un, .ref m2, .ref m3, vI mo, vI oft, vI la, vI du, .ref m8, .ref m9, vI to, .ref m11, .ref m12, vJ tr, .ref m14, vI n, vI at0, vI sa, vI vv, .ref m19, vI rdu, .ref m21, .ref m22, vI se, vI its, .ref m25, .ref m26, vJ lt0]), (m3, aI ca 5 w)]) 0 0 := by
  refine zm_I (cc := cX8_age) (maxL := 4) (ret := some .int) (by decide) rfl (Nat.le_of_ble_eq_true rfl) ?_
  intro p e s m below meth c A ls R args Q hR hargs hQ hx hb hml hr hts hown hlk hnm hK hP hD hA hS hl
  have hown : s.vm.findClass RX8 = some m.cls := hown
  have hl : lv_has ls 4 [(0, .ref hm), (1, vI x)] := hl
  have lk_c224 : (Cond.constantLong RX8 224 (99)).before args s = true := hts _ (by decide +kernel)
  have lk_f17 : (Cond.fieldLink RX8 17 "DripRingsModel" "weights" "[I").before args s = true := hts _ (by decide +kernel)
  have inF_X8 : ∀ w ∈ wsX80, w ∈ wsX8_age := by decide +kernel
  refine lv_iload_n hx hb dX8_age_0 rfl (lv_at hl 1 rfl) ?_
  refine ri_l hx hb dX8_age_1 hx0 ?_
  refine lv_lconst (v := Int64.ofInt 1) hx hb dX8_age_2 (by decide) ?_
  refine rj_ldc (z := 99) hx hb hown lk_c224 dX8_age_3 (by decide) ?_
  refine zc_SI (As := [vJ x, vJ 1, vJ 99]) (rest := []) (wc := []) (wr := [(hm, oB 8 [.ref m0, vI un, .ref m2, .ref m3, vI mo, vI oft, vI la, vI du, .ref m8, .ref m9, vI to, .ref m11, .ref m12, vJ tr, .ref m14, vI n, vI at0, vI sa, vI vv, .ref m19, vI rdu, .ref m21, .ref m22, vI se, vI its, .ref m25, .ref m26, vJ lt0]), (m3, aI ca 5 w)]) (k_X8_in l g ca x 1 99 (by exact ⟨by omega, by omega⟩) (by exact ⟨by omega, by omega⟩) (by exact ⟨by omega, by omega⟩)) dX8_age_6 (va_cwS 3 hts gX8_age_X8_in rfl rfl rfl (by decide +kernel) (by rw [hR]; exact ⟨Nat.le_of_ble_eq_true rfl, Nat.le_of_ble_eq_true rfl⟩)) ⟨hx, hb, hml, hown, hts⟩ hl.1 hK hP hD hS hA [] [0, 1] rfl (by decide) rfl (by decide) (by decide) rfl rfl (Nat.le_of_ble_eq_true rfl) (by rw [hR]; exact ⟨Nat.le_of_ble_eq_true rfl, Nat.le_of_ble_eq_true rfl⟩) (fun z6 u H locs q6 hP hD hS => ?_)
  have q6 : (z6 = 1 ∧ 1 ≤ x ∧ x ≤ 99) ∨ (z6 = 0 ∧ ¬ (1 ≤ x ∧ x ≤ 99)) := q6
  have hP : va_P g vwCl [(hm, oB 8 [.ref m0, vI un, .ref m2, .ref m3, vI mo, vI oft, vI la, vI du, .ref m8, .ref m9, vI to, .ref m11, .ref m12, vJ tr, .ref m14, vI n, vI at0, vI sa, vI vv, .ref m19, vI rdu, .ref m21, .ref m22, vI se, vI its, .ref m25, .ref m26, vJ lt0]), (m3, aI ca 5 w)] H := hP.sub [0, 1] rfl
  have hD : va_D A [(hm, oB 8 [.ref m0, vI un, .ref m2, .ref m3, vI mo, vI oft, vI la, vI du, .ref m8, .ref m9, vI to, .ref m11, .ref m12, vJ tr, .ref m14, vI n, vI at0, vI sa, vI vv, .ref m19, vI rdu, .ref m21, .ref m22, vI se, vI its, .ref m25, .ref m26, vJ lt0]), (m3, aI ca 5 w)] := hD.sub [0, 1] (by decide) rfl
  refine ri_if_ne (tgt := 14) hx hb dX8_age_9 (by decide) ⟨by omega, by omega⟩ (fun c9 => ?_) (fun c9 => ?_)
  · skip
    refine lv_iconst (v := Int32.ofInt 0) hx hb dX8_age_14 rfl ?_
    refine lv_istore_n (lv' := [(2, vI 0), (0, .ref hm), (1, vI x)]) hx hb dX8_age_15 rfl hl (by decide) rfl (fun ls hl => ?_)
    refine lv_iconst (v := Int32.ofInt 0) hx hb dX8_age_16 rfl ?_
    refine lv_istore_n (lv' := [(3, vI 0), (2, vI 0), (0, .ref hm), (1, vI x)]) hx hb dX8_age_17 rfl hl (by decide) rfl (fun ls hl => ?_)
    have L18 : ∀ (N18 : Nat) (o : Int) (y : Int) (hi : 0 ≤ o ∧ o ≤ 5) (hy : y = agf w x o.toNat) (hμ : (5 - o).toNat < N18) (H : Heap) (locs : List Loc) (hP : va_P g vwCl [(hm, oB 8 [.ref m0, vI un, .ref m2, .ref m3, vI mo, vI oft, vI la, vI du, .ref m8, .ref m9, vI to, .ref m11, .ref m12, vJ tr, .ref m14, vI n, vI at0, vI sa, vI vv, .ref m19, vI rdu, .ref m21, .ref m22, vI se, vI its, .ref m25, .ref m26, vJ lt0]), (m3, aI ca 5 w)] H) (hD : va_D A [(hm, oB 8 [.ref m0, vI un, .ref m2, .ref m3, vI mo, vI oft, vI la, vI du, .ref m8, .ref m9, vI to, .ref m11, .ref m12, vJ tr, .ref m14, vI n, vI at0, vI sa, vI vv, .ref m19, vI rdu, .ref m21, .ref m22, vI se, vI its, .ref m25, .ref m26, vJ lt0]), (m3, aI ca 5 w)]) (hS : va_S A s.heap H locs) (ls : Array Slot) (hl : lv_has ls 4 [(3, vI o), (2, vI y), (0, .ref hm), (1, vI x)]), W p l e R s m args below meth c H locs 0 0 Q (F0 m 18 ls []) := by
      intro N18; induction N18 with
      | zero => intro o y hi hy hμ; exact absurd hμ (Nat.not_lt_zero _)
      | succ N18 ih18 =>
        intro o y hi hy hμ H locs hP hD hS ls hl
        refine lv_iload_n hx hb dX8_age_18 rfl (lv_at hl 0 rfl) ?_
        refine lv_iconst (v := Int32.ofInt 5) hx hb dX8_age_19 rfl ?_
        refine ri_icmp_ge (tgt := 49) hx hb dX8_age_20 (by decide) ⟨by omega, by omega⟩ ⟨by omega, by omega⟩ (fun c20 => ?_) (fun c20 => ?_)
        · skip
          refine lv_iload_n hx hb dX8_age_49 rfl (lv_at hl 1 rfl) ?_
          refine zr_I hx hb hr hlk hQ () hP hD hS dX8_age_50 (Nat.le_of_ble_eq_true rfl) (Nat.le_of_ble_eq_true rfl) ?_
          show y = agv w x
          unfold agv
          first
          | (rw [if_neg (by omega)])
          | (rw [if_pos (by omega), hy, show o = 5 by omega]; rfl)
        · skip
          have hyb := agf_bd w x o.toNat
          have hpw : (2 ^ o.toNat : Nat) ≤ 16 := by
            rcases (show o = 0 ∨ o = 1 ∨ o = 2 ∨ o = 3 ∨ o = 4 by omega) with rfl | rfl | rfl | rfl | rfl <;> decide
          have hyb2 : 0 ≤ y ∧ y ≤ 16 := by rw [hy]; omega
          refine lv_iload_n hx hb dX8_age_23 rfl (lv_at hl 1 rfl) ?_
          refine lv_aload_n hx hb dX8_age_24 rfl (lv_at hl 2 rfl) ?_
          refine va_get (D := g) (ci := 8) (v := .ref m3) (C := RX8) (T := TX8) (N := 28) hx hb hts inF_X8 hown hK.1 hP 0 rfl rfl 3 (by decide) lk_f17 (fun _ h9 => h9) rfl dX8_age_25 ?_
          have hw28 := hW o (by omega) (by omega)
          refine lv_iload_n hx hb dX8_age_28 rfl (lv_at hl 0 rfl) ?_
          refine ra_ild hx hb hK hP 1 rfl dX8_age_29 ⟨by omega, by omega⟩ (by omega) ?_
          refine lv_iload_n hx hb dX8_age_30 rfl (lv_at hl 3 rfl) ?_
          refine ri_icmp_ne (tgt := 40) hx hb dX8_age_31 (by decide) ⟨by omega, by omega⟩ hx0 (fun c31 => ?_) (fun c31 => ?_)
          · skip
            refine lv_iconst (v := Int32.ofInt 0) hx hb dX8_age_40 rfl ?_
            refine ri_or hx hb dX8_age_41 ⟨by omega, by omega⟩ (by omega) (fun z41 e41 => ?_)
            refine lv_istore_n (lv' := [(2, vI z41), (3, vI o), (0, .ref hm), (1, vI x)]) hx hb dX8_age_42 rfl hl (by decide) rfl (fun ls hl => ?_)
            obtain ⟨z43, e43⟩ : ∃ q : Int, q = o + 1 := ⟨_, rfl⟩
            refine ri_inc (lv' := [(3, vI z43), (2, vI z41), (0, .ref hm), (1, vI x)]) hx hb dX8_age_43 hl (k := 1) rfl (by decide) z43 e43 rfl (fun ls hl => ?_)
            refine lv_goto (tgt := 18) hx hb dX8_age_46 (by decide) ?_
            exact ih18 z43 z41 (by first | assumption | omega) (by
                  obtain ⟨k9, rfl⟩ : ∃ k9 : Nat, o = k9 := ⟨o.toNat, by omega⟩
                  rw [e43, show ((k9 : Int) + 1).toNat = k9 + 1 by omega]
                  rw [show ((k9 : Int)).toNat = k9 by omega] at hy
                  show _ = if w k9 = x then _ else agf w x k9
                  first
                  | (rw [if_pos (by omega), e41, e36, hy, show ((k9 : Int)).toNat = k9 by omega])
                  | (rw [if_neg (by omega), e41, hy]; simp; omega)) (by omega) _ _ hP hD hS ls (lv_sub hl [0, 1, 2, 3] rfl)
          · skip
            refine lv_iconst (v := Int32.ofInt 1) hx hb dX8_age_34 rfl ?_
            refine lv_iload_n hx hb dX8_age_35 rfl (lv_at hl 0 rfl) ?_
            refine ri_shl1 hx hb dX8_age_36 (by omega) (fun z36 e36 => ?_)
            refine lv_goto (tgt := 41) hx hb dX8_age_37 (by decide) ?_
            refine ri_or hx hb dX8_age_41 ⟨by omega, by omega⟩ (by omega) (fun z41 e41 => ?_)
            refine lv_istore_n (lv' := [(2, vI z41), (3, vI o), (0, .ref hm), (1, vI x)]) hx hb dX8_age_42 rfl hl (by decide) rfl (fun ls hl => ?_)
            obtain ⟨z43, e43⟩ : ∃ q : Int, q = o + 1 := ⟨_, rfl⟩
            refine ri_inc (lv' := [(3, vI z43), (2, vI z41), (0, .ref hm), (1, vI x)]) hx hb dX8_age_43 hl (k := 1) rfl (by decide) z43 e43 rfl (fun ls hl => ?_)
            refine lv_goto (tgt := 18) hx hb dX8_age_46 (by decide) ?_
            exact ih18 z43 z41 (by first | assumption | omega) (by
                  obtain ⟨k9, rfl⟩ : ∃ k9 : Nat, o = k9 := ⟨o.toNat, by omega⟩
                  rw [e43, show ((k9 : Int) + 1).toNat = k9 + 1 by omega]
                  rw [show ((k9 : Int)).toNat = k9 by omega] at hy
                  show _ = if w k9 = x then _ else agf w x k9
                  first
                  | (rw [if_pos (by omega), e41, e36, hy, show ((k9 : Int)).toNat = k9 by omega])
                  | (rw [if_neg (by omega), e41, hy]; simp; omega)) (by omega) _ _ hP hD hS ls (lv_sub hl [0, 1, 2, 3] rfl)
    exact L18 _ 0 0 (by first | assumption | omega) (by rfl) (Nat.lt_succ_self _) _ _ hP hD hS ls (lv_sub hl [0, 1, 2, 3] rfl)
  · skip
    refine lv_iconst (v := Int32.ofInt (-1)) hx hb dX8_age_12 rfl ?_
    refine zr_I hx hb hr hlk hQ () hP hD hS dX8_age_13 (Nat.le_of_ble_eq_true rfl) (Nat.le_of_ble_eq_true rfl) ?_
    show (-1) = agv w x
    unfold agv
    first
    | (rw [if_neg (by omega)])
    | (rw [if_pos (by omega), hy, show o = 5 by omega]; rfl)
set_option maxHeartbeats 4000000 in
set_option maxRecDepth 100000 in
theorem k_X8_mayBe (l : Launch) (g : va_G) (ca : Nat → ClassId) (hm : Nat) (m0 : Nat) (m2 : Nat) (m3 : Nat) (m8 : Nat) (m9 : Nat) (m11 : Nat) (m12 : Nat) (m14 : Nat) (m19 : Nat) (m21 : Nat) (m22 : Nat) (m25 : Nat) (m26 : Nat) (un : Int) (mo : Int) (oft : Int) (la : Int) (du : Int) (to : Int) (tr : Int) (n : Int) (at0 : Int) (sa : Int) (vv : Int) (rdu : Int) (se : Int) (its : Int) (lt0 : Int) (d : Int → Int) (w : Int → Int) (go : Int → Int) (gn : Int → Int) (x : Int) (hW : GW w) (hE : EAok (ef oft la)) (hM : 1 ≤ mo ∧ mo ≤ 9) (hG : GRok go gn to) (hx0 : in32 x) : zI (S := (Int → Int)) l yX8_mayBe wsX8_mayBe ({ frames := 2, cells := 0, slots := 0, locals := 49 } : Room) g ca [.ref hm, vI x] [(hm, oB 8 [.ref m0, vI un, .ref m2, .ref m3, vI mo, vI oft, vI la, vI du, .ref m8, .ref m9, vI to, .ref m11, .ref m12, vJ tr, .ref m14, vI n, vI at0, vI sa, vI vv, .ref m19, vI rdu, .ref m21, .ref m22, vI se, vI its, .ref m25, .ref m26, vJ lt0]), (m0, aJ ca 7284 d), (m3, aI ca 5 w), (m11, aI ca 5 go), (m12, aI ca 5 gn)] (fun (z : Int) (u : (Int → Int)) => z = mbv w (ef oft la) mo go gn to x ∧ FRM d u 607) (fun (u : (Int → Int)) => [(hm, oB 8 [.ref m0, vI un, .ref m2, .ref m3, vI mo, vI oft, vI la, vI du, .ref m8, .ref m9, vI to, .ref m11, .ref m12, vJ tr, .ref m14, vI n, vI at0, vI sa, vI vv, .ref m19, vI rdu, .ref m21, .ref m22, vI se, vI its, .ref m25, .ref m26, vJ lt0]), (m0, aJ ca 7284 u), (m3, aI ca 5 w), (m11, aI ca 5 go), (m12, aI ca 5 gn)]) 0 0 := by
  refine zm_I (cc := cX8_mayBe) (maxL := 6) (ret := some .int) (by decide) rfl (Nat.le_of_ble_eq_true rfl) ?_
  intro p e s m below meth c A ls R args Q hR hargs hQ hx hb hml hr hts hown hlk hnm hK hP hD hA hS hl
  have hown : s.vm.findClass RX8 = some m.cls := hown
  have hl : lv_has ls 6 [(0, .ref hm), (1, vI x)] := hl
  have lk_c226 : (Cond.constantLong RX8 226 (2)).before args s = true := hts _ (by decide +kernel)
  refine lv_iload_n hx hb dX8_mayBe_0 rfl (lv_at hl 1 rfl) ?_
  refine ri_l hx hb dX8_mayBe_1 hx0 ?_
  refine lv_lconst (v := Int64.ofInt 0) hx hb dX8_mayBe_2 (by decide) ?_
  refine rj_ldc (z := 2) hx hb hown lk_c226 dX8_mayBe_3 (by decide) ?_
  refine zc_SI (As := [vJ x, vJ 0, vJ 2]) (rest := []) (wc := []) (wr := [(hm, oB 8 [.ref m0, vI un, .ref m2, .ref m3, vI mo, vI oft, vI la, vI du, .ref m8, .ref m9, vI to, .ref m11, .ref m12, vJ tr, .ref m14, vI n, vI at0, vI sa, vI vv, .ref m19, vI rdu, .ref m21, .ref m22, vI se, vI its, .ref m25, .ref m26, vJ lt0]), (m0, aJ ca 7284 d), (m3, aI ca 5 w), (m11, aI ca 5 go), (m12, aI ca 5 gn)]) (k_X8_in l g ca x 0 2 (by exact ⟨by omega, by omega⟩) (by exact ⟨by omega, by omega⟩) (by exact ⟨by omega, by omega⟩)) dX8_mayBe_6 (va_cwS 3 hts gX8_mayBe_X8_in rfl rfl rfl (by decide +kernel) (by rw [hR]; exact ⟨Nat.le_of_ble_eq_true rfl, Nat.le_of_ble_eq_true rfl⟩)) ⟨hx, hb, hml, hown, hts⟩ hl.1 hK hP hD hS hA [] [0, 1, 2, 3, 4] rfl (by decide) rfl (by decide) (by decide) rfl rfl (Nat.le_of_ble_eq_true rfl) (by rw [hR]; exact ⟨Nat.le_of_ble_eq_true rfl, Nat.le_of_ble_eq_true rfl⟩) (fun z6 u H locs q6 hP hD hS => ?_)
  have q6 : (z6 = 1 ∧ 0 ≤ x ∧ x ≤ 2) ∨ (z6 = 0 ∧ ¬ (0 ≤ x ∧ x ≤ 2)) := q6
  have hP : va_P g vwCl [(hm, oB 8 [.ref m0, vI un, .ref m2, .ref m3, vI mo, vI oft, vI la, vI du, .ref m8, .ref m9, vI to, .ref m11, .ref m12, vJ tr, .ref m14, vI n, vI at0, vI sa, vI vv, .ref m19, vI rdu, .ref m21, .ref m22, vI se, vI its, .ref m25, .ref m26, vJ lt0]), (m0, aJ ca 7284 d), (m3, aI ca 5 w), (m11, aI ca 5 go), (m12, aI ca 5 gn)] H := hP.sub [0, 1, 2, 3, 4] rfl
  have hD : va_D A [(hm, oB 8 [.ref m0, vI un, .ref m2, .ref m3, vI mo, vI oft, vI la, vI du, .ref m8, .ref m9, vI to, .ref m11, .ref m12, vJ tr, .ref m14, vI n, vI at0, vI sa, vI vv, .ref m19, vI rdu, .ref m21, .ref m22, vI se, vI its, .ref m25, .ref m26, vJ lt0]), (m0, aJ ca 7284 d), (m3, aI ca 5 w), (m11, aI ca 5 go), (m12, aI ca 5 gn)] := hD.sub [0, 1, 2, 3, 4] (by decide) rfl
  refine ri_if_ne (tgt := 14) hx hb dX8_mayBe_9 (by decide) ⟨by omega, by omega⟩ (fun c9 => ?_) (fun c9 => ?_)
  · skip
    refine lv_aload_n hx hb dX8_mayBe_14 rfl (lv_at hl 0 rfl) ?_
    refine lv_sipush (v := Int32.ofInt 607) hx hb dX8_mayBe_15 (by decide) ?_
    refine zc_VV (As := [vI 607]) (rest := []) (wc := [(hm, oB 8 [.ref m0, vI un, .ref m2, .ref m3, vI mo, vI oft, vI la, vI du, .ref m8, .ref m9, vI to, .ref m11, .ref m12, vJ tr, .ref m14, vI n, vI at0, vI sa, vI vv, .ref m19, vI rdu, .ref m21, .ref m22, vI se, vI its, .ref m25, .ref m26, vJ lt0]), (m0, aJ ca 7284 d)]) (wr := [(m3, aI ca 5 w), (m11, aI ca 5 go), (m12, aI ca 5 gn)]) (k_X8_begins l g ca hm m0 m2 m3 m8 m9 m11 m12 m14 m19 m21 m22 m25 m26 un mo oft la du to tr n at0 sa vv rdu se its lt0 d 607 (by first | assumption | omega)) dX8_mayBe_18 (cwV 1 hts gX8_mayBe_X8_begins rfl rfl rfl (by decide +kernel) (by rw [hR]; exact ⟨Nat.le_of_ble_eq_true rfl, Nat.le_of_ble_eq_true rfl⟩)) ⟨hx, hb, hml, hown, hts⟩ hl.1 hK hP hD hS hA 0 rfl rfl rfl [0, 1] [2, 3, 4] rfl (by decide) rfl (by decide) (by decide) rfl rfl (Nat.le_of_ble_eq_true rfl) (by rw [hR]; exact ⟨Nat.le_of_ble_eq_true rfl, Nat.le_of_ble_eq_true rfl⟩) (fun u H locs q18 hP hD hS => ?_)
    obtain ⟨d1_18, rfl⟩ : ∃ q, q = u := ⟨_, rfl⟩
    have q18 : AT d1_18 607 bg 0 0 ∧ FRM d d1_18 607 := q18
    obtain ⟨q18_0, q18_1⟩ := q18
    have hP : va_P g vwCl [(hm, oB 8 [.ref m0, vI un, .ref m2, .ref m3, vI mo, vI oft, vI la, vI du, .ref m8, .ref m9, vI to, .ref m11, .ref m12, vJ tr, .ref m14, vI n, vI at0, vI sa, vI vv, .ref m19, vI rdu, .ref m21, .ref m22, vI se, vI its, .ref m25, .ref m26, vJ lt0]), (m0, aJ ca 7284 d1_18), (m3, aI ca 5 w), (m11, aI ca 5 go), (m12, aI ca 5 gn)] H := hP.sub [3, 4, 0, 1, 2] rfl
    have hD : va_D A [(hm, oB 8 [.ref m0, vI un, .ref m2, .ref m3, vI mo, vI oft, vI la, vI du, .ref m8, .ref m9, vI to, .ref m11, .ref m12, vJ tr, .ref m14, vI n, vI at0, vI sa, vI vv, .ref m19, vI rdu, .ref m21, .ref m22, vI se, vI its, .ref m25, .ref m26, vJ lt0]), (m0, aJ ca 7284 d1_18), (m3, aI ca 5 w), (m11, aI ca 5 go), (m12, aI ca 5 gn)] := hD.sub [3, 4, 0, 1, 2] (by decide) rfl
    refine lv_iconst (v := Int32.ofInt 0) hx hb dX8_mayBe_21 rfl ?_
    refine lv_istore_n (lv' := [(2, vI 0), (0, .ref hm), (1, vI x)]) hx hb dX8_mayBe_22 rfl hl (by decide) rfl (fun ls hl => ?_)
    refine lv_bipush (v := Int32.ofInt (-9)) hx hb dX8_mayBe_23 (by decide) ?_
    refine lv_istore_n (lv' := [(3, vI (-9)), (2, vI 0), (0, .ref hm), (1, vI x)]) hx hb dX8_mayBe_25 rfl hl (by decide) rfl (fun ls hl => ?_)
    refine lv_bipush (v := Int32.ofInt (-9)) hx hb dX8_mayBe_26 (by decide) ?_
    refine lv_istore (lv' := [(4, vI (-9)), (3, vI (-9)), (2, vI 0), (0, .ref hm), (1, vI x)]) hx hb dX8_mayBe_28 hl (by decide) rfl (fun ls hl => ?_)
    refine lv_iconst (v := Int32.ofInt 0) hx hb dX8_mayBe_30 rfl ?_
    refine lv_istore (lv' := [(5, vI 0), (4, vI (-9)), (3, vI (-9)), (2, vI 0), (0, .ref hm), (1, vI x)]) hx hb dX8_mayBe_31 hl (by decide) rfl (fun ls hl => ?_)
    have L33 : ∀ (N33 : Nat) (i : Int) (y : Int) (y1 : Int) (y2 : Int) (f : Int → Int) (hi : 0 ≤ i ∧ i ≤ 121) (hf : AT f 607 (gt w (ef oft la) mo 0 bg (if i < 121 then i else 120).toNat) (if i < 121 then i else 120) 0) (hfr : FRM d f 607) (hm3 : mbf w (ef oft la) mo go gn to i.toNat = (y, y1, y2)) (hyb : 0 ≤ y ∧ y ≤ i ∧ -9 ≤ y1 ∧ y1 ≤ 120 ∧ -9 ≤ y2 ∧ y2 ≤ 120) (hμ : (121 - i).toNat < N33) (H : Heap) (locs : List Loc) (hP : va_P g vwCl [(hm, oB 8 [.ref m0, vI un, .ref m2, .ref m3, vI mo, vI oft, vI la, vI du, .ref m8, .ref m9, vI to, .ref m11, .ref m12, vJ tr, .ref m14, vI n, vI at0, vI sa, vI vv, .ref m19, vI rdu, .ref m21, .ref m22, vI se, vI its, .ref m25, .ref m26, vJ lt0]), (m0, aJ ca 7284 f), (m3, aI ca 5 w), (m11, aI ca 5 go), (m12, aI ca 5 gn)] H) (hD : va_D A [(hm, oB 8 [.ref m0, vI un, .ref m2, .ref m3, vI mo, vI oft, vI la, vI du, .ref m8, .ref m9, vI to, .ref m11, .ref m12, vJ tr, .ref m14, vI n, vI at0, vI sa, vI vv, .ref m19, vI rdu, .ref m21, .ref m22, vI se, vI its, .ref m25, .ref m26, vJ lt0]), (m0, aJ ca 7284 f), (m3, aI ca 5 w), (m11, aI ca 5 go), (m12, aI ca 5 gn)]) (hS : va_S A s.heap H locs) (ls : Array Slot) (hl : lv_has ls 6 [(5, vI i), (4, vI y2), (3, vI y1), (2, vI y), (0, .ref hm), (1, vI x)]), W p l e R s m args below meth c H locs 0 0 Q (F0 m 33 ls []) := by
      intro N33; induction N33 with
      | zero => intro i y y1 y2 f hi hf hfr hm3 hyb hμ; exact absurd hμ (Nat.not_lt_zero _)
      | succ N33 ih33 =>
        intro i y y1 y2 f hi hf hfr hm3 hyb hμ H locs hP hD hS ls hl
        refine lv_iload hx hb dX8_mayBe_33 (lv_at hl 0 rfl) ?_
        refine lv_bipush (v := Int32.ofInt 120) hx hb dX8_mayBe_35 (by decide) ?_
        refine ri_icmp_gt (tgt := 86) hx hb dX8_mayBe_37 (by decide) ⟨by omega, by omega⟩ ⟨by omega, by omega⟩ (fun c37 => ?_) (fun c37 => ?_)
        · skip
          refine lv_iload_n hx hb dX8_mayBe_86 rfl (lv_at hl 5 rfl) ?_
          refine ri_if_ne (tgt := 94) hx hb dX8_mayBe_87 (by decide) hx0 (fun c87 => ?_) (fun c87 => ?_)
          · skip
            refine lv_iload_n hx hb dX8_mayBe_94 rfl (lv_at hl 5 rfl) ?_
            refine lv_iconst (v := Int32.ofInt 1) hx hb dX8_mayBe_95 rfl ?_
            refine ri_icmp_ne (tgt := 103) hx hb dX8_mayBe_96 (by decide) hx0 ⟨by omega, by omega⟩ (fun c96 => ?_) (fun c96 => ?_)
            · skip
              refine lv_iload hx hb dX8_mayBe_103 (lv_at hl 1 rfl) ?_
              refine zr_I hx hb hr hlk hQ (f) hP hD hS dX8_mayBe_105 (Nat.le_of_ble_eq_true rfl) (Nat.le_of_ble_eq_true rfl) ?_
              show y2 = mbv w (ef oft la) mo go gn to x ∧ FRM d f 607
              unfold mbv
              first
              | exact ⟨by rw [if_neg (by omega), if_neg (by omega), if_neg (by omega)], FRM_rf⟩
              | (rw [show i = 121 by omega] at hm3
                 have hm4 : mbf w (ef oft la) mo go gn to 121 = (y, y1, y2) := hm3
                 rw [hm4]
                 first
                 | exact ⟨(if_pos (by omega)).symm, hfr⟩
                 | exact ⟨((if_neg (by omega)).trans (if_pos (by omega))).symm, hfr⟩
                 | exact ⟨((if_neg (by omega)).trans ((if_neg (by omega)).trans (if_pos (by omega)))).symm, hfr⟩)
            · skip
              refine lv_iload_n hx hb dX8_mayBe_99 rfl (lv_at hl 2 rfl) ?_
              refine lv_goto (tgt := 105) hx hb dX8_mayBe_100 (by decide) ?_
              refine zr_I hx hb hr hlk hQ (f) hP hD hS dX8_mayBe_105 (Nat.le_of_ble_eq_true rfl) (Nat.le_of_ble_eq_true rfl) ?_
              show y1 = mbv w (ef oft la) mo go gn to x ∧ FRM d f 607
              unfold mbv
              first
              | exact ⟨by rw [if_neg (by omega), if_neg (by omega), if_neg (by omega)], FRM_rf⟩
              | (rw [show i = 121 by omega] at hm3
                 have hm4 : mbf w (ef oft la) mo go gn to 121 = (y, y1, y2) := hm3
                 rw [hm4]
                 first
                 | exact ⟨(if_pos (by omega)).symm, hfr⟩
                 | exact ⟨((if_neg (by omega)).trans (if_pos (by omega))).symm, hfr⟩
                 | exact ⟨((if_neg (by omega)).trans ((if_neg (by omega)).trans (if_pos (by omega)))).symm, hfr⟩)
          · skip
            refine lv_iload_n hx hb dX8_mayBe_90 rfl (lv_at hl 3 rfl) ?_
            refine lv_goto (tgt := 105) hx hb dX8_mayBe_91 (by decide) ?_
            refine zr_I hx hb hr hlk hQ (f) hP hD hS dX8_mayBe_105 (Nat.le_of_ble_eq_true rfl) (Nat.le_of_ble_eq_true rfl) ?_
            show y = mbv w (ef oft la) mo go gn to x ∧ FRM d f 607
            unfold mbv
            first
            | exact ⟨by rw [if_neg (by omega), if_neg (by omega), if_neg (by omega)], FRM_rf⟩
            | (rw [show i = 121 by omega] at hm3
               have hm4 : mbf w (ef oft la) mo go gn to 121 = (y, y1, y2) := hm3
               rw [hm4]
               first
               | exact ⟨(if_pos (by omega)).symm, hfr⟩
               | exact ⟨((if_neg (by omega)).trans (if_pos (by omega))).symm, hfr⟩
               | exact ⟨((if_neg (by omega)).trans ((if_neg (by omega)).trans (if_pos (by omega)))).symm, hfr⟩)
        · skip
          have hif : (if i < 121 then i else 120) = i := by split <;> omega
          rw [hif] at hf
          have hGB2 := GB_gt (w := w) hE hM GB_bg i.toNat (by omega)
          rw [show (0 : Int) + (i.toNat : Int) = i by omega] at hGB2
          refine lv_aload_n hx hb dX8_mayBe_40 rfl (lv_at hl 4 rfl) ?_
          refine zc_VI (As := []) (rest := []) (wc := [(hm, oB 8 [.ref m0, vI un, .ref m2, .ref m3, vI mo, vI oft, vI la, vI du, .ref m8, .ref m9, vI to, .ref m11, .ref m12, vJ tr, .ref m14, vI n, vI at0, vI sa, vI vv, .ref m19, vI rdu, .ref m21, .ref m22, vI se, vI its, .ref m25, .ref m26, vJ lt0]), (m0, aJ ca 7284 f), (m11, aI ca 5 go), (m12, aI ca 5 gn)]) (wr := [(m3, aI ca 5 w)]) (k_X8_isSo l g ca hm m0 m2 m3 m8 m9 m11 m12 m14 m19 m21 m22 m25 m26 un mo oft la du to tr n at0 sa vv rdu se its lt0 f go gn (gt w (ef oft la) mo 0 bg i.toNat) i 0 (by exact hf) (by exact hGB2) (by first | assumption | omega)) dX8_mayBe_41 (cwV 0 hts gX8_mayBe_X8_isSo rfl rfl rfl (by decide +kernel) (by rw [hR]; exact ⟨Nat.le_of_ble_eq_true rfl, Nat.le_of_ble_eq_true rfl⟩)) ⟨hx, hb, hml, hown, hts⟩ hl.1 hK hP hD hS hA 0 rfl rfl rfl [0, 1, 3, 4] [2] rfl (by decide) rfl (by decide) (by decide) rfl rfl (Nat.le_of_ble_eq_true rfl) (by rw [hR]; exact ⟨Nat.le_of_ble_eq_true rfl, Nat.le_of_ble_eq_true rfl⟩) (fun z41 u H locs q41 hP hD hS => ?_)
          have q41 : (z41 = 1 ∧ grk (gt w (ef oft la) mo 0 bg i.toNat) i go gn to) ∨ (z41 = 0 ∧ ¬ grk (gt w (ef oft la) mo 0 bg i.toNat) i go gn to) := q41
          have hP : va_P g vwCl [(hm, oB 8 [.ref m0, vI un, .ref m2, .ref m3, vI mo, vI oft, vI la, vI du, .ref m8, .ref m9, vI to, .ref m11, .ref m12, vJ tr, .ref m14, vI n, vI at0, vI sa, vI vv, .ref m19, vI rdu, .ref m21, .ref m22, vI se, vI its, .ref m25, .ref m26, vJ lt0]), (m0, aJ ca 7284 f), (m3, aI ca 5 w), (m11, aI ca 5 go), (m12, aI ca 5 gn)] H := hP.sub [1, 2, 0, 3, 4] rfl
          have hD : va_D A [(hm, oB 8 [.ref m0, vI un, .ref m2, .ref m3, vI mo, vI oft, vI la, vI du, .ref m8, .ref m9, vI to, .ref m11, .ref m12, vJ tr, .ref m14, vI n, vI at0, vI sa, vI vv, .ref m19, vI rdu, .ref m21, .ref m22, vI se, vI its, .ref m25, .ref m26, vJ lt0]), (m0, aJ ca 7284 f), (m3, aI ca 5 w), (m11, aI ca 5 go), (m12, aI ca 5 gn)] := hD.sub [1, 2, 0, 3, 4] (by decide) rfl
          refine ri_if_eq (tgt := 65) hx hb dX8_mayBe_44 (by decide) ⟨by omega, by omega⟩ (fun c44 => ?_) (fun c44 => ?_)
          · skip
            have hgx : grk (gt w (ef oft la) mo 0 bg i.toNat) i go gn to ∨ ¬ grk (gt w (ef oft la) mo 0 bg i.toNat) i go gn to := by rcases q41 with q9 | q9; exact Or.inl q9.2; exact Or.inr q9.2
            refine lv_iload hx hb dX8_mayBe_65 (lv_at hl 0 rfl) ?_
            refine lv_bipush (v := Int32.ofInt 120) hx hb dX8_mayBe_67 (by decide) ?_
            refine ri_icmp_ge (tgt := 80) hx hb dX8_mayBe_69 (by decide) ⟨by omega, by omega⟩ ⟨by omega, by omega⟩ (fun c69 => ?_) (fun c69 => ?_)
            · skip
              obtain ⟨z80, e80⟩ : ∃ q : Int, q = i + 1 := ⟨_, rfl⟩
              refine ri_inc (lv' := [(5, vI z80), (4, vI y2), (3, vI y1), (2, vI y), (0, .ref hm), (1, vI x)]) hx hb dX8_mayBe_80 hl (k := 0) rfl (by decide) z80 e80 rfl (fun ls hl => ?_)
              refine lv_goto (tgt := 33) hx hb dX8_mayBe_83 (by decide) ?_
              exact ih33 z80 y y1 y2 f (by first | assumption | omega) (by
                    rw [e80]
                    first
                    | (rw [if_pos (by omega), gt_s _ _ _ _ _ (by omega), Int.zero_add]; exact q76_0)
                    | (rw [show (if i + 1 < 121 then i + 1 else 120) = i by split <;> omega]; exact hf)) (by first | exact FRM_tr hfr q76_1 | exact hfr) (by
                    rw [e80]
                    first
                    | (rw [mbf_y hi.1 hg0, hm3, e62]
                       first
                       | (rw [if_pos (by omega)]; done)
                       | (rw [if_neg (by omega)]; done))
                    | (rw [mbf_n hi.1 (by rcases q41 with q9 | q9; omega; exact q9.2)]; exact hm3)) (by first | assumption | omega) (by omega) _ _ hP hD hS ls (lv_sub hl [0, 1, 2, 3, 4, 5] rfl)
            · skip
              refine lv_aload_n hx hb dX8_mayBe_72 rfl (lv_at hl 4 rfl) ?_
              refine lv_sipush (v := Int32.ofInt 607) hx hb dX8_mayBe_73 (by decide) ?_
              refine zc_VJ (As := [vI 607]) (rest := []) (wc := [(hm, oB 8 [.ref m0, vI un, .ref m2, .ref m3, vI mo, vI oft, vI la, vI du, .ref m8, .ref m9, vI to, .ref m11, .ref m12, vJ tr, .ref m14, vI n, vI at0, vI sa, vI vv, .ref m19, vI rdu, .ref m21, .ref m22, vI se, vI its, .ref m25, .ref m26, vJ lt0]), (m0, aJ ca 7284 f), (m3, aI ca 5 w)]) (wr := [(m11, aI ca 5 go), (m12, aI ca 5 gn)]) (k_X8_goes l g ca hm m0 m2 m3 m8 m9 m11 m12 m14 m19 m21 m22 m25 m26 un mo oft la du to tr n at0 sa vv rdu se its lt0 f w 607 (gt w (ef oft la) mo 0 bg i.toNat) i 0 (by first | assumption | omega) (by exact hf) (by exact hGB2) (by first | assumption | omega) (by first | assumption | omega) (by first | assumption | omega) (by first | assumption | omega)) dX8_mayBe_76 (cwV 1 hts gX8_mayBe_X8_goes rfl rfl rfl (by decide +kernel) (by rw [hR]; exact ⟨Nat.le_of_ble_eq_true rfl, Nat.le_of_ble_eq_true rfl⟩)) ⟨hx, hb, hml, hown, hts⟩ hl.1 hK hP hD hS hA 0 rfl rfl rfl [0, 1, 2] [3, 4] rfl (by decide) rfl (by decide) (by decide) rfl rfl (Nat.le_of_ble_eq_true rfl) (by rw [hR]; exact ⟨Nat.le_of_ble_eq_true rfl, Nat.le_of_ble_eq_true rfl⟩) (fun z76 u H locs q76 hP hD hS => ?_)
              obtain ⟨d1_76, rfl⟩ : ∃ q, q = u := ⟨_, rfl⟩
              have q76 : AT d1_76 607 (gs w (ef oft la) mo (i + 1) (gt w (ef oft la) mo 0 bg i.toNat) 4).1 (i + 1) 0 ∧ FRM f d1_76 607 ∧ z76 = (gs w (ef oft la) mo (i + 1) (gt w (ef oft la) mo 0 bg i.toNat) 4).2 := q76
              obtain ⟨q76_0, q76_1, q76_2⟩ := q76
              have hP : va_P g vwCl [(hm, oB 8 [.ref m0, vI un, .ref m2, .ref m3, vI mo, vI oft, vI la, vI du, .ref m8, .ref m9, vI to, .ref m11, .ref m12, vJ tr, .ref m14, vI n, vI at0, vI sa, vI vv, .ref m19, vI rdu, .ref m21, .ref m22, vI se, vI its, .ref m25, .ref m26, vJ lt0]), (m0, aJ ca 7284 d1_76), (m3, aI ca 5 w), (m11, aI ca 5 go), (m12, aI ca 5 gn)] H := hP.sub [2, 3, 4, 0, 1] rfl
              have hD : va_D A [(hm, oB 8 [.ref m0, vI un, .ref m2, .ref m3, vI mo, vI oft, vI la, vI du, .ref m8, .ref m9, vI to, .ref m11, .ref m12, vJ tr, .ref m14, vI n, vI at0, vI sa, vI vv, .ref m19, vI rdu, .ref m21, .ref m22, vI se, vI its, .ref m25, .ref m26, vJ lt0]), (m0, aJ ca 7284 d1_76), (m3, aI ca 5 w), (m11, aI ca 5 go), (m12, aI ca 5 gn)] := hD.sub [2, 3, 4, 0, 1] (by decide) rfl
              refine lv_pop2_2 hx hb dX8_mayBe_79 rfl ?_
              obtain ⟨z80, e80⟩ : ∃ q : Int, q = i + 1 := ⟨_, rfl⟩
              refine ri_inc (lv' := [(5, vI z80), (4, vI y2), (3, vI y1), (2, vI y), (0, .ref hm), (1, vI x)]) hx hb dX8_mayBe_80 hl (k := 0) rfl (by decide) z80 e80 rfl (fun ls hl => ?_)
              refine lv_goto (tgt := 33) hx hb dX8_mayBe_83 (by decide) ?_
              exact ih33 z80 y y1 y2 d1_76 (by first | assumption | omega) (by
                    rw [e80]
                    first
                    | (rw [if_pos (by omega), gt_s _ _ _ _ _ (by omega), Int.zero_add]; exact q76_0)
                    | (rw [show (if i + 1 < 121 then i + 1 else 120) = i by split <;> omega]; exact hf)) (by first | exact FRM_tr hfr q76_1 | exact hfr) (by
                    rw [e80]
                    first
                    | (rw [mbf_y hi.1 hg0, hm3, e62]
                       first
                       | (rw [if_pos (by omega)]; done)
                       | (rw [if_neg (by omega)]; done))
                    | (rw [mbf_n hi.1 (by rcases q41 with q9 | q9; omega; exact q9.2)]; exact hm3)) (by first | assumption | omega) (by omega) _ _ hP hD hS ls (lv_sub hl [0, 1, 2, 3, 4, 5] rfl)
          · skip
            have hg0 : grk (gt w (ef oft la) mo 0 bg i.toNat) i go gn to := by rcases q41 with q9 | q9; exact q9.2; omega
            refine lv_iload_n hx hb dX8_mayBe_47 rfl (lv_at hl 3 rfl) ?_
            refine ri_if_ne (tgt := 56) hx hb dX8_mayBe_48 (by decide) ⟨by omega, by omega⟩ (fun c48 => ?_) (fun c48 => ?_)
            · skip
              refine lv_iload_n hx hb dX8_mayBe_56 rfl (lv_at hl 2 rfl) ?_
              refine lv_istore_n (lv' := [(3, vI y1), (5, vI i), (4, vI y2), (2, vI y), (0, .ref hm), (1, vI x)]) hx hb dX8_mayBe_57 rfl hl (by decide) rfl (fun ls hl => ?_)
              refine lv_iload hx hb dX8_mayBe_58 (lv_at hl 1 rfl) ?_
              refine lv_istore (lv' := [(4, vI i), (3, vI y1), (5, vI i), (2, vI y), (0, .ref hm), (1, vI x)]) hx hb dX8_mayBe_60 hl (by decide) rfl (fun ls hl => ?_)
              obtain ⟨z62, e62⟩ : ∃ q : Int, q = y + 1 := ⟨_, rfl⟩
              refine ri_inc (lv' := [(2, vI z62), (4, vI i), (3, vI y1), (5, vI i), (0, .ref hm), (1, vI x)]) hx hb dX8_mayBe_62 hl (k := 3) rfl (by decide) z62 e62 rfl (fun ls hl => ?_)
              have hgx : grk (gt w (ef oft la) mo 0 bg i.toNat) i go gn to ∨ ¬ grk (gt w (ef oft la) mo 0 bg i.toNat) i go gn to := by rcases q41 with q9 | q9; exact Or.inl q9.2; exact Or.inr q9.2
              refine lv_iload hx hb dX8_mayBe_65 (lv_at hl 3 rfl) ?_
              refine lv_bipush (v := Int32.ofInt 120) hx hb dX8_mayBe_67 (by decide) ?_
              refine ri_icmp_ge (tgt := 80) hx hb dX8_mayBe_69 (by decide) ⟨by omega, by omega⟩ ⟨by omega, by omega⟩ (fun c69 => ?_) (fun c69 => ?_)
              · skip
                obtain ⟨z80, e80⟩ : ∃ q : Int, q = i + 1 := ⟨_, rfl⟩
                refine ri_inc (lv' := [(5, vI z80), (2, vI z62), (4, vI i), (3, vI y1), (0, .ref hm), (1, vI x)]) hx hb dX8_mayBe_80 hl (k := 3) rfl (by decide) z80 e80 rfl (fun ls hl => ?_)
                refine lv_goto (tgt := 33) hx hb dX8_mayBe_83 (by decide) ?_
                exact ih33 z80 z62 y1 i f (by first | assumption | omega) (by
                      rw [e80]
                      first
                      | (rw [if_pos (by omega), gt_s _ _ _ _ _ (by omega), Int.zero_add]; exact q76_0)
                      | (rw [show (if i + 1 < 121 then i + 1 else 120) = i by split <;> omega]; exact hf)) (by first | exact FRM_tr hfr q76_1 | exact hfr) (by
                      rw [e80]
                      first
                      | (rw [mbf_y hi.1 hg0, hm3, e62]
                         first
                         | (rw [if_pos (by omega)]; done)
                         | (rw [if_neg (by omega)]; done))
                      | (rw [mbf_n hi.1 (by rcases q41 with q9 | q9; omega; exact q9.2)]; exact hm3)) (by first | assumption | omega) (by omega) _ _ hP hD hS ls (lv_sub hl [0, 2, 3, 1, 4, 5] rfl)
              · skip
                refine lv_aload_n hx hb dX8_mayBe_72 rfl (lv_at hl 4 rfl) ?_
                refine lv_sipush (v := Int32.ofInt 607) hx hb dX8_mayBe_73 (by decide) ?_
                refine zc_VJ (As := [vI 607]) (rest := []) (wc := [(hm, oB 8 [.ref m0, vI un, .ref m2, .ref m3, vI mo, vI oft, vI la, vI du, .ref m8, .ref m9, vI to, .ref m11, .ref m12, vJ tr, .ref m14, vI n, vI at0, vI sa, vI vv, .ref m19, vI rdu, .ref m21, .ref m22, vI se, vI its, .ref m25, .ref m26, vJ lt0]), (m0, aJ ca 7284 f), (m3, aI ca 5 w)]) (wr := [(m11, aI ca 5 go), (m12, aI ca 5 gn)]) (k_X8_goes l g ca hm m0 m2 m3 m8 m9 m11 m12 m14 m19 m21 m22 m25 m26 un mo oft la du to tr n at0 sa vv rdu se its lt0 f w 607 (gt w (ef oft la) mo 0 bg i.toNat) i 0 (by first | assumption | omega) (by exact hf) (by exact hGB2) (by first | assumption | omega) (by first | assumption | omega) (by first | assumption | omega) (by first | assumption | omega)) dX8_mayBe_76 (cwV 1 hts gX8_mayBe_X8_goes rfl rfl rfl (by decide +kernel) (by rw [hR]; exact ⟨Nat.le_of_ble_eq_true rfl, Nat.le_of_ble_eq_true rfl⟩)) ⟨hx, hb, hml, hown, hts⟩ hl.1 hK hP hD hS hA 0 rfl rfl rfl [0, 1, 2] [3, 4] rfl (by decide) rfl (by decide) (by decide) rfl rfl (Nat.le_of_ble_eq_true rfl) (by rw [hR]; exact ⟨Nat.le_of_ble_eq_true rfl, Nat.le_of_ble_eq_true rfl⟩) (fun z76 u H locs q76 hP hD hS => ?_)
                obtain ⟨d1_76, rfl⟩ : ∃ q, q = u := ⟨_, rfl⟩
                have q76 : AT d1_76 607 (gs w (ef oft la) mo (i + 1) (gt w (ef oft la) mo 0 bg i.toNat) 4).1 (i + 1) 0 ∧ FRM f d1_76 607 ∧ z76 = (gs w (ef oft la) mo (i + 1) (gt w (ef oft la) mo 0 bg i.toNat) 4).2 := q76
                obtain ⟨q76_0, q76_1, q76_2⟩ := q76
                have hP : va_P g vwCl [(hm, oB 8 [.ref m0, vI un, .ref m2, .ref m3, vI mo, vI oft, vI la, vI du, .ref m8, .ref m9, vI to, .ref m11, .ref m12, vJ tr, .ref m14, vI n, vI at0, vI sa, vI vv, .ref m19, vI rdu, .ref m21, .ref m22, vI se, vI its, .ref m25, .ref m26, vJ lt0]), (m0, aJ ca 7284 d1_76), (m3, aI ca 5 w), (m11, aI ca 5 go), (m12, aI ca 5 gn)] H := hP.sub [2, 3, 4, 0, 1] rfl
                have hD : va_D A [(hm, oB 8 [.ref m0, vI un, .ref m2, .ref m3, vI mo, vI oft, vI la, vI du, .ref m8, .ref m9, vI to, .ref m11, .ref m12, vJ tr, .ref m14, vI n, vI at0, vI sa, vI vv, .ref m19, vI rdu, .ref m21, .ref m22, vI se, vI its, .ref m25, .ref m26, vJ lt0]), (m0, aJ ca 7284 d1_76), (m3, aI ca 5 w), (m11, aI ca 5 go), (m12, aI ca 5 gn)] := hD.sub [2, 3, 4, 0, 1] (by decide) rfl
                refine lv_pop2_2 hx hb dX8_mayBe_79 rfl ?_
                obtain ⟨z80, e80⟩ : ∃ q : Int, q = i + 1 := ⟨_, rfl⟩
                refine ri_inc (lv' := [(5, vI z80), (2, vI z62), (4, vI i), (3, vI y1), (0, .ref hm), (1, vI x)]) hx hb dX8_mayBe_80 hl (k := 3) rfl (by decide) z80 e80 rfl (fun ls hl => ?_)
                refine lv_goto (tgt := 33) hx hb dX8_mayBe_83 (by decide) ?_
                exact ih33 z80 z62 y1 i d1_76 (by first | assumption | omega) (by
                      rw [e80]
                      first
                      | (rw [if_pos (by omega), gt_s _ _ _ _ _ (by omega), Int.zero_add]; exact q76_0)
                      | (rw [show (if i + 1 < 121 then i + 1 else 120) = i by split <;> omega]; exact hf)) (by first | exact FRM_tr hfr q76_1 | exact hfr) (by
                      rw [e80]
                      first
                      | (rw [mbf_y hi.1 hg0, hm3, e62]
                         first
                         | (rw [if_pos (by omega)]; done)
                         | (rw [if_neg (by omega)]; done))
                      | (rw [mbf_n hi.1 (by rcases q41 with q9 | q9; omega; exact q9.2)]; exact hm3)) (by first | assumption | omega) (by omega) _ _ hP hD hS ls (lv_sub hl [0, 2, 3, 1, 4, 5] rfl)
            · skip
              refine lv_iload hx hb dX8_mayBe_51 (lv_at hl 0 rfl) ?_
              refine lv_goto (tgt := 57) hx hb dX8_mayBe_53 (by decide) ?_
              refine lv_istore_n (lv' := [(3, vI i), (5, vI i), (4, vI y2), (2, vI y), (0, .ref hm), (1, vI x)]) hx hb dX8_mayBe_57 rfl hl (by decide) rfl (fun ls hl => ?_)
              refine lv_iload hx hb dX8_mayBe_58 (lv_at hl 1 rfl) ?_
              refine lv_istore (lv' := [(4, vI i), (3, vI i), (5, vI i), (2, vI y), (0, .ref hm), (1, vI x)]) hx hb dX8_mayBe_60 hl (by decide) rfl (fun ls hl => ?_)
              obtain ⟨z62, e62⟩ : ∃ q : Int, q = y + 1 := ⟨_, rfl⟩
              refine ri_inc (lv' := [(2, vI z62), (4, vI i), (3, vI i), (5, vI i), (0, .ref hm), (1, vI x)]) hx hb dX8_mayBe_62 hl (k := 3) rfl (by decide) z62 e62 rfl (fun ls hl => ?_)
              have hgx : grk (gt w (ef oft la) mo 0 bg i.toNat) i go gn to ∨ ¬ grk (gt w (ef oft la) mo 0 bg i.toNat) i go gn to := by rcases q41 with q9 | q9; exact Or.inl q9.2; exact Or.inr q9.2
              refine lv_iload hx hb dX8_mayBe_65 (lv_at hl 3 rfl) ?_
              refine lv_bipush (v := Int32.ofInt 120) hx hb dX8_mayBe_67 (by decide) ?_
              refine ri_icmp_ge (tgt := 80) hx hb dX8_mayBe_69 (by decide) ⟨by omega, by omega⟩ ⟨by omega, by omega⟩ (fun c69 => ?_) (fun c69 => ?_)
              · skip
                obtain ⟨z80, e80⟩ : ∃ q : Int, q = i + 1 := ⟨_, rfl⟩
                refine ri_inc (lv' := [(5, vI z80), (2, vI z62), (4, vI i), (3, vI i), (0, .ref hm), (1, vI x)]) hx hb dX8_mayBe_80 hl (k := 3) rfl (by decide) z80 e80 rfl (fun ls hl => ?_)
                refine lv_goto (tgt := 33) hx hb dX8_mayBe_83 (by decide) ?_
                exact ih33 z80 z62 i i f (by first | assumption | omega) (by
                      rw [e80]
                      first
                      | (rw [if_pos (by omega), gt_s _ _ _ _ _ (by omega), Int.zero_add]; exact q76_0)
                      | (rw [show (if i + 1 < 121 then i + 1 else 120) = i by split <;> omega]; exact hf)) (by first | exact FRM_tr hfr q76_1 | exact hfr) (by
                      rw [e80]
                      first
                      | (rw [mbf_y hi.1 hg0, hm3, e62]
                         first
                         | (rw [if_pos (by omega)]; done)
                         | (rw [if_neg (by omega)]; done))
                      | (rw [mbf_n hi.1 (by rcases q41 with q9 | q9; omega; exact q9.2)]; exact hm3)) (by first | assumption | omega) (by omega) _ _ hP hD hS ls (lv_sub hl [0, 2, 3, 1, 4, 5] rfl)
              · skip
                refine lv_aload_n hx hb dX8_mayBe_72 rfl (lv_at hl 4 rfl) ?_
                refine lv_sipush (v := Int32.ofInt 607) hx hb dX8_mayBe_73 (by decide) ?_
                refine zc_VJ (As := [vI 607]) (rest := []) (wc := [(hm, oB 8 [.ref m0, vI un, .ref m2, .ref m3, vI mo, vI oft, vI la, vI du, .ref m8, .ref m9, vI to, .ref m11, .ref m12, vJ tr, .ref m14, vI n, vI at0, vI sa, vI vv, .ref m19, vI rdu, .ref m21, .ref m22, vI se, vI its, .ref m25, .ref m26, vJ lt0]), (m0, aJ ca 7284 f), (m3, aI ca 5 w)]) (wr := [(m11, aI ca 5 go), (m12, aI ca 5 gn)]) (k_X8_goes l g ca hm m0 m2 m3 m8 m9 m11 m12 m14 m19 m21 m22 m25 m26 un mo oft la du to tr n at0 sa vv rdu se its lt0 f w 607 (gt w (ef oft la) mo 0 bg i.toNat) i 0 (by first | assumption | omega) (by exact hf) (by exact hGB2) (by first | assumption | omega) (by first | assumption | omega) (by first | assumption | omega) (by first | assumption | omega)) dX8_mayBe_76 (cwV 1 hts gX8_mayBe_X8_goes rfl rfl rfl (by decide +kernel) (by rw [hR]; exact ⟨Nat.le_of_ble_eq_true rfl, Nat.le_of_ble_eq_true rfl⟩)) ⟨hx, hb, hml, hown, hts⟩ hl.1 hK hP hD hS hA 0 rfl rfl rfl [0, 1, 2] [3, 4] rfl (by decide) rfl (by decide) (by decide) rfl rfl (Nat.le_of_ble_eq_true rfl) (by rw [hR]; exact ⟨Nat.le_of_ble_eq_true rfl, Nat.le_of_ble_eq_true rfl⟩) (fun z76 u H locs q76 hP hD hS => ?_)
                obtain ⟨d1_76, rfl⟩ : ∃ q, q = u := ⟨_, rfl⟩
                have q76 : AT d1_76 607 (gs w (ef oft la) mo (i + 1) (gt w (ef oft la) mo 0 bg i.toNat) 4).1 (i + 1) 0 ∧ FRM f d1_76 607 ∧ z76 = (gs w (ef oft la) mo (i + 1) (gt w (ef oft la) mo 0 bg i.toNat) 4).2 := q76
                obtain ⟨q76_0, q76_1, q76_2⟩ := q76
                have hP : va_P g vwCl [(hm, oB 8 [.ref m0, vI un, .ref m2, .ref m3, vI mo, vI oft, vI la, vI du, .ref m8, .ref m9, vI to, .ref m11, .ref m12, vJ tr, .ref m14, vI n, vI at0, vI sa, vI vv, .ref m19, vI rdu, .ref m21, .ref m22, vI se, vI its, .ref m25, .ref m26, vJ lt0]), (m0, aJ ca 7284 d1_76), (m3, aI ca 5 w), (m11, aI ca 5 go), (m12, aI ca 5 gn)] H := hP.sub [2, 3, 4, 0, 1] rfl
                have hD : va_D A [(hm, oB 8 [.ref m0, vI un, .ref m2, .ref m3, vI mo, vI oft, vI la, vI du, .ref m8, .ref m9, vI to, .ref m11, .ref m12, vJ tr, .ref m14, vI n, vI at0, vI sa, vI vv, .ref m19, vI rdu, .ref m21, .ref m22, vI se, vI its, .ref m25, .ref m26, vJ lt0]), (m0, aJ ca 7284 d1_76), (m3, aI ca 5 w), (m11, aI ca 5 go), (m12, aI ca 5 gn)] := hD.sub [2, 3, 4, 0, 1] (by decide) rfl
                refine lv_pop2_2 hx hb dX8_mayBe_79 rfl ?_
                obtain ⟨z80, e80⟩ : ∃ q : Int, q = i + 1 := ⟨_, rfl⟩
                refine ri_inc (lv' := [(5, vI z80), (2, vI z62), (4, vI i), (3, vI i), (0, .ref hm), (1, vI x)]) hx hb dX8_mayBe_80 hl (k := 3) rfl (by decide) z80 e80 rfl (fun ls hl => ?_)
                refine lv_goto (tgt := 33) hx hb dX8_mayBe_83 (by decide) ?_
                exact ih33 z80 z62 i i d1_76 (by first | assumption | omega) (by
                      rw [e80]
                      first
                      | (rw [if_pos (by omega), gt_s _ _ _ _ _ (by omega), Int.zero_add]; exact q76_0)
                      | (rw [show (if i + 1 < 121 then i + 1 else 120) = i by split <;> omega]; exact hf)) (by first | exact FRM_tr hfr q76_1 | exact hfr) (by
                      rw [e80]
                      first
                      | (rw [mbf_y hi.1 hg0, hm3, e62]
                         first
                         | (rw [if_pos (by omega)]; done)
                         | (rw [if_neg (by omega)]; done))
                      | (rw [mbf_n hi.1 (by rcases q41 with q9 | q9; omega; exact q9.2)]; exact hm3)) (by first | assumption | omega) (by omega) _ _ hP hD hS ls (lv_sub hl [0, 2, 3, 1, 4, 5] rfl)
    exact L33 _ 0 0 (-9) (-9) d1_18 (by first | assumption | omega) (by rw [show (if (0 : Int) < 121 then (0 : Int) else 120) = 0 from rfl]; exact q18_0) (by exact q18_1) (by rfl) (by first | assumption | omega) (Nat.lt_succ_self _) _ _ hP hD hS ls (lv_sub hl [0, 1, 2, 3, 4, 5] rfl)
  · skip
    refine lv_iconst (v := Int32.ofInt (-1)) hx hb dX8_mayBe_12 rfl ?_
    refine zr_I hx hb hr hlk hQ (d) hP hD hS dX8_mayBe_13 (Nat.le_of_ble_eq_true rfl) (Nat.le_of_ble_eq_true rfl) ?_
    show (-1) = mbv w (ef oft la) mo go gn to x ∧ FRM d d 607
    unfold mbv
    first
    | exact ⟨by rw [if_neg (by omega), if_neg (by omega), if_neg (by omega)], FRM_rf⟩
    | (rw [show i = 121 by omega] at hm3
       have hm4 : mbf w (ef oft la) mo go gn to 121 = (y, y1, y2) := hm3
       rw [hm4]
       first
       | exact ⟨(if_pos (by omega)).symm, hfr⟩
       | exact ⟨((if_neg (by omega)).trans (if_pos (by omega))).symm, hfr⟩
       | exact ⟨((if_neg (by omega)).trans ((if_neg (by omega)).trans (if_pos (by omega)))).symm, hfr⟩)
set_option maxHeartbeats 4000000 in
set_option maxRecDepth 100000 in
theorem k_X8_smelt (l : Launch) (g : va_G) (ca : Nat → ClassId) (hm : Nat) (m0 : Nat) (m2 : Nat) (m3 : Nat) (m8 : Nat) (m9 : Nat) (m11 : Nat) (m12 : Nat) (m14 : Nat) (m19 : Nat) (m21 : Nat) (m22 : Nat) (m25 : Nat) (m26 : Nat) (un : Int) (mo : Int) (oft : Int) (la : Int) (du : Int) (to : Int) (tr : Int) (n : Int) (at0 : Int) (sa : Int) (vv : Int) (rdu : Int) (se : Int) (its : Int) (lt0 : Int) (d : Int → Int) (w : Int → Int) (t0 : Int) (x : Int) (b : Int → Int) (nn : Int) (ml : Int) (hAT : AT d 0 b nn ml) (hB : GB b nn) (hLM : LMok ml) (hW : GW w) (hE : EAok (ef oft la)) (hM : 1 ≤ mo ∧ mo ≤ 9) (hx0 : in32 t0) (hx1 : in32 x) : zI (S := (Int → Int)) l yX8_smelt wsX8_smelt ({ frames := 3, cells := 0, slots := 0, locals := 71 } : Room) g ca [.ref hm, vI t0, vI x] [(hm, oB 8 [.ref m0, vI un, .ref m2, .ref m3, vI mo, vI oft, vI la, vI du, .ref m8, .ref m9, vI to, .ref m11, .ref m12, vJ tr, .ref m14, vI n, vI at0, vI sa, vI vv, .ref m19, vI rdu, .ref m21, .ref m22, vI se, vI its, .ref m25, .ref m26, vJ lt0]), (m0, aJ ca 7284 d), (m3, aI ca 5 w)] (fun (z : Int) (u : (Int → Int)) => z = smv w (ef oft la) b mo nn ml t0 x ∧ FRM d u 607) (fun (u : (Int → Int)) => [(hm, oB 8 [.ref m0, vI un, .ref m2, .ref m3, vI mo, vI oft, vI la, vI du, .ref m8, .ref m9, vI to, .ref m11, .ref m12, vJ tr, .ref m14, vI n, vI at0, vI sa, vI vv, .ref m19, vI rdu, .ref m21, .ref m22, vI se, vI its, .ref m25, .ref m26, vJ lt0]), (m0, aJ ca 7284 u), (m3, aI ca 5 w)]) 0 0 := by
  refine zm_I (cc := cX8_smelt) (maxL := 4) (ret := some .int) (by decide) rfl (Nat.le_of_ble_eq_true rfl) ?_
  intro p e s m below meth c A ls R args Q hR hargs hQ hx hb hml hr hts hown hlk hnm hK hP hD hA hS hl
  have hown : s.vm.findClass RX8 = some m.cls := hown
  have hl : lv_has ls 4 [(0, .ref hm), (1, vI t0), (2, vI x)] := hl
  have lk_c195 : (Cond.constantLong RX8 195 (1000000000)).before args s = true := hts _ (by decide +kernel)
  have hn0 := hB.1
  obtain ⟨hlm1, hlm2⟩ := hLM
  refine lv_aload_n hx hb dX8_smelt_0 rfl (lv_at hl 0 rfl) ?_
  refine lv_iload_n hx hb dX8_smelt_1 rfl (lv_at hl 1 rfl) ?_
  refine zc_VI (As := [vI t0]) (rest := []) (wc := [(hm, oB 8 [.ref m0, vI un, .ref m2, .ref m3, vI mo, vI oft, vI la, vI du, .ref m8, .ref m9, vI to, .ref m11, .ref m12, vJ tr, .ref m14, vI n, vI at0, vI sa, vI vv, .ref m19, vI rdu, .ref m21, .ref m22, vI se, vI its, .ref m25, .ref m26, vJ lt0]), (m0, aJ ca 7284 d)]) (wr := [(m3, aI ca 5 w)]) (k_X8_isToCome l g ca hm m0 m2 m3 m8 m9 m11 m12 m14 m19 m21 m22 m25 m26 un mo oft la du to tr n at0 sa vv rdu se its lt0 d t0 b nn ml (by first | assumption | omega) (by first | assumption | omega) (by exact hx0)) dX8_smelt_2 (cwV 1 hts gX8_smelt_X8_isToCome rfl rfl rfl (by decide +kernel) (by rw [hR]; exact ⟨Nat.le_of_ble_eq_true rfl, Nat.le_of_ble_eq_true rfl⟩)) ⟨hx, hb, hml, hown, hts⟩ hl.1 hK hP hD hS hA 0 rfl rfl rfl [0, 1] [2] rfl (by decide) rfl (by decide) (by decide) rfl rfl (Nat.le_of_ble_eq_true rfl) (by rw [hR]; exact ⟨Nat.le_of_ble_eq_true rfl, Nat.le_of_ble_eq_true rfl⟩) (fun z2 u H locs q2 hP hD hS => ?_)
  have q2 : (z2 = 1 ∧ nn ≤ t0 ∧ t0 ≤ 120) ∨ (z2 = 0 ∧ ¬ (nn ≤ t0 ∧ t0 ≤ 120)) := q2
  have hP : va_P g vwCl [(hm, oB 8 [.ref m0, vI un, .ref m2, .ref m3, vI mo, vI oft, vI la, vI du, .ref m8, .ref m9, vI to, .ref m11, .ref m12, vJ tr, .ref m14, vI n, vI at0, vI sa, vI vv, .ref m19, vI rdu, .ref m21, .ref m22, vI se, vI its, .ref m25, .ref m26, vJ lt0]), (m0, aJ ca 7284 d), (m3, aI ca 5 w)] H := hP.sub [1, 2, 0] rfl
  have hD : va_D A [(hm, oB 8 [.ref m0, vI un, .ref m2, .ref m3, vI mo, vI oft, vI la, vI du, .ref m8, .ref m9, vI to, .ref m11, .ref m12, vJ tr, .ref m14, vI n, vI at0, vI sa, vI vv, .ref m19, vI rdu, .ref m21, .ref m22, vI se, vI its, .ref m25, .ref m26, vJ lt0]), (m0, aJ ca 7284 d), (m3, aI ca 5 w)] := hD.sub [1, 2, 0] (by decide) rfl
  refine ri_if_eq (tgt := 20) hx hb dX8_smelt_5 (by decide) ⟨by omega, by omega⟩ (fun c5 => ?_) (fun c5 => ?_)
  · skip
    refine lv_iconst (v := Int32.ofInt (-1)) hx hb dX8_smelt_20 rfl ?_
    refine zr_I hx hb hr hlk hQ (d) hP hD hS dX8_smelt_21 (Nat.le_of_ble_eq_true rfl) (Nat.le_of_ble_eq_true rfl) ?_
    show (-1) = smv w (ef oft la) b mo nn ml t0 x ∧ FRM d d 607
    unfold smv
    first
    | exact ⟨by rw [if_neg (fun q => by omega)], FRM_rf⟩
    | exact ⟨by rw [if_pos (by omega), if_pos (by omega)], FRM_tr (CPY q27 hAT).2 q35_1⟩
    | (rw [if_pos (by omega), if_neg (by omega), ← hv]
       first
       | exact ⟨by rw [smf_y (by omega)], FRM_tr hfr (FRM_tr hC.2 (FRM_tr q81_1 q89_1))⟩
       | exact ⟨by rw [show k = 0 by omega]; rfl, hfr⟩)
  · skip
    refine lv_iload_n hx hb dX8_smelt_8 rfl (lv_at hl 2 rfl) ?_
    refine ri_l hx hb dX8_smelt_9 hx1 ?_
    refine lv_lconst (v := Int64.ofInt 1) hx hb dX8_smelt_10 (by decide) ?_
    refine rj_ldc (z := 1000000000) hx hb hown lk_c195 dX8_smelt_11 (by decide) ?_
    refine zc_SI (As := [vJ x, vJ 1, vJ 1000000000]) (rest := []) (wc := []) (wr := [(hm, oB 8 [.ref m0, vI un, .ref m2, .ref m3, vI mo, vI oft, vI la, vI du, .ref m8, .ref m9, vI to, .ref m11, .ref m12, vJ tr, .ref m14, vI n, vI at0, vI sa, vI vv, .ref m19, vI rdu, .ref m21, .ref m22, vI se, vI its, .ref m25, .ref m26, vJ lt0]), (m0, aJ ca 7284 d), (m3, aI ca 5 w)]) (k_X8_in l g ca x 1 1000000000 (by exact ⟨by omega, by omega⟩) (by exact ⟨by omega, by omega⟩) (by exact ⟨by omega, by omega⟩)) dX8_smelt_14 (va_cwS 3 hts gX8_smelt_X8_in rfl rfl rfl (by decide +kernel) (by rw [hR]; exact ⟨Nat.le_of_ble_eq_true rfl, Nat.le_of_ble_eq_true rfl⟩)) ⟨hx, hb, hml, hown, hts⟩ hl.1 hK hP hD hS hA [] [0, 1, 2] rfl (by decide) rfl (by decide) (by decide) rfl rfl (Nat.le_of_ble_eq_true rfl) (by rw [hR]; exact ⟨Nat.le_of_ble_eq_true rfl, Nat.le_of_ble_eq_true rfl⟩) (fun z14 u H locs q14 hP hD hS => ?_)
    have q14 : (z14 = 1 ∧ 1 ≤ x ∧ x ≤ 1000000000) ∨ (z14 = 0 ∧ ¬ (1 ≤ x ∧ x ≤ 1000000000)) := q14
    have hP : va_P g vwCl [(hm, oB 8 [.ref m0, vI un, .ref m2, .ref m3, vI mo, vI oft, vI la, vI du, .ref m8, .ref m9, vI to, .ref m11, .ref m12, vJ tr, .ref m14, vI n, vI at0, vI sa, vI vv, .ref m19, vI rdu, .ref m21, .ref m22, vI se, vI its, .ref m25, .ref m26, vJ lt0]), (m0, aJ ca 7284 d), (m3, aI ca 5 w)] H := hP.sub [0, 1, 2] rfl
    have hD : va_D A [(hm, oB 8 [.ref m0, vI un, .ref m2, .ref m3, vI mo, vI oft, vI la, vI du, .ref m8, .ref m9, vI to, .ref m11, .ref m12, vJ tr, .ref m14, vI n, vI at0, vI sa, vI vv, .ref m19, vI rdu, .ref m21, .ref m22, vI se, vI its, .ref m25, .ref m26, vJ lt0]), (m0, aJ ca 7284 d), (m3, aI ca 5 w)] := hD.sub [0, 1, 2] (by decide) rfl
    refine ri_if_ne (tgt := 22) hx hb dX8_smelt_17 (by decide) ⟨by omega, by omega⟩ (fun c17 => ?_) (fun c17 => ?_)
    · skip
      refine lv_aload_n hx hb dX8_smelt_22 rfl (lv_at hl 0 rfl) ?_
      refine lv_iconst (v := Int32.ofInt 0) hx hb dX8_smelt_23 rfl ?_
      refine lv_sipush (v := Int32.ofInt 607) hx hb dX8_smelt_24 (by decide) ?_
      refine zc_VV (As := [vI 0, vI 607]) (rest := []) (wc := [(hm, oB 8 [.ref m0, vI un, .ref m2, .ref m3, vI mo, vI oft, vI la, vI du, .ref m8, .ref m9, vI to, .ref m11, .ref m12, vJ tr, .ref m14, vI n, vI at0, vI sa, vI vv, .ref m19, vI rdu, .ref m21, .ref m22, vI se, vI its, .ref m25, .ref m26, vJ lt0]), (m0, aJ ca 7284 d)]) (wr := [(m3, aI ca 5 w)]) (k_X8_copy l g ca hm m0 m2 m3 m8 m9 m11 m12 m14 m19 m21 m22 m25 m26 un mo oft la du to tr n at0 sa vv rdu se its lt0 d 0 607 (by first | assumption | omega)) dX8_smelt_27 (cwV 2 hts gX8_smelt_X8_copy rfl rfl rfl (by decide +kernel) (by rw [hR]; exact ⟨Nat.le_of_ble_eq_true rfl, Nat.le_of_ble_eq_true rfl⟩)) ⟨hx, hb, hml, hown, hts⟩ hl.1 hK hP hD hS hA 0 rfl rfl rfl [0, 1] [2] rfl (by decide) rfl (by decide) (by decide) rfl rfl (Nat.le_of_ble_eq_true rfl) (by rw [hR]; exact ⟨Nat.le_of_ble_eq_true rfl, Nat.le_of_ble_eq_true rfl⟩) (fun u H locs q27 hP hD hS => ?_)
      obtain ⟨d1_27, rfl⟩ : ∃ q, q = u := ⟨_, rfl⟩
      have q27 : (∀ j : Int, d1_27 j = if 607 ≤ j ∧ j < 607 + 607 then d (0 + (j - 607)) else d j) := q27
      have hP : va_P g vwCl [(hm, oB 8 [.ref m0, vI un, .ref m2, .ref m3, vI mo, vI oft, vI la, vI du, .ref m8, .ref m9, vI to, .ref m11, .ref m12, vJ tr, .ref m14, vI n, vI at0, vI sa, vI vv, .ref m19, vI rdu, .ref m21, .ref m22, vI se, vI its, .ref m25, .ref m26, vJ lt0]), (m0, aJ ca 7284 d1_27), (m3, aI ca 5 w)] H := hP.sub [1, 2, 0] rfl
      have hD : va_D A [(hm, oB 8 [.ref m0, vI un, .ref m2, .ref m3, vI mo, vI oft, vI la, vI du, .ref m8, .ref m9, vI to, .ref m11, .ref m12, vJ tr, .ref m14, vI n, vI at0, vI sa, vI vv, .ref m19, vI rdu, .ref m21, .ref m22, vI se, vI its, .ref m25, .ref m26, vJ lt0]), (m0, aJ ca 7284 d1_27), (m3, aI ca 5 w)] := hD.sub [1, 2, 0] (by decide) rfl
      refine lv_aload_n hx hb dX8_smelt_30 rfl (lv_at hl 0 rfl) ?_
      refine lv_sipush (v := Int32.ofInt 607) hx hb dX8_smelt_31 (by decide) ?_
      refine lv_iload_n hx hb dX8_smelt_34 rfl (lv_at hl 1 rfl) ?_
      refine zc_VV (As := [vI 607, vI t0]) (rest := []) (wc := [(hm, oB 8 [.ref m0, vI un, .ref m2, .ref m3, vI mo, vI oft, vI la, vI du, .ref m8, .ref m9, vI to, .ref m11, .ref m12, vJ tr, .ref m14, vI n, vI at0, vI sa, vI vv, .ref m19, vI rdu, .ref m21, .ref m22, vI se, vI its, .ref m25, .ref m26, vJ lt0]), (m0, aJ ca 7284 d1_27), (m3, aI ca 5 w)]) (wr := []) (k_X8_goesTill l g ca hm m0 m2 m3 m8 m9 m11 m12 m14 m19 m21 m22 m25 m26 un mo oft la du to tr n at0 sa vv rdu se its lt0 d1_27 w 607 t0 b nn ml (by first | assumption | omega) (by exact (CPY q27 hAT).1) (by first | assumption | omega) (by first | assumption | omega) (by first | assumption | omega) (by first | assumption | omega) (by first | assumption | omega)) dX8_smelt_35 (cwV 2 hts gX8_smelt_X8_goesTill rfl rfl rfl (by decide +kernel) (by rw [hR]; exact ⟨Nat.le_of_ble_eq_true rfl, Nat.le_of_ble_eq_true rfl⟩)) ⟨hx, hb, hml, hown, hts⟩ hl.1 hK hP hD hS hA 0 rfl rfl rfl [0, 1, 2] [] rfl (by decide) rfl (by decide) (by decide) rfl rfl (Nat.le_of_ble_eq_true rfl) (by rw [hR]; exact ⟨Nat.le_of_ble_eq_true rfl, Nat.le_of_ble_eq_true rfl⟩) (fun u H locs q35 hP hD hS => ?_)
      obtain ⟨d1_35, rfl⟩ : ∃ q, q = u := ⟨_, rfl⟩
      have q35 : AT d1_35 607 (gt w (ef oft la) mo nn b (t0 - nn).toNat) t0 ml ∧ FRM d1_27 d1_35 607 := q35
      obtain ⟨q35_0, q35_1⟩ := q35
      have hP : va_P g vwCl [(hm, oB 8 [.ref m0, vI un, .ref m2, .ref m3, vI mo, vI oft, vI la, vI du, .ref m8, .ref m9, vI to, .ref m11, .ref m12, vJ tr, .ref m14, vI n, vI at0, vI sa, vI vv, .ref m19, vI rdu, .ref m21, .ref m22, vI se, vI its, .ref m25, .ref m26, vJ lt0]), (m0, aJ ca 7284 d1_35), (m3, aI ca 5 w)] H := hP.sub [0, 1, 2] rfl
      have hD : va_D A [(hm, oB 8 [.ref m0, vI un, .ref m2, .ref m3, vI mo, vI oft, vI la, vI du, .ref m8, .ref m9, vI to, .ref m11, .ref m12, vJ tr, .ref m14, vI n, vI at0, vI sa, vI vv, .ref m19, vI rdu, .ref m21, .ref m22, vI se, vI its, .ref m25, .ref m26, vJ lt0]), (m0, aJ ca 7284 d1_35), (m3, aI ca 5 w)] := hD.sub [0, 1, 2] (by decide) rfl
      have hGT := GB_gt (w := w) hE hM hB (t0 - nn).toNat (by omega)
      rw [show nn + ((t0 - nn).toNat : Int) = t0 by omega] at hGT
      refine lv_aload_n hx hb dX8_smelt_38 rfl (lv_at hl 0 rfl) ?_
      refine lv_sipush (v := Int32.ofInt 607) hx hb dX8_smelt_39 (by decide) ?_
      refine zc_VJ (As := [vI 607]) (rest := []) (wc := [(hm, oB 8 [.ref m0, vI un, .ref m2, .ref m3, vI mo, vI oft, vI la, vI du, .ref m8, .ref m9, vI to, .ref m11, .ref m12, vJ tr, .ref m14, vI n, vI at0, vI sa, vI vv, .ref m19, vI rdu, .ref m21, .ref m22, vI se, vI its, .ref m25, .ref m26, vJ lt0]), (m0, aJ ca 7284 d1_35), (m3, aI ca 5 w)]) (wr := []) (k_X8_weighs l g ca hm m0 m2 m3 m8 m9 m11 m12 m14 m19 m21 m22 m25 m26 un mo oft la du to tr n at0 sa vv rdu se its lt0 d1_35 w 607 (gt w (ef oft la) mo nn b (t0 - nn).toNat) t0 ml (by first | assumption | omega) (by exact q35_0) (by exact hGT) (by first | assumption | omega)) dX8_smelt_42 (cwV 1 hts gX8_smelt_X8_weighs rfl rfl rfl (by decide +kernel) (by rw [hR]; exact ⟨Nat.le_of_ble_eq_true rfl, Nat.le_of_ble_eq_true rfl⟩)) ⟨hx, hb, hml, hown, hts⟩ hl.1 hK hP hD hS hA 0 rfl rfl rfl [0, 1, 2] [] rfl (by decide) rfl (by decide) (by decide) rfl rfl (Nat.le_of_ble_eq_true rfl) (by rw [hR]; exact ⟨Nat.le_of_ble_eq_true rfl, Nat.le_of_ble_eq_true rfl⟩) (fun z42 u H locs q42 hP hD hS => ?_)
      have q42 : z42 = wgt (gt w (ef oft la) mo nn b (t0 - nn).toNat) w t0 + ml := q42
      have hP : va_P g vwCl [(hm, oB 8 [.ref m0, vI un, .ref m2, .ref m3, vI mo, vI oft, vI la, vI du, .ref m8, .ref m9, vI to, .ref m11, .ref m12, vJ tr, .ref m14, vI n, vI at0, vI sa, vI vv, .ref m19, vI rdu, .ref m21, .ref m22, vI se, vI its, .ref m25, .ref m26, vJ lt0]), (m0, aJ ca 7284 d1_35), (m3, aI ca 5 w)] H := hP.sub [0, 1, 2] rfl
      have hD : va_D A [(hm, oB 8 [.ref m0, vI un, .ref m2, .ref m3, vI mo, vI oft, vI la, vI du, .ref m8, .ref m9, vI to, .ref m11, .ref m12, vJ tr, .ref m14, vI n, vI at0, vI sa, vI vv, .ref m19, vI rdu, .ref m21, .ref m22, vI se, vI its, .ref m25, .ref m26, vJ lt0]), (m0, aJ ca 7284 d1_35), (m3, aI ca 5 w)] := hD.sub [0, 1, 2] (by decide) rfl
      have hwb := wgt_bd hGT hW
      refine lv_iload_n hx hb dX8_smelt_45 rfl (lv_at hl 2 rfl) ?_
      refine ri_l hx hb dX8_smelt_46 hx1 ?_
      refine rj_cmp hx hb dX8_smelt_47 ⟨by omega, by omega⟩ ⟨by omega, by omega⟩ (fun z47 e47 => ?_)
      refine ri_if_gt (tgt := 53) hx hb dX8_smelt_48 (by decide) ⟨by omega, by omega⟩ (fun c48 => ?_) (fun c48 => ?_)
      · skip
        have c48 : x < z42 := by omega
        clear e47
        refine lv_iconst (v := Int32.ofInt 0) hx hb dX8_smelt_53 rfl ?_
        refine lv_istore_n (lv' := [(3, vI 0), (0, .ref hm), (1, vI t0), (2, vI x)]) hx hb dX8_smelt_54 rfl hl (by decide) rfl (fun ls hl => ?_)
        have L55 : ∀ (N55 : Nat) (o : Int) (f : Int → Int) (k : Nat) (ho : 0 ≤ o ∧ o + k = 5 ∧ o ≤ 5) (hfr : FRM d f 607) (hv : smf w (ef oft la) b mo nn ml t0 x k o = smf w (ef oft la) b mo nn ml t0 x 5 0) (hμ : k < N55) (H : Heap) (locs : List Loc) (hP : va_P g vwCl [(hm, oB 8 [.ref m0, vI un, .ref m2, .ref m3, vI mo, vI oft, vI la, vI du, .ref m8, .ref m9, vI to, .ref m11, .ref m12, vJ tr, .ref m14, vI n, vI at0, vI sa, vI vv, .ref m19, vI rdu, .ref m21, .ref m22, vI se, vI its, .ref m25, .ref m26, vJ lt0]), (m0, aJ ca 7284 f), (m3, aI ca 5 w)] H) (hD : va_D A [(hm, oB 8 [.ref m0, vI un, .ref m2, .ref m3, vI mo, vI oft, vI la, vI du, .ref m8, .ref m9, vI to, .ref m11, .ref m12, vJ tr, .ref m14, vI n, vI at0, vI sa, vI vv, .ref m19, vI rdu, .ref m21, .ref m22, vI se, vI its, .ref m25, .ref m26, vJ lt0]), (m0, aJ ca 7284 f), (m3, aI ca 5 w)]) (hS : va_S A s.heap H locs) (ls : Array Slot) (hl : lv_has ls 4 [(3, vI o), (0, .ref hm), (1, vI t0), (2, vI x)]), W p l e R s m args below meth c H locs 0 0 Q (F0 m 55 ls []) := by
          intro N55; induction N55 with
          | zero => intro o f k ho hfr hv hμ; exact absurd hμ (Nat.not_lt_zero _)
          | succ N55 ih55 =>
            intro o f k ho hfr hv hμ H locs hP hD hS ls hl
            refine lv_iload_n hx hb dX8_smelt_55 rfl (lv_at hl 0 rfl) ?_
            refine lv_iconst (v := Int32.ofInt 5) hx hb dX8_smelt_56 rfl ?_
            refine ri_icmp_ge (tgt := 113) hx hb dX8_smelt_57 (by decide) ⟨by omega, by omega⟩ ⟨by omega, by omega⟩ (fun c57 => ?_) (fun c57 => ?_)
            · skip
              refine lv_bipush (v := Int32.ofInt (-9)) hx hb dX8_smelt_113 (by decide) ?_
              refine zr_I hx hb hr hlk hQ (f) hP hD hS dX8_smelt_115 (Nat.le_of_ble_eq_true rfl) (Nat.le_of_ble_eq_true rfl) ?_
              show (-9) = smv w (ef oft la) b mo nn ml t0 x ∧ FRM d f 607
              unfold smv
              first
              | exact ⟨by rw [if_neg (fun q => by omega)], FRM_rf⟩
              | exact ⟨by rw [if_pos (by omega), if_pos (by omega)], FRM_tr (CPY q27 hAT).2 q35_1⟩
              | (rw [if_pos (by omega), if_neg (by omega), ← hv]
                 first
                 | exact ⟨by rw [smf_y (by omega)], FRM_tr hfr (FRM_tr hC.2 (FRM_tr q81_1 q89_1))⟩
                 | exact ⟨by rw [show k = 0 by omega]; rfl, hfr⟩)
            · skip
              obtain ⟨k1, rfl⟩ : ∃ q, k = q + 1 := ⟨k - 1, by omega⟩
              refine lv_aload_n hx hb dX8_smelt_60 rfl (lv_at hl 1 rfl) ?_
              refine lv_iconst (v := Int32.ofInt 0) hx hb dX8_smelt_61 rfl ?_
              refine lv_sipush (v := Int32.ofInt 607) hx hb dX8_smelt_62 (by decide) ?_
              refine zc_VV (As := [vI 0, vI 607]) (rest := []) (wc := [(hm, oB 8 [.ref m0, vI un, .ref m2, .ref m3, vI mo, vI oft, vI la, vI du, .ref m8, .ref m9, vI to, .ref m11, .ref m12, vJ tr, .ref m14, vI n, vI at0, vI sa, vI vv, .ref m19, vI rdu, .ref m21, .ref m22, vI se, vI its, .ref m25, .ref m26, vJ lt0]), (m0, aJ ca 7284 f)]) (wr := [(m3, aI ca 5 w)]) (k_X8_copy l g ca hm m0 m2 m3 m8 m9 m11 m12 m14 m19 m21 m22 m25 m26 un mo oft la du to tr n at0 sa vv rdu se its lt0 f 0 607 (by first | assumption | omega)) dX8_smelt_65 (cwV 2 hts gX8_smelt_X8_copy rfl rfl rfl (by decide +kernel) (by rw [hR]; exact ⟨Nat.le_of_ble_eq_true rfl, Nat.le_of_ble_eq_true rfl⟩)) ⟨hx, hb, hml, hown, hts⟩ hl.1 hK hP hD hS hA 0 rfl rfl rfl [0, 1] [2] rfl (by decide) rfl (by decide) (by decide) rfl rfl (Nat.le_of_ble_eq_true rfl) (by rw [hR]; exact ⟨Nat.le_of_ble_eq_true rfl, Nat.le_of_ble_eq_true rfl⟩) (fun u H locs q65 hP hD hS => ?_)
              obtain ⟨d1_65, rfl⟩ : ∃ q, q = u := ⟨_, rfl⟩
              have q65 : (∀ j : Int, d1_65 j = if 607 ≤ j ∧ j < 607 + 607 then f (0 + (j - 607)) else f j) := q65
              have hP : va_P g vwCl [(hm, oB 8 [.ref m0, vI un, .ref m2, .ref m3, vI mo, vI oft, vI la, vI du, .ref m8, .ref m9, vI to, .ref m11, .ref m12, vJ tr, .ref m14, vI n, vI at0, vI sa, vI vv, .ref m19, vI rdu, .ref m21, .ref m22, vI se, vI its, .ref m25, .ref m26, vJ lt0]), (m0, aJ ca 7284 d1_65), (m3, aI ca 5 w)] H := hP.sub [1, 2, 0] rfl
              have hD : va_D A [(hm, oB 8 [.ref m0, vI un, .ref m2, .ref m3, vI mo, vI oft, vI la, vI du, .ref m8, .ref m9, vI to, .ref m11, .ref m12, vJ tr, .ref m14, vI n, vI at0, vI sa, vI vv, .ref m19, vI rdu, .ref m21, .ref m22, vI se, vI its, .ref m25, .ref m26, vJ lt0]), (m0, aJ ca 7284 d1_65), (m3, aI ca 5 w)] := hD.sub [1, 2, 0] (by decide) rfl
              have hC := CPY q65 (AT_frm hAT hfr (by omega))
              refine lv_aload_n hx hb dX8_smelt_68 rfl (lv_at hl 1 rfl) ?_
              refine lv_sipush (v := Int32.ofInt 607) hx hb dX8_smelt_69 (by decide) ?_
              refine lv_iload_n hx hb dX8_smelt_72 rfl (lv_at hl 0 rfl) ?_
              refine lv_aload_n hx hb dX8_smelt_73 rfl (lv_at hl 1 rfl) ?_
              refine lv_sipush (v := Int32.ofInt 607) hx hb dX8_smelt_74 (by decide) ?_
              refine lv_iload_n hx hb dX8_smelt_77 rfl (lv_at hl 0 rfl) ?_
              refine zc_VJ (As := [vI 607, vI o]) (rest := [vI o, vI 607, .ref hm]) (wc := [(hm, oB 8 [.ref m0, vI un, .ref m2, .ref m3, vI mo, vI oft, vI la, vI du, .ref m8, .ref m9, vI to, .ref m11, .ref m12, vJ tr, .ref m14, vI n, vI at0, vI sa, vI vv, .ref m19, vI rdu, .ref m21, .ref m22, vI se, vI its, .ref m25, .ref m26, vJ lt0]), (m0, aJ ca 7284 d1_65)]) (wr := [(m3, aI ca 5 w)]) (k_X8_manyOf l g ca hm m0 m2 m3 m8 m9 m11 m12 m14 m19 m21 m22 m25 m26 un mo oft la du to tr n at0 sa vv rdu se its lt0 d1_65 607 o b nn ml (by first | assumption | omega) (by first | assumption | omega) (by exact hC.1) (by first | assumption | omega)) dX8_smelt_78 (cwV 2 hts gX8_smelt_X8_manyOf rfl rfl rfl (by decide +kernel) (by rw [hR]; exact ⟨Nat.le_of_ble_eq_true rfl, Nat.le_of_ble_eq_true rfl⟩)) ⟨hx, hb, hml, hown, hts⟩ hl.1 hK hP hD hS hA 0 rfl rfl rfl [0, 1] [2] rfl (by decide) rfl (by decide) (by decide) rfl rfl (Nat.le_of_ble_eq_true rfl) (by rw [hR]; exact ⟨Nat.le_of_ble_eq_true rfl, Nat.le_of_ble_eq_true rfl⟩) (fun z78 u H locs q78 hP hD hS => ?_)
              have q78 : z78 = cnt b nn o := q78
              have hP : va_P g vwCl [(hm, oB 8 [.ref m0, vI un, .ref m2, .ref m3, vI mo, vI oft, vI la, vI du, .ref m8, .ref m9, vI to, .ref m11, .ref m12, vJ tr, .ref m14, vI n, vI at0, vI sa, vI vv, .ref m19, vI rdu, .ref m21, .ref m22, vI se, vI its, .ref m25, .ref m26, vJ lt0]), (m0, aJ ca 7284 d1_65), (m3, aI ca 5 w)] H := hP.sub [1, 2, 0] rfl
              have hD : va_D A [(hm, oB 8 [.ref m0, vI un, .ref m2, .ref m3, vI mo, vI oft, vI la, vI du, .ref m8, .ref m9, vI to, .ref m11, .ref m12, vJ tr, .ref m14, vI n, vI at0, vI sa, vI vv, .ref m19, vI rdu, .ref m21, .ref m22, vI se, vI its, .ref m25, .ref m26, vJ lt0]), (m0, aJ ca 7284 d1_65), (m3, aI ca 5 w)] := hD.sub [1, 2, 0] (by decide) rfl
              have hc81 := cnt_bd hB (o := o) (by omega) (by omega)
              refine zc_VV (As := [vI 607, vI o, vJ z78]) (rest := []) (wc := [(hm, oB 8 [.ref m0, vI un, .ref m2, .ref m3, vI mo, vI oft, vI la, vI du, .ref m8, .ref m9, vI to, .ref m11, .ref m12, vJ tr, .ref m14, vI n, vI at0, vI sa, vI vv, .ref m19, vI rdu, .ref m21, .ref m22, vI se, vI its, .ref m25, .ref m26, vJ lt0]), (m0, aJ ca 7284 d1_65)]) (wr := [(m3, aI ca 5 w)]) (k_X8_takesAway l g ca hm m0 m2 m3 m8 m9 m11 m12 m14 m19 m21 m22 m25 m26 un mo oft la du to tr n at0 sa vv rdu se its lt0 d1_65 607 o z78 b nn ml (by first | assumption | omega) (by first | assumption | omega) (by exact hC.1) (by first | assumption | omega) (by first | assumption | omega)) dX8_smelt_81 (cwV 3 hts gX8_smelt_X8_takesAway rfl rfl rfl (by decide +kernel) (by rw [hR]; exact ⟨Nat.le_of_ble_eq_true rfl, Nat.le_of_ble_eq_true rfl⟩)) ⟨hx, hb, hml, hown, hts⟩ hl.1 hK hP hD hS hA 0 rfl rfl rfl [0, 1] [2] rfl (by decide) rfl (by decide) (by decide) rfl rfl (Nat.le_of_ble_eq_true rfl) (by rw [hR]; exact ⟨Nat.le_of_ble_eq_true rfl, Nat.le_of_ble_eq_true rfl⟩) (fun u H locs q81 hP hD hS => ?_)
              obtain ⟨d1_81, rfl⟩ : ∃ q, q = u := ⟨_, rfl⟩
              have q81 : AT d1_81 607 (tk b (121 * o) z78) nn ml ∧ FRM d1_65 d1_81 607 := q81
              obtain ⟨q81_0, q81_1⟩ := q81
              have hP : va_P g vwCl [(hm, oB 8 [.ref m0, vI un, .ref m2, .ref m3, vI mo, vI oft, vI la, vI du, .ref m8, .ref m9, vI to, .ref m11, .ref m12, vJ tr, .ref m14, vI n, vI at0, vI sa, vI vv, .ref m19, vI rdu, .ref m21, .ref m22, vI se, vI its, .ref m25, .ref m26, vJ lt0]), (m0, aJ ca 7284 d1_81), (m3, aI ca 5 w)] H := hP.sub [1, 2, 0] rfl
              have hD : va_D A [(hm, oB 8 [.ref m0, vI un, .ref m2, .ref m3, vI mo, vI oft, vI la, vI du, .ref m8, .ref m9, vI to, .ref m11, .ref m12, vJ tr, .ref m14, vI n, vI at0, vI sa, vI vv, .ref m19, vI rdu, .ref m21, .ref m22, vI se, vI its, .ref m25, .ref m26, vJ lt0]), (m0, aJ ca 7284 d1_81), (m3, aI ca 5 w)] := hD.sub [1, 2, 0] (by decide) rfl
              have hA81 : AT d1_81 607 (zr b o) nn ml := by
                have h9 := q81_0
                rw [q78, tk_zr hB (by omega) (by omega)] at h9
                exact h9
              refine lv_aload_n hx hb dX8_smelt_84 rfl (lv_at hl 1 rfl) ?_
              refine lv_sipush (v := Int32.ofInt 607) hx hb dX8_smelt_85 (by decide) ?_
              refine lv_iload_n hx hb dX8_smelt_88 rfl (lv_at hl 2 rfl) ?_
              refine zc_VV (As := [vI 607, vI t0]) (rest := []) (wc := [(hm, oB 8 [.ref m0, vI un, .ref m2, .ref m3, vI mo, vI oft, vI la, vI du, .ref m8, .ref m9, vI to, .ref m11, .ref m12, vJ tr, .ref m14, vI n, vI at0, vI sa, vI vv, .ref m19, vI rdu, .ref m21, .ref m22, vI se, vI its, .ref m25, .ref m26, vJ lt0]), (m0, aJ ca 7284 d1_81), (m3, aI ca 5 w)]) (wr := []) (k_X8_goesTill l g ca hm m0 m2 m3 m8 m9 m11 m12 m14 m19 m21 m22 m25 m26 un mo oft la du to tr n at0 sa vv rdu se its lt0 d1_81 w 607 t0 (zr b o) nn ml (by first | assumption | omega) (by exact hA81) (by exact GB_zr hB) (by first | assumption | omega) (by first | assumption | omega) (by first | assumption | omega) (by first | assumption | omega)) dX8_smelt_89 (cwV 2 hts gX8_smelt_X8_goesTill rfl rfl rfl (by decide +kernel) (by rw [hR]; exact ⟨Nat.le_of_ble_eq_true rfl, Nat.le_of_ble_eq_true rfl⟩)) ⟨hx, hb, hml, hown, hts⟩ hl.1 hK hP hD hS hA 0 rfl rfl rfl [0, 1, 2] [] rfl (by decide) rfl (by decide) (by decide) rfl rfl (Nat.le_of_ble_eq_true rfl) (by rw [hR]; exact ⟨Nat.le_of_ble_eq_true rfl, Nat.le_of_ble_eq_true rfl⟩) (fun u H locs q89 hP hD hS => ?_)
              obtain ⟨d1_89, rfl⟩ : ∃ q, q = u := ⟨_, rfl⟩
              have q89 : AT d1_89 607 (gt w (ef oft la) mo nn (zr b o) (t0 - nn).toNat) t0 ml ∧ FRM d1_81 d1_89 607 := q89
              obtain ⟨q89_0, q89_1⟩ := q89
              have hP : va_P g vwCl [(hm, oB 8 [.ref m0, vI un, .ref m2, .ref m3, vI mo, vI oft, vI la, vI du, .ref m8, .ref m9, vI to, .ref m11, .ref m12, vJ tr, .ref m14, vI n, vI at0, vI sa, vI vv, .ref m19, vI rdu, .ref m21, .ref m22, vI se, vI its, .ref m25, .ref m26, vJ lt0]), (m0, aJ ca 7284 d1_89), (m3, aI ca 5 w)] H := hP.sub [0, 1, 2] rfl
              have hD : va_D A [(hm, oB 8 [.ref m0, vI un, .ref m2, .ref m3, vI mo, vI oft, vI la, vI du, .ref m8, .ref m9, vI to, .ref m11, .ref m12, vJ tr, .ref m14, vI n, vI at0, vI sa, vI vv, .ref m19, vI rdu, .ref m21, .ref m22, vI se, vI its, .ref m25, .ref m26, vJ lt0]), (m0, aJ ca 7284 d1_89), (m3, aI ca 5 w)] := hD.sub [0, 1, 2] (by decide) rfl
              have hGT2 := GB_gt (w := w) hE hM (GB_zr (o := o) hB) (t0 - nn).toNat (by omega)
              rw [show nn + ((t0 - nn).toNat : Int) = t0 by omega] at hGT2
              refine lv_aload_n hx hb dX8_smelt_92 rfl (lv_at hl 1 rfl) ?_
              refine lv_sipush (v := Int32.ofInt 607) hx hb dX8_smelt_93 (by decide) ?_
              refine zc_VJ (As := [vI 607]) (rest := []) (wc := [(hm, oB 8 [.ref m0, vI un, .ref m2, .ref m3, vI mo, vI oft, vI la, vI du, .ref m8, .ref m9, vI to, .ref m11, .ref m12, vJ tr, .ref m14, vI n, vI at0, vI sa, vI vv, .ref m19, vI rdu, .ref m21, .ref m22, vI se, vI its, .ref m25, .ref m26, vJ lt0]), (m0, aJ ca 7284 d1_89), (m3, aI ca 5 w)]) (wr := []) (k_X8_weighs l g ca hm m0 m2 m3 m8 m9 m11 m12 m14 m19 m21 m22 m25 m26 un mo oft la du to tr n at0 sa vv rdu se its lt0 d1_89 w 607 (gt w (ef oft la) mo nn (zr b o) (t0 - nn).toNat) t0 ml (by first | assumption | omega) (by exact q89_0) (by exact hGT2) (by first | assumption | omega)) dX8_smelt_96 (cwV 1 hts gX8_smelt_X8_weighs rfl rfl rfl (by decide +kernel) (by rw [hR]; exact ⟨Nat.le_of_ble_eq_true rfl, Nat.le_of_ble_eq_true rfl⟩)) ⟨hx, hb, hml, hown, hts⟩ hl.1 hK hP hD hS hA 0 rfl rfl rfl [0, 1, 2] [] rfl (by decide) rfl (by decide) (by decide) rfl rfl (Nat.le_of_ble_eq_true rfl) (by rw [hR]; exact ⟨Nat.le_of_ble_eq_true rfl, Nat.le_of_ble_eq_true rfl⟩) (fun z96 u H locs q96 hP hD hS => ?_)
              have q96 : z96 = wgt (gt w (ef oft la) mo nn (zr b o) (t0 - nn).toNat) w t0 + ml := q96
              have hP : va_P g vwCl [(hm, oB 8 [.ref m0, vI un, .ref m2, .ref m3, vI mo, vI oft, vI la, vI du, .ref m8, .ref m9, vI to, .ref m11, .ref m12, vJ tr, .ref m14, vI n, vI at0, vI sa, vI vv, .ref m19, vI rdu, .ref m21, .ref m22, vI se, vI its, .ref m25, .ref m26, vJ lt0]), (m0, aJ ca 7284 d1_89), (m3, aI ca 5 w)] H := hP.sub [0, 1, 2] rfl
              have hD : va_D A [(hm, oB 8 [.ref m0, vI un, .ref m2, .ref m3, vI mo, vI oft, vI la, vI du, .ref m8, .ref m9, vI to, .ref m11, .ref m12, vJ tr, .ref m14, vI n, vI at0, vI sa, vI vv, .ref m19, vI rdu, .ref m21, .ref m22, vI se, vI its, .ref m25, .ref m26, vJ lt0]), (m0, aJ ca 7284 d1_89), (m3, aI ca 5 w)] := hD.sub [0, 1, 2] (by decide) rfl
              have hwb2 := wgt_bd hGT2 hW
              refine lv_iload_n hx hb dX8_smelt_99 rfl (lv_at hl 3 rfl) ?_
              refine ri_l hx hb dX8_smelt_100 hx1 ?_
              refine rj_cmp hx hb dX8_smelt_101 ⟨by omega, by omega⟩ ⟨by omega, by omega⟩ (fun z101 e101 => ?_)
              refine ri_if_gt (tgt := 107) hx hb dX8_smelt_102 (by decide) ⟨by omega, by omega⟩ (fun c102 => ?_) (fun c102 => ?_)
              · skip
                have c102 : x < z96 := by omega
                clear e101
                obtain ⟨z107, e107⟩ : ∃ q : Int, q = o + 1 := ⟨_, rfl⟩
                refine ri_inc (lv' := [(3, vI z107), (0, .ref hm), (1, vI t0), (2, vI x)]) hx hb dX8_smelt_107 hl (k := 0) rfl (by decide) z107 e107 rfl (fun ls hl => ?_)
                refine lv_goto (tgt := 55) hx hb dX8_smelt_110 (by decide) ?_
                exact ih55 z107 d1_89 k1 (by first | assumption | omega) (by exact FRM_tr hfr (FRM_tr hC.2 (FRM_tr q81_1 q89_1))) (by rw [← hv, smf_n (by omega), e107]) (by omega) _ _ hP hD hS ls (lv_sub hl [0, 1, 2, 3] rfl)
              · skip
                have c102 : z96 ≤ x := by omega
                clear e101
                refine lv_iload_n hx hb dX8_smelt_105 rfl (lv_at hl 0 rfl) ?_
                refine zr_I hx hb hr hlk hQ (d1_89) hP hD hS dX8_smelt_106 (Nat.le_of_ble_eq_true rfl) (Nat.le_of_ble_eq_true rfl) ?_
                show o = smv w (ef oft la) b mo nn ml t0 x ∧ FRM d d1_89 607
                unfold smv
                first
                | exact ⟨by rw [if_neg (fun q => by omega)], FRM_rf⟩
                | exact ⟨by rw [if_pos (by omega), if_pos (by omega)], FRM_tr (CPY q27 hAT).2 q35_1⟩
                | (rw [if_pos (by omega), if_neg (by omega), ← hv]
                   first
                   | exact ⟨by rw [smf_y (by omega)], FRM_tr hfr (FRM_tr hC.2 (FRM_tr q81_1 q89_1))⟩
                   | exact ⟨by rw [show k = 0 by omega]; rfl, hfr⟩)
        exact L55 _ 0 d1_35 5 (by first | assumption | omega) (by exact FRM_tr (CPY q27 hAT).2 q35_1) (by rfl) (Nat.lt_succ_self _) _ _ hP hD hS ls (lv_sub hl [0, 1, 2, 3] rfl)
      · skip
        have c48 : z42 ≤ x := by omega
        clear e47
        refine lv_iconst (v := Int32.ofInt 5) hx hb dX8_smelt_51 rfl ?_
        refine zr_I hx hb hr hlk hQ (d1_35) hP hD hS dX8_smelt_52 (Nat.le_of_ble_eq_true rfl) (Nat.le_of_ble_eq_true rfl) ?_
        show 5 = smv w (ef oft la) b mo nn ml t0 x ∧ FRM d d1_35 607
        unfold smv
        first
        | exact ⟨by rw [if_neg (fun q => by omega)], FRM_rf⟩
        | exact ⟨by rw [if_pos (by omega), if_pos (by omega)], FRM_tr (CPY q27 hAT).2 q35_1⟩
        | (rw [if_pos (by omega), if_neg (by omega), ← hv]
           first
           | exact ⟨by rw [smf_y (by omega)], FRM_tr hfr (FRM_tr hC.2 (FRM_tr q81_1 q89_1))⟩
           | exact ⟨by rw [show k = 0 by omega]; rfl, hfr⟩)
    · skip
      refine lv_iconst (v := Int32.ofInt (-1)) hx hb dX8_smelt_20 rfl ?_
      refine zr_I hx hb hr hlk hQ (d) hP hD hS dX8_smelt_21 (Nat.le_of_ble_eq_true rfl) (Nat.le_of_ble_eq_true rfl) ?_
      show (-1) = smv w (ef oft la) b mo nn ml t0 x ∧ FRM d d 607
      unfold smv
      first
      | exact ⟨by rw [if_neg (fun q => by omega)], FRM_rf⟩
      | exact ⟨by rw [if_pos (by omega), if_pos (by omega)], FRM_tr (CPY q27 hAT).2 q35_1⟩
      | (rw [if_pos (by omega), if_neg (by omega), ← hv]
         first
         | exact ⟨by rw [smf_y (by omega)], FRM_tr hfr (FRM_tr hC.2 (FRM_tr q81_1 q89_1))⟩
         | exact ⟨by rw [show k = 0 by omega]; rfl, hfr⟩)
set_option maxHeartbeats 4000000 in
set_option maxRecDepth 100000 in
theorem k_X8_odds (l : Launch) (g : va_G) (ca : Nat → ClassId) (hm : Nat) (m0 : Nat) (m2 : Nat) (m3 : Nat) (m8 : Nat) (m9 : Nat) (m11 : Nat) (m12 : Nat) (m14 : Nat) (m19 : Nat) (m21 : Nat) (m22 : Nat) (m25 : Nat) (m26 : Nat) (un : Int) (mo : Int) (oft : Int) (la : Int) (du : Int) (to : Int) (tr : Int) (n : Int) (at0 : Int) (sa : Int) (vv : Int) (rdu : Int) (se : Int) (its : Int) (lt0 : Int) (d : Int → Int) (o : Int) (x : Int) (b : Int → Int) (nn : Int) (ml : Int) (hAT : AT d 0 b nn ml) (hB : GB b nn) (hx0 : in32 o) (hx1 : in32 x) : zJ (S := Unit) l yX8_odds wsX8_odds ({ frames := 2, cells := 0, slots := 0, locals := 49 } : Room) g ca [.ref hm, vI o, vI x] [(hm, oB 8 [.ref m0, vI un, .ref m2, .ref m3, vI mo, vI oft, vI la, vI du, .ref m8, .ref m9, vI to, .ref m11, .ref m12, vJ tr, .ref m14, vI n, vI at0, vI sa, vI vv, .ref m19, vI rdu, .ref m21, .ref m22, vI se, vI its, .ref m25, .ref m26, vJ lt0]), (m0, aJ ca 7284 d)] (fun (z : Int) (u : Unit) => z = odv b nn o x) (fun (u : Unit) => [(hm, oB 8 [.ref m0, vI un, .ref m2, .ref m3, vI mo, vI oft, vI la, vI du, .ref m8, .ref m9, vI to, .ref m11, .ref m12, vJ tr, .ref m14, vI n, vI at0, vI sa, vI vv, .ref m19, vI rdu, .ref m21, .ref m22, vI se, vI its, .ref m25, .ref m26, vJ lt0]), (m0, aJ ca 7284 d)]) 0 0 := by
  refine zm_J (cc := cX8_odds) (maxL := 13) (ret := some .long) (by decide) rfl (Nat.le_of_ble_eq_true rfl) ?_
  intro p e s m below meth c A ls R args Q hR hargs hQ hx hb hml hr hts hown hlk hnm hK hP hD hA hS hl
  have hown : s.vm.findClass RX8 = some m.cls := hown
  have hl : lv_has ls 13 [(0, .ref hm), (1, vI o), (2, vI x)] := hl
  have lk_c164 : (Cond.constantLong RX8 164 (-1)).before args s = true := hts _ (by decide +kernel)
  refine lv_iload_n hx hb dX8_odds_0 rfl (lv_at hl 1 rfl) ?_
  refine zc_SI (As := [vI o]) (rest := []) (wc := []) (wr := [(hm, oB 8 [.ref m0, vI un, .ref m2, .ref m3, vI mo, vI oft, vI la, vI du, .ref m8, .ref m9, vI to, .ref m11, .ref m12, vJ tr, .ref m14, vI n, vI at0, vI sa, vI vv, .ref m19, vI rdu, .ref m21, .ref m22, vI se, vI its, .ref m25, .ref m26, vJ lt0]), (m0, aJ ca 7284 d)]) (k_X8_isOrder l g ca o (by exact hx0)) dX8_odds_1 (va_cwS 1 hts gX8_odds_X8_isOrder rfl rfl rfl (by decide +kernel) (by rw [hR]; exact ⟨Nat.le_of_ble_eq_true rfl, Nat.le_of_ble_eq_true rfl⟩)) ⟨hx, hb, hml, hown, hts⟩ hl.1 hK hP hD hS hA [] [0, 1] rfl (by decide) rfl (by decide) (by decide) rfl rfl (Nat.le_of_ble_eq_true rfl) (by rw [hR]; exact ⟨Nat.le_of_ble_eq_true rfl, Nat.le_of_ble_eq_true rfl⟩) (fun z1 u H locs q1 hP hD hS => ?_)
  have q1 : (z1 = 1 ∧ 0 ≤ o ∧ o ≤ 4) ∨ (z1 = 0 ∧ ¬ (0 ≤ o ∧ o ≤ 4)) := q1
  have hP : va_P g vwCl [(hm, oB 8 [.ref m0, vI un, .ref m2, .ref m3, vI mo, vI oft, vI la, vI du, .ref m8, .ref m9, vI to, .ref m11, .ref m12, vJ tr, .ref m14, vI n, vI at0, vI sa, vI vv, .ref m19, vI rdu, .ref m21, .ref m22, vI se, vI its, .ref m25, .ref m26, vJ lt0]), (m0, aJ ca 7284 d)] H := hP.sub [0, 1] rfl
  have hD : va_D A [(hm, oB 8 [.ref m0, vI un, .ref m2, .ref m3, vI mo, vI oft, vI la, vI du, .ref m8, .ref m9, vI to, .ref m11, .ref m12, vJ tr, .ref m14, vI n, vI at0, vI sa, vI vv, .ref m19, vI rdu, .ref m21, .ref m22, vI se, vI its, .ref m25, .ref m26, vJ lt0]), (m0, aJ ca 7284 d)] := hD.sub [0, 1] (by decide) rfl
  refine ri_if_eq (tgt := 17) hx hb dX8_odds_4 (by decide) ⟨by omega, by omega⟩ (fun c4 => ?_) (fun c4 => ?_)
  · skip
    refine rj_ldc (z := (-1)) hx hb hown lk_c164 dX8_odds_17 (by decide) ?_
    refine zr_J hx hb hr hlk hQ () hP hD hS dX8_odds_20 (Nat.le_of_ble_eq_true rfl) (Nat.le_of_ble_eq_true rfl) ?_
    show (-1) = odv b nn o x
    unfold odv
    rw [if_neg (fun q => by omega)]
  · skip
    refine lv_iload_n hx hb dX8_odds_7 rfl (lv_at hl 2 rfl) ?_
    refine ri_l hx hb dX8_odds_8 hx1 ?_
    refine lv_lconst (v := Int64.ofInt 0) hx hb dX8_odds_9 (by decide) ?_
    refine lv_lconst (v := Int64.ofInt 1) hx hb dX8_odds_10 (by decide) ?_
    refine zc_SI (As := [vJ x, vJ 0, vJ 1]) (rest := []) (wc := []) (wr := [(hm, oB 8 [.ref m0, vI un, .ref m2, .ref m3, vI mo, vI oft, vI la, vI du, .ref m8, .ref m9, vI to, .ref m11, .ref m12, vJ tr, .ref m14, vI n, vI at0, vI sa, vI vv, .ref m19, vI rdu, .ref m21, .ref m22, vI se, vI its, .ref m25, .ref m26, vJ lt0]), (m0, aJ ca 7284 d)]) (k_X8_in l g ca x 0 1 (by exact ⟨by omega, by omega⟩) (by exact ⟨by omega, by omega⟩) (by exact ⟨by omega, by omega⟩)) dX8_odds_11 (va_cwS 3 hts gX8_odds_X8_in rfl rfl rfl (by decide +kernel) (by rw [hR]; exact ⟨Nat.le_of_ble_eq_true rfl, Nat.le_of_ble_eq_true rfl⟩)) ⟨hx, hb, hml, hown, hts⟩ hl.1 hK hP hD hS hA [] [0, 1] rfl (by decide) rfl (by decide) (by decide) rfl rfl (Nat.le_of_ble_eq_true rfl) (by rw [hR]; exact ⟨Nat.le_of_ble_eq_true rfl, Nat.le_of_ble_eq_true rfl⟩) (fun z11 u H locs q11 hP hD hS => ?_)
    have q11 : (z11 = 1 ∧ 0 ≤ x ∧ x ≤ 1) ∨ (z11 = 0 ∧ ¬ (0 ≤ x ∧ x ≤ 1)) := q11
    have hP : va_P g vwCl [(hm, oB 8 [.ref m0, vI un, .ref m2, .ref m3, vI mo, vI oft, vI la, vI du, .ref m8, .ref m9, vI to, .ref m11, .ref m12, vJ tr, .ref m14, vI n, vI at0, vI sa, vI vv, .ref m19, vI rdu, .ref m21, .ref m22, vI se, vI its, .ref m25, .ref m26, vJ lt0]), (m0, aJ ca 7284 d)] H := hP.sub [0, 1] rfl
    have hD : va_D A [(hm, oB 8 [.ref m0, vI un, .ref m2, .ref m3, vI mo, vI oft, vI la, vI du, .ref m8, .ref m9, vI to, .ref m11, .ref m12, vJ tr, .ref m14, vI n, vI at0, vI sa, vI vv, .ref m19, vI rdu, .ref m21, .ref m22, vI se, vI its, .ref m25, .ref m26, vJ lt0]), (m0, aJ ca 7284 d)] := hD.sub [0, 1] (by decide) rfl
    refine ri_if_ne (tgt := 21) hx hb dX8_odds_14 (by decide) ⟨by omega, by omega⟩ (fun c14 => ?_) (fun c14 => ?_)
    · skip
      refine lv_aload_n hx hb dX8_odds_21 rfl (lv_at hl 0 rfl) ?_
      refine lv_iconst (v := Int32.ofInt 0) hx hb dX8_odds_22 rfl ?_
      refine lv_iload_n hx hb dX8_odds_23 rfl (lv_at hl 1 rfl) ?_
      refine zc_VJ (As := [vI 0, vI o]) (rest := []) (wc := [(hm, oB 8 [.ref m0, vI un, .ref m2, .ref m3, vI mo, vI oft, vI la, vI du, .ref m8, .ref m9, vI to, .ref m11, .ref m12, vJ tr, .ref m14, vI n, vI at0, vI sa, vI vv, .ref m19, vI rdu, .ref m21, .ref m22, vI se, vI its, .ref m25, .ref m26, vJ lt0]), (m0, aJ ca 7284 d)]) (wr := []) (k_X8_manyOf l g ca hm m0 m2 m3 m8 m9 m11 m12 m14 m19 m21 m22 m25 m26 un mo oft la du to tr n at0 sa vv rdu se its lt0 d 0 o b nn ml (by first | assumption | omega) (by first | assumption | omega) (by first | assumption | omega) (by first | assumption | omega)) dX8_odds_24 (cwV 2 hts gX8_odds_X8_manyOf rfl rfl rfl (by decide +kernel) (by rw [hR]; exact ⟨Nat.le_of_ble_eq_true rfl, Nat.le_of_ble_eq_true rfl⟩)) ⟨hx, hb, hml, hown, hts⟩ hl.1 hK hP hD hS hA 0 rfl rfl rfl [0, 1] [] rfl (by decide) rfl (by decide) (by decide) rfl rfl (Nat.le_of_ble_eq_true rfl) (by rw [hR]; exact ⟨Nat.le_of_ble_eq_true rfl, Nat.le_of_ble_eq_true rfl⟩) (fun z24 u H locs q24 hP hD hS => ?_)
      have q24 : z24 = cnt b nn o := q24
      have hP : va_P g vwCl [(hm, oB 8 [.ref m0, vI un, .ref m2, .ref m3, vI mo, vI oft, vI la, vI du, .ref m8, .ref m9, vI to, .ref m11, .ref m12, vJ tr, .ref m14, vI n, vI at0, vI sa, vI vv, .ref m19, vI rdu, .ref m21, .ref m22, vI se, vI its, .ref m25, .ref m26, vJ lt0]), (m0, aJ ca 7284 d)] H := hP.sub [0, 1] rfl
      have hD : va_D A [(hm, oB 8 [.ref m0, vI un, .ref m2, .ref m3, vI mo, vI oft, vI la, vI du, .ref m8, .ref m9, vI to, .ref m11, .ref m12, vJ tr, .ref m14, vI n, vI at0, vI sa, vI vv, .ref m19, vI rdu, .ref m21, .ref m22, vI se, vI its, .ref m25, .ref m26, vJ lt0]), (m0, aJ ca 7284 d)] := hD.sub [0, 1] (by decide) rfl
      have hc27 := cnt_bd hB (o := o) (by omega) (by omega)
      refine lv_lstore_n (lv' := [(3, vJ z24), (0, .ref hm), (1, vI o), (2, vI x)]) hx hb dX8_odds_27 rfl hl (by decide) rfl (fun ls hl => ?_)
      refine lv_aload_n hx hb dX8_odds_28 rfl (lv_at hl 1 rfl) ?_
      refine lv_iconst (v := Int32.ofInt 0) hx hb dX8_odds_29 rfl ?_
      refine zc_VJ (As := [vI 0]) (rest := []) (wc := [(hm, oB 8 [.ref m0, vI un, .ref m2, .ref m3, vI mo, vI oft, vI la, vI du, .ref m8, .ref m9, vI to, .ref m11, .ref m12, vJ tr, .ref m14, vI n, vI at0, vI sa, vI vv, .ref m19, vI rdu, .ref m21, .ref m22, vI se, vI its, .ref m25, .ref m26, vJ lt0]), (m0, aJ ca 7284 d)]) (wr := []) (k_X8_allOf l g ca hm m0 m2 m3 m8 m9 m11 m12 m14 m19 m21 m22 m25 m26 un mo oft la du to tr n at0 sa vv rdu se its lt0 d 0 b nn ml (by first | assumption | omega) (by first | assumption | omega) (by first | assumption | omega)) dX8_odds_30 (cwV 1 hts gX8_odds_X8_allOf rfl rfl rfl (by decide +kernel) (by rw [hR]; exact ⟨Nat.le_of_ble_eq_true rfl, Nat.le_of_ble_eq_true rfl⟩)) ⟨hx, hb, hml, hown, hts⟩ hl.1 hK hP hD hS hA 0 rfl rfl rfl [0, 1] [] rfl (by decide) rfl (by decide) (by decide) rfl rfl (Nat.le_of_ble_eq_true rfl) (by rw [hR]; exact ⟨Nat.le_of_ble_eq_true rfl, Nat.le_of_ble_eq_true rfl⟩) (fun z30 u H locs q30 hP hD hS => ?_)
      have q30 : z30 = tot b nn := q30
      have hP : va_P g vwCl [(hm, oB 8 [.ref m0, vI un, .ref m2, .ref m3, vI mo, vI oft, vI la, vI du, .ref m8, .ref m9, vI to, .ref m11, .ref m12, vJ tr, .ref m14, vI n, vI at0, vI sa, vI vv, .ref m19, vI rdu, .ref m21, .ref m22, vI se, vI its, .ref m25, .ref m26, vJ lt0]), (m0, aJ ca 7284 d)] H := hP.sub [0, 1] rfl
      have hD : va_D A [(hm, oB 8 [.ref m0, vI un, .ref m2, .ref m3, vI mo, vI oft, vI la, vI du, .ref m8, .ref m9, vI to, .ref m11, .ref m12, vJ tr, .ref m14, vI n, vI at0, vI sa, vI vv, .ref m19, vI rdu, .ref m21, .ref m22, vI se, vI its, .ref m25, .ref m26, vJ lt0]), (m0, aJ ca 7284 d)] := hD.sub [0, 1] (by decide) rfl
      have ht33 := tot_bd hB
      refine lv_lstore (lv' := [(5, vJ z30), (3, vJ z24), (0, .ref hm), (1, vI o), (2, vI x)]) hx hb dX8_odds_33 hl (by decide) rfl (fun ls hl => ?_)
      have J48 : ∀ (dn0 : Int) (hdn : (tot b nn = 0 ∧ dn0 = 1) ∨ (¬ tot b nn = 0 ∧ dn0 = tot b nn)) (H : Heap) (locs : List Loc) (hP : va_P g vwCl [(hm, oB 8 [.ref m0, vI un, .ref m2, .ref m3, vI mo, vI oft, vI la, vI du, .ref m8, .ref m9, vI to, .ref m11, .ref m12, vJ tr, .ref m14, vI n, vI at0, vI sa, vI vv, .ref m19, vI rdu, .ref m21, .ref m22, vI se, vI its, .ref m25, .ref m26, vJ lt0]), (m0, aJ ca 7284 d)] H) (hD : va_D A [(hm, oB 8 [.ref m0, vI un, .ref m2, .ref m3, vI mo, vI oft, vI la, vI du, .ref m8, .ref m9, vI to, .ref m11, .ref m12, vJ tr, .ref m14, vI n, vI at0, vI sa, vI vv, .ref m19, vI rdu, .ref m21, .ref m22, vI se, vI its, .ref m25, .ref m26, vJ lt0]), (m0, aJ ca 7284 d)]) (hS : va_S A s.heap H locs) (ls : Array Slot) (hl : lv_has ls 13 [(5, vJ z30), (3, vJ z24), (0, .ref hm), (1, vI o), (2, vI x)]), W p l e R s m args below meth c H locs 0 0 Q (F0 m 48 ls [vJ dn0]) := by
        intro dn0 hdn H locs hP hD hS ls hl
        refine lv_lstore (lv' := [(5, vJ dn0), (3, vJ z24), (0, .ref hm), (1, vI o), (2, vI x)]) hx hb dX8_odds_48 hl (by decide) rfl (fun ls hl => ?_)
        refine lv_lload_n hx hb dX8_odds_50 rfl (lv_at hl 1 rfl) ?_
        refine lv_lstore (lv' := [(7, vJ z24), (5, vJ dn0), (3, vJ z24), (0, .ref hm), (1, vI o), (2, vI x)]) hx hb dX8_odds_51 hl (by decide) rfl (fun ls hl => ?_)
        refine lv_lload hx hb dX8_odds_53 (lv_at hl 1 rfl) ?_
        refine lv_lstore (lv' := [(9, vJ dn0), (7, vJ z24), (5, vJ dn0), (3, vJ z24), (0, .ref hm), (1, vI o), (2, vI x)]) hx hb dX8_odds_55 hl (by decide) rfl (fun ls hl => ?_)
        have L57 : ∀ (N57 : Nat) (p0 : Int) (r0 : Int) (hp0 : 0 ≤ p0 ∧ p0 ≤ 1000000000000000 ∧ 0 ≤ r0 ∧ r0 ≤ 1000000000000000) (hg : Int.gcd p0 r0 = Int.gcd z24 dn0) (hμ : r0.toNat < N57) (H : Heap) (locs : List Loc) (hP : va_P g vwCl [(hm, oB 8 [.ref m0, vI un, .ref m2, .ref m3, vI mo, vI oft, vI la, vI du, .ref m8, .ref m9, vI to, .ref m11, .ref m12, vJ tr, .ref m14, vI n, vI at0, vI sa, vI vv, .ref m19, vI rdu, .ref m21, .ref m22, vI se, vI its, .ref m25, .ref m26, vJ lt0]), (m0, aJ ca 7284 d)] H) (hD : va_D A [(hm, oB 8 [.ref m0, vI un, .ref m2, .ref m3, vI mo, vI oft, vI la, vI du, .ref m8, .ref m9, vI to, .ref m11, .ref m12, vJ tr, .ref m14, vI n, vI at0, vI sa, vI vv, .ref m19, vI rdu, .ref m21, .ref m22, vI se, vI its, .ref m25, .ref m26, vJ lt0]), (m0, aJ ca 7284 d)]) (hS : va_S A s.heap H locs) (ls : Array Slot) (hl : lv_has ls 13 [(9, vJ r0), (7, vJ p0), (5, vJ dn0), (3, vJ z24), (0, .ref hm), (1, vI o), (2, vI x)]), W p l e R s m args below meth c H locs 0 0 Q (F0 m 57 ls []) := by
          intro N57; induction N57 with
          | zero => intro p0 r0 hp0 hg hμ; exact absurd hμ (Nat.not_lt_zero _)
          | succ N57 ih57 =>
            intro p0 r0 hp0 hg hμ H locs hP hD hS ls hl
            refine lv_lload hx hb dX8_odds_57 (lv_at hl 0 rfl) ?_
            refine lv_lconst (v := Int64.ofInt 0) hx hb dX8_odds_59 (by decide) ?_
            refine rj_cmp hx hb dX8_odds_60 ⟨by omega, by omega⟩ ⟨by omega, by omega⟩ (fun z60 e60 => ?_)
            refine ri_if_eq (tgt := 82) hx hb dX8_odds_61 (by decide) ⟨by omega, by omega⟩ (fun c61 => ?_) (fun c61 => ?_)
            · skip
              have c61 : r0 = 0 := by omega
              clear e60
              have hgp : p0 = (Int.gcd z24 dn0 : Int) := by
                rw [← hg, show r0 = 0 by omega]
                simp only [Int.gcd_zero_right]
                omega
              have hgpos : 0 < p0 := by
                have h9 : 0 < Int.gcd z24 dn0 := Int.gcd_pos_of_ne_zero_right _ (by omega)
                omega
              refine lv_iload_n hx hb dX8_odds_82 rfl (lv_at hl 6 rfl) ?_
              refine ri_if_ne (tgt := 93) hx hb dX8_odds_83 (by decide) hx1 (fun c83 => ?_) (fun c83 => ?_)
              · skip
                refine lv_lload hx hb dX8_odds_93 (lv_at hl 2 rfl) ?_
                refine lv_lload hx hb dX8_odds_95 (lv_at hl 1 rfl) ?_
                refine rj_div hx hb dX8_odds_97 ⟨by omega, by omega⟩ ⟨by omega, by omega⟩ (fun z97 e97 => ?_)
                refine zr_J hx hb hr hlk hQ () hP hD hS dX8_odds_98 (Nat.le_of_ble_eq_true rfl) (Nat.le_of_ble_eq_true rfl) ?_
                show z97 = odv b nn o x
                unfold odv
                rw [if_pos (by omega)]
                rcases hdn with h9 | h9
                · have hc0 : cnt b nn o = 0 := by
                    have h8 := sm_cnt hB (o := o) (by omega) (by omega)
                    omega
                  rw [if_pos h9.1]
                  rw [q24, hc0, h9.2] at hgp
                  have hp1 : p0 = 1 := by rw [hgp]; rfl
                  first
                  | (rw [e89, q24, hc0, hp1, show x = 0 by omega]; rfl)
                  | (rw [e97, h9.2, hp1, show x = 1 by omega]; rfl)
                · rw [if_neg h9.1]
                  rw [q24, h9.2] at hgp
                  first
                  | (rw [if_pos (by omega), e89, q24, hgp])
                  | (rw [if_neg (by omega), e97, h9.2, hgp])
              · skip
                refine lv_lload_n hx hb dX8_odds_86 rfl (lv_at hl 3 rfl) ?_
                refine lv_lload hx hb dX8_odds_87 (lv_at hl 1 rfl) ?_
                refine rj_div hx hb dX8_odds_89 ⟨by omega, by omega⟩ ⟨by omega, by omega⟩ (fun z89 e89 => ?_)
                refine lv_goto (tgt := 98) hx hb dX8_odds_90 (by decide) ?_
                refine zr_J hx hb hr hlk hQ () hP hD hS dX8_odds_98 (Nat.le_of_ble_eq_true rfl) (Nat.le_of_ble_eq_true rfl) ?_
                show z89 = odv b nn o x
                unfold odv
                rw [if_pos (by omega)]
                rcases hdn with h9 | h9
                · have hc0 : cnt b nn o = 0 := by
                    have h8 := sm_cnt hB (o := o) (by omega) (by omega)
                    omega
                  rw [if_pos h9.1]
                  rw [q24, hc0, h9.2] at hgp
                  have hp1 : p0 = 1 := by rw [hgp]; rfl
                  first
                  | (rw [e89, q24, hc0, hp1, show x = 0 by omega]; rfl)
                  | (rw [e97, h9.2, hp1, show x = 1 by omega]; rfl)
                · rw [if_neg h9.1]
                  rw [q24, h9.2] at hgp
                  first
                  | (rw [if_pos (by omega), e89, q24, hgp])
                  | (rw [if_neg (by omega), e97, h9.2, hgp])
            · skip
              have c61 : ¬ r0 = 0 := by omega
              clear e60
              refine lv_lload hx hb dX8_odds_64 (lv_at hl 1 rfl) ?_
              refine lv_lload hx hb dX8_odds_66 (lv_at hl 0 rfl) ?_
              refine rj_rem hx hb dX8_odds_68 ⟨by omega, by omega⟩ ⟨by omega, by omega⟩ (fun z68 e68 => ?_)
              refine lv_lstore (lv' := [(11, vJ z68), (9, vJ r0), (7, vJ p0), (5, vJ dn0), (3, vJ z24), (0, .ref hm), (1, vI o), (2, vI x)]) hx hb dX8_odds_69 hl (by decide) rfl (fun ls hl => ?_)
              refine lv_lload hx hb dX8_odds_71 (lv_at hl 1 rfl) ?_
              refine lv_lstore (lv' := [(7, vJ r0), (11, vJ z68), (9, vJ r0), (5, vJ dn0), (3, vJ z24), (0, .ref hm), (1, vI o), (2, vI x)]) hx hb dX8_odds_73 hl (by decide) rfl (fun ls hl => ?_)
              refine lv_lload hx hb dX8_odds_75 (lv_at hl 1 rfl) ?_
              refine lv_lstore (lv' := [(9, vJ z68), (7, vJ r0), (11, vJ z68), (5, vJ dn0), (3, vJ z24), (0, .ref hm), (1, vI o), (2, vI x)]) hx hb dX8_odds_77 hl (by decide) rfl (fun ls hl => ?_)
              refine lv_goto (tgt := 57) hx hb dX8_odds_79 (by decide) ?_
              have hm68 : 0 ≤ z68 ∧ z68 < r0 := by rw [e68]; exact ⟨Int.emod_nonneg _ (by omega), Int.emod_lt_of_pos _ (by omega)⟩
              exact ih57 r0 z68 (by omega) (by rw [← hg, gcd_step hp0.1 (show 0 < r0 by omega), e68]) (by omega) _ _ hP hD hS ls (lv_sub hl [0, 1, 3, 4, 5, 6, 7] rfl)
        exact L57 _ z24 dn0 (by first | assumption | omega) (by rfl) (Nat.lt_succ_self _) _ _ hP hD hS ls (lv_sub hl [0, 1, 2, 3, 4, 5, 6] rfl)
      refine lv_lload hx hb dX8_odds_35 (lv_at hl 0 rfl) ?_
      refine lv_lconst (v := Int64.ofInt 0) hx hb dX8_odds_37 (by decide) ?_
      refine rj_cmp hx hb dX8_odds_38 ⟨by omega, by omega⟩ ⟨by omega, by omega⟩ (fun z38 e38 => ?_)
      refine ri_if_ne (tgt := 46) hx hb dX8_odds_39 (by decide) ⟨by omega, by omega⟩ (fun c39 => ?_) (fun c39 => ?_)
      · skip
        have c39 : ¬ z30 = 0 := by omega
        clear e38
        refine lv_lload hx hb dX8_odds_46 (lv_at hl 0 rfl) ?_
        exact J48 z30 (by first | exact Or.inl ⟨by omega, rfl⟩ | exact Or.inr ⟨by omega, by omega⟩) _ _ hP hD hS ls (lv_sub hl [0, 1, 2, 3, 4] rfl)
      · skip
        have c39 : z30 = 0 := by omega
        clear e38
        refine lv_lconst (v := Int64.ofInt 1) hx hb dX8_odds_42 (by decide) ?_
        refine lv_goto (tgt := 48) hx hb dX8_odds_43 (by decide) ?_
        exact J48 1 (by first | exact Or.inl ⟨by omega, rfl⟩ | exact Or.inr ⟨by omega, by omega⟩) _ _ hP hD hS ls (lv_sub hl [0, 1, 2, 3, 4] rfl)
    · skip
      refine rj_ldc (z := (-1)) hx hb hown lk_c164 dX8_odds_17 (by decide) ?_
      refine zr_J hx hb hr hlk hQ () hP hD hS dX8_odds_20 (Nat.le_of_ble_eq_true rfl) (Nat.le_of_ble_eq_true rfl) ?_
      show (-1) = odv b nn o x
      unfold odv
      rw [if_neg (fun q => by omega)]
set_option maxHeartbeats 4000000 in
set_option maxRecDepth 100000 in
theorem k_X8_barley (l : Launch) (g : va_G) (ca : Nat → ClassId) (hm : Nat) (m0 : Nat) (m2 : Nat) (m3 : Nat) (m8 : Nat) (m9 : Nat) (m11 : Nat) (m12 : Nat) (m14 : Nat) (m19 : Nat) (m21 : Nat) (m22 : Nat) (m25 : Nat) (m26 : Nat) (un : Int) (mo : Int) (oft : Int) (la : Int) (du : Int) (to : Int) (tr : Int) (n : Int) (at0 : Int) (sa : Int) (vv : Int) (rdu : Int) (se : Int) (its : Int) (lt0 : Int) (d : Int → Int) (w : Int → Int) (y : Int) (x : Int) (b : Int → Int) (nn : Int) (ml : Int) (hAT : AT d 0 b nn ml) (hB : GB b nn) (hW : GW w) (hLM : LMok ml) (hx0 : in32 y) (hx1 : in32 x) : zJ (S := Unit) l yX8_barley wsX8_barley ({ frames := 2, cells := 0, slots := 0, locals := 49 } : Room) g ca [.ref hm, vI y, vI x] [(hm, oB 8 [.ref m0, vI un, .ref m2, .ref m3, vI mo, vI oft, vI la, vI du, .ref m8, .ref m9, vI to, .ref m11, .ref m12, vJ tr, .ref m14, vI n, vI at0, vI sa, vI vv, .ref m19, vI rdu, .ref m21, .ref m22, vI se, vI its, .ref m25, .ref m26, vJ lt0]), (m0, aJ ca 7284 d), (m3, aI ca 5 w)] (fun (z : Int) (u : Unit) => z = bav w b nn ml y x) (fun (u : Unit) => [(hm, oB 8 [.ref m0, vI un, .ref m2, .ref m3, vI mo, vI oft, vI la, vI du, .ref m8, .ref m9, vI to, .ref m11, .ref m12, vJ tr, .ref m14, vI n, vI at0, vI sa, vI vv, .ref m19, vI rdu, .ref m21, .ref m22, vI se, vI its, .ref m25, .ref m26, vJ lt0]), (m0, aJ ca 7284 d), (m3, aI ca 5 w)]) 0 0 := by
  refine zm_J (cc := cX8_barley) (maxL := 5) (ret := some .long) (by decide) rfl (Nat.le_of_ble_eq_true rfl) ?_
  intro p e s m below meth c A ls R args Q hR hargs hQ hx hb hml hr hts hown hlk hnm hK hP hD hA hS hl
  have hown : s.vm.findClass RX8 = some m.cls := hown
  have hl : lv_has ls 5 [(0, .ref hm), (1, vI y), (2, vI x)] := hl
  have lk_c231 : (Cond.constantLong RX8 231 (1000)).before args s = true := hts _ (by decide +kernel)
  have lk_c164 : (Cond.constantLong RX8 164 (-1)).before args s = true := hts _ (by decide +kernel)
  have lk_c180 : (Cond.constantLong RX8 180 (1000000)).before args s = true := hts _ (by decide +kernel)
  have lk_c222 : (Cond.constantLong RX8 222 (-9)).before args s = true := hts _ (by decide +kernel)
  obtain ⟨hlm1, hlm2⟩ := hLM
  refine lv_iload_n hx hb dX8_barley_0 rfl (lv_at hl 1 rfl) ?_
  refine ri_l hx hb dX8_barley_1 hx0 ?_
  refine lv_lconst (v := Int64.ofInt 1) hx hb dX8_barley_2 (by decide) ?_
  refine rj_ldc (z := 1000) hx hb hown lk_c231 dX8_barley_3 (by decide) ?_
  refine zc_SI (As := [vJ y, vJ 1, vJ 1000]) (rest := []) (wc := []) (wr := [(hm, oB 8 [.ref m0, vI un, .ref m2, .ref m3, vI mo, vI oft, vI la, vI du, .ref m8, .ref m9, vI to, .ref m11, .ref m12, vJ tr, .ref m14, vI n, vI at0, vI sa, vI vv, .ref m19, vI rdu, .ref m21, .ref m22, vI se, vI its, .ref m25, .ref m26, vJ lt0]), (m0, aJ ca 7284 d), (m3, aI ca 5 w)]) (k_X8_in l g ca y 1 1000 (by exact ⟨by omega, by omega⟩) (by exact ⟨by omega, by omega⟩) (by exact ⟨by omega, by omega⟩)) dX8_barley_6 (va_cwS 3 hts gX8_barley_X8_in rfl rfl rfl (by decide +kernel) (by rw [hR]; exact ⟨Nat.le_of_ble_eq_true rfl, Nat.le_of_ble_eq_true rfl⟩)) ⟨hx, hb, hml, hown, hts⟩ hl.1 hK hP hD hS hA [] [0, 1, 2] rfl (by decide) rfl (by decide) (by decide) rfl rfl (Nat.le_of_ble_eq_true rfl) (by rw [hR]; exact ⟨Nat.le_of_ble_eq_true rfl, Nat.le_of_ble_eq_true rfl⟩) (fun z6 u H locs q6 hP hD hS => ?_)
  have q6 : (z6 = 1 ∧ 1 ≤ y ∧ y ≤ 1000) ∨ (z6 = 0 ∧ ¬ (1 ≤ y ∧ y ≤ 1000)) := q6
  have hP : va_P g vwCl [(hm, oB 8 [.ref m0, vI un, .ref m2, .ref m3, vI mo, vI oft, vI la, vI du, .ref m8, .ref m9, vI to, .ref m11, .ref m12, vJ tr, .ref m14, vI n, vI at0, vI sa, vI vv, .ref m19, vI rdu, .ref m21, .ref m22, vI se, vI its, .ref m25, .ref m26, vJ lt0]), (m0, aJ ca 7284 d), (m3, aI ca 5 w)] H := hP.sub [0, 1, 2] rfl
  have hD : va_D A [(hm, oB 8 [.ref m0, vI un, .ref m2, .ref m3, vI mo, vI oft, vI la, vI du, .ref m8, .ref m9, vI to, .ref m11, .ref m12, vJ tr, .ref m14, vI n, vI at0, vI sa, vI vv, .ref m19, vI rdu, .ref m21, .ref m22, vI se, vI its, .ref m25, .ref m26, vJ lt0]), (m0, aJ ca 7284 d), (m3, aI ca 5 w)] := hD.sub [0, 1, 2] (by decide) rfl
  refine ri_if_eq (tgt := 24) hx hb dX8_barley_9 (by decide) ⟨by omega, by omega⟩ (fun c9 => ?_) (fun c9 => ?_)
  · skip
    refine rj_ldc (z := (-1)) hx hb hown lk_c164 dX8_barley_24 (by decide) ?_
    refine zr_J hx hb hr hlk hQ () hP hD hS dX8_barley_27 (Nat.le_of_ble_eq_true rfl) (Nat.le_of_ble_eq_true rfl) ?_
    show (-1) = bav w b nn ml y x
    unfold bav
    first
    | (rw [if_neg (fun q => by omega)])
    | (rw [if_pos (by omega), if_pos (by omega)])
    | (rw [if_pos (by omega), if_neg (by omega), e52, e50, q30])
  · skip
    refine lv_iload_n hx hb dX8_barley_12 rfl (lv_at hl 2 rfl) ?_
    refine ri_l hx hb dX8_barley_13 hx1 ?_
    refine lv_lconst (v := Int64.ofInt 0) hx hb dX8_barley_14 (by decide) ?_
    refine rj_ldc (z := 1000000) hx hb hown lk_c180 dX8_barley_15 (by decide) ?_
    refine zc_SI (As := [vJ x, vJ 0, vJ 1000000]) (rest := []) (wc := []) (wr := [(hm, oB 8 [.ref m0, vI un, .ref m2, .ref m3, vI mo, vI oft, vI la, vI du, .ref m8, .ref m9, vI to, .ref m11, .ref m12, vJ tr, .ref m14, vI n, vI at0, vI sa, vI vv, .ref m19, vI rdu, .ref m21, .ref m22, vI se, vI its, .ref m25, .ref m26, vJ lt0]), (m0, aJ ca 7284 d), (m3, aI ca 5 w)]) (k_X8_in l g ca x 0 1000000 (by exact ⟨by omega, by omega⟩) (by exact ⟨by omega, by omega⟩) (by exact ⟨by omega, by omega⟩)) dX8_barley_18 (va_cwS 3 hts gX8_barley_X8_in rfl rfl rfl (by decide +kernel) (by rw [hR]; exact ⟨Nat.le_of_ble_eq_true rfl, Nat.le_of_ble_eq_true rfl⟩)) ⟨hx, hb, hml, hown, hts⟩ hl.1 hK hP hD hS hA [] [0, 1, 2] rfl (by decide) rfl (by decide) (by decide) rfl rfl (Nat.le_of_ble_eq_true rfl) (by rw [hR]; exact ⟨Nat.le_of_ble_eq_true rfl, Nat.le_of_ble_eq_true rfl⟩) (fun z18 u H locs q18 hP hD hS => ?_)
    have q18 : (z18 = 1 ∧ 0 ≤ x ∧ x ≤ 1000000) ∨ (z18 = 0 ∧ ¬ (0 ≤ x ∧ x ≤ 1000000)) := q18
    have hP : va_P g vwCl [(hm, oB 8 [.ref m0, vI un, .ref m2, .ref m3, vI mo, vI oft, vI la, vI du, .ref m8, .ref m9, vI to, .ref m11, .ref m12, vJ tr, .ref m14, vI n, vI at0, vI sa, vI vv, .ref m19, vI rdu, .ref m21, .ref m22, vI se, vI its, .ref m25, .ref m26, vJ lt0]), (m0, aJ ca 7284 d), (m3, aI ca 5 w)] H := hP.sub [0, 1, 2] rfl
    have hD : va_D A [(hm, oB 8 [.ref m0, vI un, .ref m2, .ref m3, vI mo, vI oft, vI la, vI du, .ref m8, .ref m9, vI to, .ref m11, .ref m12, vJ tr, .ref m14, vI n, vI at0, vI sa, vI vv, .ref m19, vI rdu, .ref m21, .ref m22, vI se, vI its, .ref m25, .ref m26, vJ lt0]), (m0, aJ ca 7284 d), (m3, aI ca 5 w)] := hD.sub [0, 1, 2] (by decide) rfl
    refine ri_if_ne (tgt := 28) hx hb dX8_barley_21 (by decide) ⟨by omega, by omega⟩ (fun c21 => ?_) (fun c21 => ?_)
    · skip
      refine lv_aload_n hx hb dX8_barley_28 rfl (lv_at hl 0 rfl) ?_
      refine lv_iconst (v := Int32.ofInt 0) hx hb dX8_barley_29 rfl ?_
      refine zc_VJ (As := [vI 0]) (rest := []) (wc := [(hm, oB 8 [.ref m0, vI un, .ref m2, .ref m3, vI mo, vI oft, vI la, vI du, .ref m8, .ref m9, vI to, .ref m11, .ref m12, vJ tr, .ref m14, vI n, vI at0, vI sa, vI vv, .ref m19, vI rdu, .ref m21, .ref m22, vI se, vI its, .ref m25, .ref m26, vJ lt0]), (m0, aJ ca 7284 d), (m3, aI ca 5 w)]) (wr := []) (k_X8_weighs l g ca hm m0 m2 m3 m8 m9 m11 m12 m14 m19 m21 m22 m25 m26 un mo oft la du to tr n at0 sa vv rdu se its lt0 d w 0 b nn ml (by first | assumption | omega) (by first | assumption | omega) (by first | assumption | omega) (by first | assumption | omega)) dX8_barley_30 (cwV 1 hts gX8_barley_X8_weighs rfl rfl rfl (by decide +kernel) (by rw [hR]; exact ⟨Nat.le_of_ble_eq_true rfl, Nat.le_of_ble_eq_true rfl⟩)) ⟨hx, hb, hml, hown, hts⟩ hl.1 hK hP hD hS hA 0 rfl rfl rfl [0, 1, 2] [] rfl (by decide) rfl (by decide) (by decide) rfl rfl (Nat.le_of_ble_eq_true rfl) (by rw [hR]; exact ⟨Nat.le_of_ble_eq_true rfl, Nat.le_of_ble_eq_true rfl⟩) (fun z30 u H locs q30 hP hD hS => ?_)
      have q30 : z30 = wgt b w nn + ml := q30
      have hP : va_P g vwCl [(hm, oB 8 [.ref m0, vI un, .ref m2, .ref m3, vI mo, vI oft, vI la, vI du, .ref m8, .ref m9, vI to, .ref m11, .ref m12, vJ tr, .ref m14, vI n, vI at0, vI sa, vI vv, .ref m19, vI rdu, .ref m21, .ref m22, vI se, vI its, .ref m25, .ref m26, vJ lt0]), (m0, aJ ca 7284 d), (m3, aI ca 5 w)] H := hP.sub [0, 1, 2] rfl
      have hD : va_D A [(hm, oB 8 [.ref m0, vI un, .ref m2, .ref m3, vI mo, vI oft, vI la, vI du, .ref m8, .ref m9, vI to, .ref m11, .ref m12, vJ tr, .ref m14, vI n, vI at0, vI sa, vI vv, .ref m19, vI rdu, .ref m21, .ref m22, vI se, vI its, .ref m25, .ref m26, vJ lt0]), (m0, aJ ca 7284 d), (m3, aI ca 5 w)] := hD.sub [0, 1, 2] (by decide) rfl
      refine lv_lstore_n (lv' := [(3, vJ z30), (0, .ref hm), (1, vI y), (2, vI x)]) hx hb dX8_barley_33 rfl hl (by decide) rfl (fun ls hl => ?_)
      have hw34 := wgt_bd hB hW
      refine lv_lload_n hx hb dX8_barley_34 rfl (lv_at hl 0 rfl) ?_
      refine lv_lconst (v := Int64.ofInt 0) hx hb dX8_barley_35 (by decide) ?_
      refine rj_cmp hx hb dX8_barley_36 ⟨by omega, by omega⟩ ⟨by omega, by omega⟩ (fun z36 e36 => ?_)
      refine ri_if_ne (tgt := 46) hx hb dX8_barley_37 (by decide) ⟨by omega, by omega⟩ (fun c37 => ?_) (fun c37 => ?_)
      · skip
        have c37 : ¬ z30 = 0 := by omega
        clear e36
        refine lv_iload_n hx hb dX8_barley_46 rfl (lv_at hl 2 rfl) ?_
        refine ri_l hx hb dX8_barley_47 hx0 ?_
        refine lv_iload_n hx hb dX8_barley_48 rfl (lv_at hl 3 rfl) ?_
        refine ri_l hx hb dX8_barley_49 hx1 ?_
        refine rj_mul hx hb dX8_barley_50 (fun z50 e50 => ?_)
        have hm51 := mul_rng (a := y) (b := x) (A := 1000) (B := 1000000) (by omega) (by omega)
        refine lv_lload_n hx hb dX8_barley_51 rfl (lv_at hl 0 rfl) ?_
        refine rj_div hx hb dX8_barley_52 ⟨by omega, by omega⟩ ⟨by omega, by omega⟩ (fun z52 e52 => ?_)
        refine zr_J hx hb hr hlk hQ () hP hD hS dX8_barley_53 (Nat.le_of_ble_eq_true rfl) (Nat.le_of_ble_eq_true rfl) ?_
        show z52 = bav w b nn ml y x
        unfold bav
        first
        | (rw [if_neg (fun q => by omega)])
        | (rw [if_pos (by omega), if_pos (by omega)])
        | (rw [if_pos (by omega), if_neg (by omega), e52, e50, q30])
      · skip
        have c37 : z30 = 0 := by omega
        clear e36
        refine rj_ldc (z := (-9)) hx hb hown lk_c222 dX8_barley_40 (by decide) ?_
        refine lv_goto (tgt := 53) hx hb dX8_barley_43 (by decide) ?_
        refine zr_J hx hb hr hlk hQ () hP hD hS dX8_barley_53 (Nat.le_of_ble_eq_true rfl) (Nat.le_of_ble_eq_true rfl) ?_
        show (-9) = bav w b nn ml y x
        unfold bav
        first
        | (rw [if_neg (fun q => by omega)])
        | (rw [if_pos (by omega), if_pos (by omega)])
        | (rw [if_pos (by omega), if_neg (by omega), e52, e50, q30])
    · skip
      refine rj_ldc (z := (-1)) hx hb hown lk_c164 dX8_barley_24 (by decide) ?_
      refine zr_J hx hb hr hlk hQ () hP hD hS dX8_barley_27 (Nat.le_of_ble_eq_true rfl) (Nat.le_of_ble_eq_true rfl) ?_
      show (-1) = bav w b nn ml y x
      unfold bav
      first
      | (rw [if_neg (fun q => by omega)])
      | (rw [if_pos (by omega), if_pos (by omega)])
      | (rw [if_pos (by omega), if_neg (by omega), e52, e50, q30])
set_option maxHeartbeats 4000000 in
set_option maxRecDepth 100000 in
theorem k_X8_meets (l : Launch) (g : va_G) (ca : Nat → ClassId) (hm : Nat) (m0 : Nat) (m2 : Nat) (m3 : Nat) (m8 : Nat) (m9 : Nat) (m11 : Nat) (m12 : Nat) (m14 : Nat) (m19 : Nat) (m21 : Nat) (m22 : Nat) (m25 : Nat) (m26 : Nat) (un : Int) (mo : Int) (oft : Int) (la : Int) (du : Int) (to : Int) (tr : Int) (n : Int) (at0 : Int) (sa : Int) (vv : Int) (rdu : Int) (se : Int) (its : Int) (lt0 : Int) (d : Int → Int) (w : Int → Int) (dn : Int → Int) (dw : Int → Int) (cn : Int → Int) (ch : Int → Int) (b : Int → Int) (nn : Int) (ml : Int) (hAT : AT d 0 b nn ml) (hB : GB b nn) (hDU : DUok dn dw du) (hW : GW w) (hE : EAok (ef oft la)) (hM : 1 ≤ mo ∧ mo ≤ 9) : zI (S := (Int → Int) × (Int → Int) × Int × (Int → Int)) l yX8_meets wsX8_meets ({ frames := 4, cells := 0, slots := 0, locals := 101 } : Room) g ca [.ref hm] [(hm, oB 8 [.ref m0, vI un, .ref m2, .ref m3, vI mo, vI oft, vI la, vI du, .ref m8, .ref m9, vI to, .ref m11, .ref m12, vJ tr, .ref m14, vI n, vI at0, vI sa, vI vv, .ref m19, vI rdu, .ref m21, .ref m22, vI se, vI its, .ref m25, .ref m26, vJ lt0]), (m0, aJ ca 7284 d), (m3, aI ca 5 w), (m8, aI ca 6 dn), (m9, aI ca 6 dw), (m25, aZ ca 1806 cn), (m26, aI ca 5 ch)] (fun (z : Int) (u : (Int → Int) × (Int → Int) × Int × (Int → Int)) => z = (pds w (ef oft la) dn dw mo du (120 - nn).toNat nn b lt0).1 ∧ u.2.2.1 = (pds w (ef oft la) dn dw mo du (120 - nn).toNat nn b lt0).2.2 ∧ FRM d u.2.2.2 607) (fun (u : (Int → Int) × (Int → Int) × Int × (Int → Int)) => [(hm, oB 8 [.ref m0, vI un, .ref m2, .ref m3, vI mo, vI oft, vI la, vI du, .ref m8, .ref m9, vI to, .ref m11, .ref m12, vJ tr, .ref m14, vI n, vI at0, vI sa, vI vv, .ref m19, vI rdu, .ref m21, .ref m22, vI se, vI its, .ref m25, .ref m26, vJ u.2.2.1]), (m0, aJ ca 7284 u.2.2.2), (m3, aI ca 5 w), (m8, aI ca 6 dn), (m9, aI ca 6 dw), (m25, aZ ca 1806 u.1), (m26, aI ca 5 u.2.1)]) 0 0 := by
  refine zm_I (cc := cX8_meets) (maxL := 4) (ret := some .int) (by decide) rfl (Nat.le_of_ble_eq_true rfl) ?_
  intro p e s m below meth c A ls R args Q hR hargs hQ hx hb hml hr hts hown hlk hnm hK hP hD hA hS hl
  have hown : s.vm.findClass RX8 = some m.cls := hown
  have hl : lv_has ls 4 [(0, .ref hm)] := hl
  have lk_f7 : (Cond.fieldLink RX8 7 "DripRingsModel" "d" "[J").before args s = true := hts _ (by decide +kernel)
  have inF_X8 : ∀ w ∈ wsX80, w ∈ wsX8_meets := by decide +kernel
  have lk_f76 : (Cond.fieldLink RX8 76 "DripRingsModel" "dues" "I").before args s = true := hts _ (by decide +kernel)
  have lk_f21 : (Cond.fieldLink RX8 21 "DripRingsModel" "dueNight" "[I").before args s = true := hts _ (by decide +kernel)
  have lk_f24 : (Cond.fieldLink RX8 24 "DripRingsModel" "dueWeight" "[I").before args s = true := hts _ (by decide +kernel)
  have lk_f214 : (Cond.fieldLink RX8 214 "DripRingsModel" "leftThen" "J").before args s = true := hts _ (by decide +kernel)
  have lk_f48 : (Cond.fieldLink RX8 48 "DripRingsModel" "chosen" "[I").before args s = true := hts _ (by decide +kernel)
  have hn0 := hB.1
  have hdu := hDU.1
  refine lv_aload_n hx hb dX8_meets_0 rfl (lv_at hl 0 rfl) ?_
  refine lv_iconst (v := Int32.ofInt 0) hx hb dX8_meets_1 rfl ?_
  refine lv_sipush (v := Int32.ofInt 607) hx hb dX8_meets_2 (by decide) ?_
  refine zc_VV (As := [vI 0, vI 607]) (rest := []) (wc := [(hm, oB 8 [.ref m0, vI un, .ref m2, .ref m3, vI mo, vI oft, vI la, vI du, .ref m8, .ref m9, vI to, .ref m11, .ref m12, vJ tr, .ref m14, vI n, vI at0, vI sa, vI vv, .ref m19, vI rdu, .ref m21, .ref m22, vI se, vI its, .ref m25, .ref m26, vJ lt0]), (m0, aJ ca 7284 d)]) (wr := [(m3, aI ca 5 w), (m8, aI ca 6 dn), (m9, aI ca 6 dw), (m25, aZ ca 1806 cn), (m26, aI ca 5 ch)]) (k_X8_copy l g ca hm m0 m2 m3 m8 m9 m11 m12 m14 m19 m21 m22 m25 m26 un mo oft la du to tr n at0 sa vv rdu se its lt0 d 0 607 (by first | assumption | omega)) dX8_meets_5 (cwV 2 hts gX8_meets_X8_copy rfl rfl rfl (by decide +kernel) (by rw [hR]; exact ⟨Nat.le_of_ble_eq_true rfl, Nat.le_of_ble_eq_true rfl⟩)) ⟨hx, hb, hml, hown, hts⟩ hl.1 hK hP hD hS hA 0 rfl rfl rfl [0, 1] [2, 3, 4, 5, 6] rfl (by decide) rfl (by decide) (by decide) rfl rfl (Nat.le_of_ble_eq_true rfl) (by rw [hR]; exact ⟨Nat.le_of_ble_eq_true rfl, Nat.le_of_ble_eq_true rfl⟩) (fun u H locs q5 hP hD hS => ?_)
  obtain ⟨d1_5, rfl⟩ : ∃ q, q = u := ⟨_, rfl⟩
  have q5 : (∀ j : Int, d1_5 j = if 607 ≤ j ∧ j < 607 + 607 then d (0 + (j - 607)) else d j) := q5
  have hP : va_P g vwCl [(hm, oB 8 [.ref m0, vI un, .ref m2, .ref m3, vI mo, vI oft, vI la, vI du, .ref m8, .ref m9, vI to, .ref m11, .ref m12, vJ tr, .ref m14, vI n, vI at0, vI sa, vI vv, .ref m19, vI rdu, .ref m21, .ref m22, vI se, vI its, .ref m25, .ref m26, vJ lt0]), (m0, aJ ca 7284 d1_5), (m3, aI ca 5 w), (m8, aI ca 6 dn), (m9, aI ca 6 dw), (m25, aZ ca 1806 cn), (m26, aI ca 5 ch)] H := hP.sub [5, 6, 0, 1, 2, 3, 4] rfl
  have hD : va_D A [(hm, oB 8 [.ref m0, vI un, .ref m2, .ref m3, vI mo, vI oft, vI la, vI du, .ref m8, .ref m9, vI to, .ref m11, .ref m12, vJ tr, .ref m14, vI n, vI at0, vI sa, vI vv, .ref m19, vI rdu, .ref m21, .ref m22, vI se, vI its, .ref m25, .ref m26, vJ lt0]), (m0, aJ ca 7284 d1_5), (m3, aI ca 5 w), (m8, aI ca 6 dn), (m9, aI ca 6 dw), (m25, aZ ca 1806 cn), (m26, aI ca 5 ch)] := hD.sub [5, 6, 0, 1, 2, 3, 4] (by decide) rfl
  refine lv_aload_n hx hb dX8_meets_8 rfl (lv_at hl 0 rfl) ?_
  refine va_get (D := g) (ci := 8) (v := .ref m0) (C := RX8) (T := TX8) (N := 28) hx hb hts inF_X8 hown hK.1 hP 0 rfl rfl 0 (by decide) lk_f7 (fun _ h9 => h9) rfl dX8_meets_9 ?_
  refine lv_sipush (v := Int32.ofInt 606) hx hb dX8_meets_12 (by decide) ?_
  refine ra_lld hx hb hK hP 1 rfl dX8_meets_15 ⟨by omega, by omega⟩ (by omega) ?_
  have hd16 : d1_5 606 = nn := by rw [(CPY q5 hAT).2 606 (by omega)]; have := hAT.2.2; rw [show (0 : Int) + 606 = 606 from rfl] at this; exact this
  refine rj_i hx hb dX8_meets_16 ⟨by omega, by omega⟩ ?_
  refine lv_iconst (v := Int32.ofInt 1) hx hb dX8_meets_17 rfl ?_
  refine ri_add hx hb dX8_meets_18 (fun z18 e18 => ?_)
  refine lv_istore_n (lv' := [(1, vI z18), (0, .ref hm)]) hx hb dX8_meets_19 rfl hl (by decide) rfl (fun ls hl => ?_)
  have L20 : ∀ (N20 : Nat) (i : Int) (lt2 : Int) (bi : Int → Int) (f : Int → Int) (cn2 : Int → Int) (ch2 : Int → Int) (k : Nat) (hi : nn + 1 ≤ i ∧ i + k = 121 ∧ i ≤ 121) (hf : AT f 607 bi (i - 1) ml) (hfr : FRM d f 607) (hBi : GB bi (i - 1)) (hv : pds w (ef oft la) dn dw mo du k (i - 1) bi lt2 = pds w (ef oft la) dn dw mo du (120 - nn).toNat nn b lt0) (hμ : k < N20) (H : Heap) (locs : List Loc) (hP : va_P g vwCl [(hm, oB 8 [.ref m0, vI un, .ref m2, .ref m3, vI mo, vI oft, vI la, vI du, .ref m8, .ref m9, vI to, .ref m11, .ref m12, vJ tr, .ref m14, vI n, vI at0, vI sa, vI vv, .ref m19, vI rdu, .ref m21, .ref m22, vI se, vI its, .ref m25, .ref m26, vJ lt2]), (m0, aJ ca 7284 f), (m3, aI ca 5 w), (m8, aI ca 6 dn), (m9, aI ca 6 dw), (m25, aZ ca 1806 cn2), (m26, aI ca 5 ch2)] H) (hD : va_D A [(hm, oB 8 [.ref m0, vI un, .ref m2, .ref m3, vI mo, vI oft, vI la, vI du, .ref m8, .ref m9, vI to, .ref m11, .ref m12, vJ tr, .ref m14, vI n, vI at0, vI sa, vI vv, .ref m19, vI rdu, .ref m21, .ref m22, vI se, vI its, .ref m25, .ref m26, vJ lt2]), (m0, aJ ca 7284 f), (m3, aI ca 5 w), (m8, aI ca 6 dn), (m9, aI ca 6 dw), (m25, aZ ca 1806 cn2), (m26, aI ca 5 ch2)]) (hS : va_S A s.heap H locs) (ls : Array Slot) (hl : lv_has ls 4 [(1, vI i), (0, .ref hm)]), W p l e R s m args below meth c H locs 0 0 Q (F0 m 20 ls []) := by
    intro N20; induction N20 with
    | zero => intro i lt2 bi f cn2 ch2 k hi hf hfr hBi hv hμ; exact absurd hμ (Nat.not_lt_zero _)
    | succ N20 ih20 =>
      intro i lt2 bi f cn2 ch2 k hi hf hfr hBi hv hμ H locs hP hD hS ls hl
      refine lv_iload_n hx hb dX8_meets_20 rfl (lv_at hl 0 rfl) ?_
      refine lv_bipush (v := Int32.ofInt 120) hx hb dX8_meets_21 (by decide) ?_
      refine ri_icmp_gt (tgt := 132) hx hb dX8_meets_23 (by decide) ⟨by omega, by omega⟩ ⟨by omega, by omega⟩ (fun c23 => ?_) (fun c23 => ?_)
      · skip
        refine lv_bipush (v := Int32.ofInt (-9)) hx hb dX8_meets_132 (by decide) ?_
        refine zr_I hx hb hr hlk hQ (cn2, ch2, lt2, f) hP hD hS dX8_meets_134 (Nat.le_of_ble_eq_true rfl) (Nat.le_of_ble_eq_true rfl) ?_
        show (-9) = (pds w (ef oft la) dn dw mo du (120 - nn).toNat nn b lt0).1 ∧ lt2 = (pds w (ef oft la) dn dw mo du (120 - nn).toNat nn b lt0).2.2 ∧ FRM d f 607
        rw [show k = 0 by omega] at hv
        rw [← hv]
        exact ⟨rfl, rfl, hfr⟩
      · skip
        obtain ⟨k1, rfl⟩ : ∃ q, k = q + 1 := ⟨k - 1, by omega⟩
        refine lv_aload_n hx hb dX8_meets_26 rfl (lv_at hl 1 rfl) ?_
        refine lv_sipush (v := Int32.ofInt 607) hx hb dX8_meets_27 (by decide) ?_
        refine zc_VJ (As := [vI 607]) (rest := []) (wc := [(hm, oB 8 [.ref m0, vI un, .ref m2, .ref m3, vI mo, vI oft, vI la, vI du, .ref m8, .ref m9, vI to, .ref m11, .ref m12, vJ tr, .ref m14, vI n, vI at0, vI sa, vI vv, .ref m19, vI rdu, .ref m21, .ref m22, vI se, vI its, .ref m25, .ref m26, vJ lt2]), (m0, aJ ca 7284 f), (m3, aI ca 5 w)]) (wr := [(m8, aI ca 6 dn), (m9, aI ca 6 dw), (m25, aZ ca 1806 cn2), (m26, aI ca 5 ch2)]) (k_X8_goes l g ca hm m0 m2 m3 m8 m9 m11 m12 m14 m19 m21 m22 m25 m26 un mo oft la du to tr n at0 sa vv rdu se its lt2 f w 607 bi (i - 1) ml (by first | assumption | omega) (by exact hf) (by exact hBi) (by first | assumption | omega) (by first | assumption | omega) (by first | assumption | omega) (by first | assumption | omega)) dX8_meets_30 (cwV 1 hts gX8_meets_X8_goes rfl rfl rfl (by decide +kernel) (by rw [hR]; exact ⟨Nat.le_of_ble_eq_true rfl, Nat.le_of_ble_eq_true rfl⟩)) ⟨hx, hb, hml, hown, hts⟩ hl.1 hK hP hD hS hA 0 rfl rfl rfl [0, 1, 2] [3, 4, 5, 6] rfl (by decide) rfl (by decide) (by decide) rfl rfl (Nat.le_of_ble_eq_true rfl) (by rw [hR]; exact ⟨Nat.le_of_ble_eq_true rfl, Nat.le_of_ble_eq_true rfl⟩) (fun z30 u H locs q30 hP hD hS => ?_)
        obtain ⟨d1_30, rfl⟩ : ∃ q, q = u := ⟨_, rfl⟩
        have q30 : AT d1_30 607 (gs w (ef oft la) mo ((i - 1) + 1) bi 4).1 ((i - 1) + 1) ml ∧ FRM f d1_30 607 ∧ z30 = (gs w (ef oft la) mo ((i - 1) + 1) bi 4).2 := q30
        obtain ⟨q30_0, q30_1, q30_2⟩ := q30
        have hP : va_P g vwCl [(hm, oB 8 [.ref m0, vI un, .ref m2, .ref m3, vI mo, vI oft, vI la, vI du, .ref m8, .ref m9, vI to, .ref m11, .ref m12, vJ tr, .ref m14, vI n, vI at0, vI sa, vI vv, .ref m19, vI rdu, .ref m21, .ref m22, vI se, vI its, .ref m25, .ref m26, vJ lt2]), (m0, aJ ca 7284 d1_30), (m3, aI ca 5 w), (m8, aI ca 6 dn), (m9, aI ca 6 dw), (m25, aZ ca 1806 cn2), (m26, aI ca 5 ch2)] H := hP.sub [4, 5, 6, 0, 1, 2, 3] rfl
        have hD : va_D A [(hm, oB 8 [.ref m0, vI un, .ref m2, .ref m3, vI mo, vI oft, vI la, vI du, .ref m8, .ref m9, vI to, .ref m11, .ref m12, vJ tr, .ref m14, vI n, vI at0, vI sa, vI vv, .ref m19, vI rdu, .ref m21, .ref m22, vI se, vI its, .ref m25, .ref m26, vJ lt2]), (m0, aJ ca 7284 d1_30), (m3, aI ca 5 w), (m8, aI ca 6 dn), (m9, aI ca 6 dw), (m25, aZ ca 1806 cn2), (m26, aI ca 5 ch2)] := hD.sub [4, 5, 6, 0, 1, 2, 3] (by decide) rfl
        refine lv_pop2_2 hx hb dX8_meets_33 rfl ?_
        refine lv_iconst (v := Int32.ofInt 0) hx hb dX8_meets_34 rfl ?_
        refine lv_istore_n (lv' := [(2, vI 0), (1, vI i), (0, .ref hm)]) hx hb dX8_meets_35 rfl hl (by decide) rfl (fun ls hl => ?_)
        have L36 : ∀ (N36 : Nat) (jj : Int) (lt3 : Int) (b2 : Int → Int) (f2 : Int → Int) (cn3 : Int → Int) (ch3 : Int → Int) (kk : Nat) (hj : 0 ≤ jj ∧ jj + kk = du) (hf2 : AT f2 607 b2 i ml) (hfr2 : FRM d f2 607) (hB2 : GB b2 i) (hv2 : pdi w dn dw i kk jj b2 lt3 = pdi w dn dw i du.toNat 0 (gs w (ef oft la) mo i bi 4).1 lt2) (hμ : kk < N36) (H : Heap) (locs : List Loc) (hP : va_P g vwCl [(hm, oB 8 [.ref m0, vI un, .ref m2, .ref m3, vI mo, vI oft, vI la, vI du, .ref m8, .ref m9, vI to, .ref m11, .ref m12, vJ tr, .ref m14, vI n, vI at0, vI sa, vI vv, .ref m19, vI rdu, .ref m21, .ref m22, vI se, vI its, .ref m25, .ref m26, vJ lt3]), (m0, aJ ca 7284 f2), (m3, aI ca 5 w), (m8, aI ca 6 dn), (m9, aI ca 6 dw), (m25, aZ ca 1806 cn3), (m26, aI ca 5 ch3)] H) (hD : va_D A [(hm, oB 8 [.ref m0, vI un, .ref m2, .ref m3, vI mo, vI oft, vI la, vI du, .ref m8, .ref m9, vI to, .ref m11, .ref m12, vJ tr, .ref m14, vI n, vI at0, vI sa, vI vv, .ref m19, vI rdu, .ref m21, .ref m22, vI se, vI its, .ref m25, .ref m26, vJ lt3]), (m0, aJ ca 7284 f2), (m3, aI ca 5 w), (m8, aI ca 6 dn), (m9, aI ca 6 dw), (m25, aZ ca 1806 cn3), (m26, aI ca 5 ch3)]) (hS : va_S A s.heap H locs) (ls : Array Slot) (hl : lv_has ls 4 [(2, vI jj), (1, vI i), (0, .ref hm)]), W p l e R s m args below meth c H locs 0 0 Q (F0 m 36 ls []) := by
          intro N36; induction N36 with
          | zero => intro jj lt3 b2 f2 cn3 ch3 kk hj hf2 hfr2 hB2 hv2 hμ; exact absurd hμ (Nat.not_lt_zero _)
          | succ N36 ih36 =>
            intro jj lt3 b2 f2 cn3 ch3 kk hj hf2 hfr2 hB2 hv2 hμ H locs hP hD hS ls hl
            refine lv_iload_n hx hb dX8_meets_36 rfl (lv_at hl 0 rfl) ?_
            refine lv_aload_n hx hb dX8_meets_37 rfl (lv_at hl 2 rfl) ?_
            refine va_get (D := g) (ci := 8) (v := vI du) (C := RX8) (T := TX8) (N := 28) hx hb hts inF_X8 hown hK.1 hP 0 rfl rfl 7 (by decide) lk_f76 (fun _ h9 => h9) rfl dX8_meets_38 ?_
            refine ri_icmp_ge (tgt := 126) hx hb dX8_meets_41 (by decide) ⟨by omega, by omega⟩ ⟨by omega, by omega⟩ (fun c41 => ?_) (fun c41 => ?_)
            · skip
              obtain ⟨z126, e126⟩ : ∃ q : Int, q = i + 1 := ⟨_, rfl⟩
              refine ri_inc (lv' := [(1, vI z126), (2, vI jj), (0, .ref hm)]) hx hb dX8_meets_126 hl (k := 1) rfl (by decide) z126 e126 rfl (fun ls hl => ?_)
              refine lv_goto (tgt := 20) hx hb dX8_meets_129 (by decide) ?_
              exact ih20 z126 lt3 b2 f2 cn3 ch3 k1 (by first | assumption | omega) (by rw [show z126 - 1 = i by omega]; exact hf2) (by exact hfr2) (by rw [show z126 - 1 = i by omega]; exact hB2) (by
                    rw [← hv, show z126 - 1 = i - 1 + 1 by omega]
                    rw [show kk = 0 by omega] at hv2
                    have e9 : pdi w dn dw (i - 1 + 1) du.toNat 0 (gs w (ef oft la) mo (i - 1 + 1) bi 4).1 lt2 = (-9, b2, lt3) := by rw [show i - 1 + 1 = i by omega]; exact hv2.symm
                    rw [pds_s (by rw [e9]), e9]) (by omega) _ _ hP hD hS ls (lv_sub hl [0, 2] rfl)
            · skip
              obtain ⟨kk1, rfl⟩ : ∃ q, kk = q + 1 := ⟨kk - 1, by omega⟩
              have hd44 := hDU.2 jj (by omega) (by omega)
              refine lv_aload_n hx hb dX8_meets_44 rfl (lv_at hl 2 rfl) ?_
              refine va_get (D := g) (ci := 8) (v := .ref m8) (C := RX8) (T := TX8) (N := 28) hx hb hts inF_X8 hown hK.1 hP 0 rfl rfl 8 (by decide) lk_f21 (fun _ h9 => h9) rfl dX8_meets_45 ?_
              refine lv_iload_n hx hb dX8_meets_48 rfl (lv_at hl 0 rfl) ?_
              refine ra_ild hx hb hK hP 3 rfl dX8_meets_49 ⟨by omega, by omega⟩ (by omega) ?_
              refine lv_iload_n hx hb dX8_meets_50 rfl (lv_at hl 1 rfl) ?_
              refine ri_icmp_ne (tgt := 120) hx hb dX8_meets_51 (by decide) ⟨by omega, by omega⟩ ⟨by omega, by omega⟩ (fun c51 => ?_) (fun c51 => ?_)
              · skip
                obtain ⟨z120, e120⟩ : ∃ q : Int, q = jj + 1 := ⟨_, rfl⟩
                refine ri_inc (lv' := [(2, vI z120), (1, vI i), (0, .ref hm)]) hx hb dX8_meets_120 hl (k := 0) rfl (by decide) z120 e120 rfl (fun ls hl => ?_)
                refine lv_goto (tgt := 36) hx hb dX8_meets_123 (by decide) ?_
                exact ih36 z120 lt3 b2 f2 cn3 ch3 kk1 (by first | assumption | omega) (by first | exact hf3f | exact hf2) (by first | exact hfr3 | exact hfr2) (by first | exact GB_ta hB2 5 | exact hB2) (by
                      rw [← hv2]
                      first
                      | (rw [pdi_o c51, e120]; done)
                      | (rw [pdi_p c51 ⟨_, hLS.1⟩, e120, ← hta, e116, q105, hlm9]
                         congr 1; omega)) (by omega) _ _ hP hD hS ls (lv_sub hl [0, 1, 2] rfl)
              · skip
                refine lv_aload_n hx hb dX8_meets_54 rfl (lv_at hl 2 rfl) ?_
                refine lv_sipush (v := Int32.ofInt 607) hx hb dX8_meets_55 (by decide) ?_
                refine lv_aload_n hx hb dX8_meets_58 rfl (lv_at hl 2 rfl) ?_
                refine va_get (D := g) (ci := 8) (v := .ref m9) (C := RX8) (T := TX8) (N := 28) hx hb hts inF_X8 hown hK.1 hP 0 rfl rfl 9 (by decide) lk_f24 (fun _ h9 => h9) rfl dX8_meets_59 ?_
                refine lv_iload_n hx hb dX8_meets_62 rfl (lv_at hl 0 rfl) ?_
                refine ra_ild hx hb hK hP 4 rfl dX8_meets_63 ⟨by omega, by omega⟩ (by omega) ?_
                refine zc_VI (As := [vI 607, vI (dw jj)]) (rest := []) (wc := [(hm, oB 8 [.ref m0, vI un, .ref m2, .ref m3, vI mo, vI oft, vI la, vI du, .ref m8, .ref m9, vI to, .ref m11, .ref m12, vJ tr, .ref m14, vI n, vI at0, vI sa, vI vv, .ref m19, vI rdu, .ref m21, .ref m22, vI se, vI its, .ref m25, .ref m26, vJ lt3]), (m0, aJ ca 7284 f2), (m3, aI ca 5 w), (m25, aZ ca 1806 cn3), (m26, aI ca 5 ch3)]) (wr := [(m8, aI ca 6 dn), (m9, aI ca 6 dw)]) (k_X8_leastOf l g ca hm m0 m2 m3 m8 m9 m11 m12 m14 m19 m21 m22 m25 m26 un mo oft la du to tr n at0 sa vv rdu se its lt3 f2 w cn3 ch3 607 (dw jj) b2 i ml (by first | assumption | omega) (by exact hf2) (by exact hB2) (by first | assumption | omega) (by exact hd44.2)) dX8_meets_64 (cwV 2 hts gX8_meets_X8_leastOf rfl rfl rfl (by decide +kernel) (by rw [hR]; exact ⟨Nat.le_of_ble_eq_true rfl, Nat.le_of_ble_eq_true rfl⟩)) ⟨hx, hb, hml, hown, hts⟩ hl.1 hK hP hD hS hA 0 rfl rfl rfl [0, 1, 2, 5, 6] [3, 4] rfl (by decide) rfl (by decide) (by decide) rfl rfl (Nat.le_of_ble_eq_true rfl) (by rw [hR]; exact ⟨Nat.le_of_ble_eq_true rfl, Nat.le_of_ble_eq_true rfl⟩) (fun z64 u H locs q64 hP hD hS => ?_)
                obtain ⟨cn1_64, ch1_64⟩ := u
                have q64 : (0 ≤ z64 ∧ LST (cnt b2 i) w (dw jj) z64 ∧ CHO (cnt b2 i) w ch1_64 5 z64) ∨ (z64 = -9 ∧ ∀ s : Int, (dw jj) ≤ s → s ≤ 298 → ¬ RC (cnt b2 i) w 5 s) := q64
                have hP : va_P g vwCl [(hm, oB 8 [.ref m0, vI un, .ref m2, .ref m3, vI mo, vI oft, vI la, vI du, .ref m8, .ref m9, vI to, .ref m11, .ref m12, vJ tr, .ref m14, vI n, vI at0, vI sa, vI vv, .ref m19, vI rdu, .ref m21, .ref m22, vI se, vI its, .ref m25, .ref m26, vJ lt3]), (m0, aJ ca 7284 f2), (m3, aI ca 5 w), (m8, aI ca 6 dn), (m9, aI ca 6 dw), (m25, aZ ca 1806 cn1_64), (m26, aI ca 5 ch1_64)] H := hP.sub [2, 3, 4, 0, 1, 5, 6] rfl
                have hD : va_D A [(hm, oB 8 [.ref m0, vI un, .ref m2, .ref m3, vI mo, vI oft, vI la, vI du, .ref m8, .ref m9, vI to, .ref m11, .ref m12, vJ tr, .ref m14, vI n, vI at0, vI sa, vI vv, .ref m19, vI rdu, .ref m21, .ref m22, vI se, vI its, .ref m25, .ref m26, vJ lt3]), (m0, aJ ca 7284 f2), (m3, aI ca 5 w), (m8, aI ca 6 dn), (m9, aI ca 6 dw), (m25, aZ ca 1806 cn1_64), (m26, aI ca 5 ch1_64)] := hD.sub [2, 3, 4, 0, 1, 5, 6] (by decide) rfl
                have hz64 : -9 ≤ z64 ∧ z64 ≤ 298 := by
                  rcases q64 with q9 | q9
                  · have := q9.2.1.2.1; omega
                  · omega
                refine ri_if_ge (tgt := 72) hx hb dX8_meets_67 (by decide) ⟨by omega, by omega⟩ (fun c67 => ?_) (fun c67 => ?_)
                · skip
                  have hLS : LST (cnt b2 i) w (dw jj) z64 ∧ CHO (cnt b2 i) w ch1_64 5 z64 := by
                    rcases q64 with q9 | q9
                    · exact q9.2
                    · omega
                  have hchb := CHO_rng hW 5 z64 (by omega) (by omega) hLS.2
                  refine lv_iconst (v := Int32.ofInt 0) hx hb dX8_meets_72 rfl ?_
                  refine lv_istore_n (lv' := [(3, vI 0), (2, vI jj), (1, vI i), (0, .ref hm)]) hx hb dX8_meets_73 rfl hl (by decide) rfl (fun ls hl => ?_)
                  have L74 : ∀ (N74 : Nat) (o : Int) (f3 : Int → Int) (ho : 0 ≤ o ∧ o ≤ 5) (hf3 : AT f3 607 (ta b2 ch1_64 o.toNat) i ml) (hfr3 : FRM d f3 607) (hμ : (5 - o).toNat < N74) (H : Heap) (locs : List Loc) (hP : va_P g vwCl [(hm, oB 8 [.ref m0, vI un, .ref m2, .ref m3, vI mo, vI oft, vI la, vI du, .ref m8, .ref m9, vI to, .ref m11, .ref m12, vJ tr, .ref m14, vI n, vI at0, vI sa, vI vv, .ref m19, vI rdu, .ref m21, .ref m22, vI se, vI its, .ref m25, .ref m26, vJ lt3]), (m0, aJ ca 7284 f3), (m3, aI ca 5 w), (m8, aI ca 6 dn), (m9, aI ca 6 dw), (m25, aZ ca 1806 cn1_64), (m26, aI ca 5 ch1_64)] H) (hD : va_D A [(hm, oB 8 [.ref m0, vI un, .ref m2, .ref m3, vI mo, vI oft, vI la, vI du, .ref m8, .ref m9, vI to, .ref m11, .ref m12, vJ tr, .ref m14, vI n, vI at0, vI sa, vI vv, .ref m19, vI rdu, .ref m21, .ref m22, vI se, vI its, .ref m25, .ref m26, vJ lt3]), (m0, aJ ca 7284 f3), (m3, aI ca 5 w), (m8, aI ca 6 dn), (m9, aI ca 6 dw), (m25, aZ ca 1806 cn1_64), (m26, aI ca 5 ch1_64)]) (hS : va_S A s.heap H locs) (ls : Array Slot) (hl : lv_has ls 4 [(3, vI o), (2, vI jj), (1, vI i), (0, .ref hm)]), W p l e R s m args below meth c H locs 0 0 Q (F0 m 74 ls []) := by
                    intro N74; induction N74 with
                    | zero => intro o f3 ho hf3 hfr3 hμ; exact absurd hμ (Nat.not_lt_zero _)
                    | succ N74 ih74 =>
                      intro o f3 ho hf3 hfr3 hμ H locs hP hD hS ls hl
                      refine lv_iload_n hx hb dX8_meets_74 rfl (lv_at hl 0 rfl) ?_
                      refine lv_iconst (v := Int32.ofInt 5) hx hb dX8_meets_75 rfl ?_
                      refine ri_icmp_ge (tgt := 100) hx hb dX8_meets_76 (by decide) ⟨by omega, by omega⟩ ⟨by omega, by omega⟩ (fun c76 => ?_) (fun c76 => ?_)
                      · skip
                        have ho5 : o = 5 := by omega
                        have hf3f : AT f3 607 (ta b2 ch1_64 5) i ml := by rw [ho5] at hf3; exact hf3
                        have hta : ta b2 ch1_64 5 = ta b2 (chT (cnt b2 i) w (dw jj)) 5 := ta_congr 5 (chT_eq hW hLS.1 hLS.2)
                        refine lv_aload_n hx hb dX8_meets_100 rfl (lv_at hl 3 rfl) ?_
                        refine lv_aload_n hx hb dX8_meets_101 rfl (lv_at hl 3 rfl) ?_
                        refine lv_sipush (v := Int32.ofInt 607) hx hb dX8_meets_102 (by decide) ?_
                        refine zc_VJ (As := [vI 607]) (rest := [.ref hm]) (wc := [(hm, oB 8 [.ref m0, vI un, .ref m2, .ref m3, vI mo, vI oft, vI la, vI du, .ref m8, .ref m9, vI to, .ref m11, .ref m12, vJ tr, .ref m14, vI n, vI at0, vI sa, vI vv, .ref m19, vI rdu, .ref m21, .ref m22, vI se, vI its, .ref m25, .ref m26, vJ lt3]), (m0, aJ ca 7284 f3), (m3, aI ca 5 w)]) (wr := [(m8, aI ca 6 dn), (m9, aI ca 6 dw), (m25, aZ ca 1806 cn1_64), (m26, aI ca 5 ch1_64)]) (k_X8_weighs l g ca hm m0 m2 m3 m8 m9 m11 m12 m14 m19 m21 m22 m25 m26 un mo oft la du to tr n at0 sa vv rdu se its lt3 f3 w 607 (ta b2 ch1_64 5) i ml (by first | assumption | omega) (by exact hf3f) (by exact GB_ta hB2 5) (by first | assumption | omega)) dX8_meets_105 (cwV 1 hts gX8_meets_X8_weighs rfl rfl rfl (by decide +kernel) (by rw [hR]; exact ⟨Nat.le_of_ble_eq_true rfl, Nat.le_of_ble_eq_true rfl⟩)) ⟨hx, hb, hml, hown, hts⟩ hl.1 hK hP hD hS hA 0 rfl rfl rfl [0, 1, 2] [3, 4, 5, 6] rfl (by decide) rfl (by decide) (by decide) rfl rfl (Nat.le_of_ble_eq_true rfl) (by rw [hR]; exact ⟨Nat.le_of_ble_eq_true rfl, Nat.le_of_ble_eq_true rfl⟩) (fun z105 u H locs q105 hP hD hS => ?_)
                        have q105 : z105 = wgt (ta b2 ch1_64 5) w i + ml := q105
                        have hP : va_P g vwCl [(hm, oB 8 [.ref m0, vI un, .ref m2, .ref m3, vI mo, vI oft, vI la, vI du, .ref m8, .ref m9, vI to, .ref m11, .ref m12, vJ tr, .ref m14, vI n, vI at0, vI sa, vI vv, .ref m19, vI rdu, .ref m21, .ref m22, vI se, vI its, .ref m25, .ref m26, vJ lt3]), (m0, aJ ca 7284 f3), (m3, aI ca 5 w), (m8, aI ca 6 dn), (m9, aI ca 6 dw), (m25, aZ ca 1806 cn1_64), (m26, aI ca 5 ch1_64)] H := hP.sub [4, 5, 6, 0, 1, 2, 3] rfl
                        have hD : va_D A [(hm, oB 8 [.ref m0, vI un, .ref m2, .ref m3, vI mo, vI oft, vI la, vI du, .ref m8, .ref m9, vI to, .ref m11, .ref m12, vJ tr, .ref m14, vI n, vI at0, vI sa, vI vv, .ref m19, vI rdu, .ref m21, .ref m22, vI se, vI its, .ref m25, .ref m26, vJ lt3]), (m0, aJ ca 7284 f3), (m3, aI ca 5 w), (m8, aI ca 6 dn), (m9, aI ca 6 dw), (m25, aZ ca 1806 cn1_64), (m26, aI ca 5 ch1_64)] := hD.sub [4, 5, 6, 0, 1, 2, 3] (by decide) rfl
                        refine lv_aload_n hx hb dX8_meets_108 rfl (lv_at hl 3 rfl) ?_
                        refine va_get (D := g) (ci := 8) (v := .ref m0) (C := RX8) (T := TX8) (N := 28) hx hb hts inF_X8 hown hK.1 hP 0 rfl rfl 0 (by decide) lk_f7 (fun _ h9 => h9) rfl dX8_meets_109 ?_
                        refine lv_sipush (v := Int32.ofInt 1212) hx hb dX8_meets_112 (by decide) ?_
                        refine ra_lld hx hb hK hP 1 rfl dX8_meets_115 ⟨by omega, by omega⟩ (by omega) ?_
                        have hlm9 : f3 1212 = ml := by have := hf3f.2.1; rw [show (607 : Int) + 605 = 1212 from rfl] at this; exact this
                        refine rj_sub hx hb dX8_meets_116 (fun z116 e116 => ?_)
                        refine va_put (D := g) (ci := 8) (v := vJ z116) (ty := .long) (C := RX8) (T := TX8) (N := 28) hx hb hts inF_X8 tyX8 tyX8_ok nmX8 hown hK.1 hP hD hS 0 rfl rfl 27 (by decide) lk_f214 (fun _ h9 => h9) rfl (by decide +kernel) rfl rfl (Nat.le_of_ble_eq_true rfl) dX8_meets_117 (fun H locs hP hD hS => ?_)
                        have hP : va_P g vwCl [(hm, oB 8 [.ref m0, vI un, .ref m2, .ref m3, vI mo, vI oft, vI la, vI du, .ref m8, .ref m9, vI to, .ref m11, .ref m12, vJ tr, .ref m14, vI n, vI at0, vI sa, vI vv, .ref m19, vI rdu, .ref m21, .ref m22, vI se, vI its, .ref m25, .ref m26, vJ z116]), (m0, aJ ca 7284 f3), (m3, aI ca 5 w), (m8, aI ca 6 dn), (m9, aI ca 6 dw), (m25, aZ ca 1806 cn1_64), (m26, aI ca 5 ch1_64)] H := hP
                        have hD : va_D A [(hm, oB 8 [.ref m0, vI un, .ref m2, .ref m3, vI mo, vI oft, vI la, vI du, .ref m8, .ref m9, vI to, .ref m11, .ref m12, vJ tr, .ref m14, vI n, vI at0, vI sa, vI vv, .ref m19, vI rdu, .ref m21, .ref m22, vI se, vI its, .ref m25, .ref m26, vJ z116]), (m0, aJ ca 7284 f3), (m3, aI ca 5 w), (m8, aI ca 6 dn), (m9, aI ca 6 dw), (m25, aZ ca 1806 cn1_64), (m26, aI ca 5 ch1_64)] := hD
                        obtain ⟨z120, e120⟩ : ∃ q : Int, q = jj + 1 := ⟨_, rfl⟩
                        refine ri_inc (lv' := [(2, vI z120), (3, vI o), (1, vI i), (0, .ref hm)]) hx hb dX8_meets_120 hl (k := 1) rfl (by decide) z120 e120 rfl (fun ls hl => ?_)
                        refine lv_goto (tgt := 36) hx hb dX8_meets_123 (by decide) ?_
                        exact ih36 z120 z116 (ta b2 ch1_64 5) f3 cn1_64 ch1_64 kk1 (by first | assumption | omega) (by first | exact hf3f | exact hf2) (by first | exact hfr3 | exact hfr2) (by first | exact GB_ta hB2 5 | exact hB2) (by
                              rw [← hv2]
                              first
                              | (rw [pdi_o c51, e120]; done)
                              | (rw [pdi_p c51 ⟨_, hLS.1⟩, e120, ← hta, e116, q105, hlm9]
                                 congr 1; omega)) (by omega) _ _ hP hD hS ls (lv_sub hl [0, 2, 3] rfl)
                      · skip
                        refine lv_aload_n hx hb dX8_meets_79 rfl (lv_at hl 3 rfl) ?_
                        refine lv_sipush (v := Int32.ofInt 607) hx hb dX8_meets_80 (by decide) ?_
                        refine lv_iload_n hx hb dX8_meets_83 rfl (lv_at hl 0 rfl) ?_
                        refine lv_aload_n hx hb dX8_meets_84 rfl (lv_at hl 3 rfl) ?_
                        refine va_get (D := g) (ci := 8) (v := .ref m26) (C := RX8) (T := TX8) (N := 28) hx hb hts inF_X8 hown hK.1 hP 0 rfl rfl 26 (by decide) lk_f48 (fun _ h9 => h9) rfl dX8_meets_85 ?_
                        refine lv_iload_n hx hb dX8_meets_88 rfl (lv_at hl 0 rfl) ?_
                        refine ra_ild hx hb hK hP 6 rfl dX8_meets_89 ⟨by omega, by omega⟩ (by omega) ?_
                        have hch90 := hchb o (by omega) (by omega)
                        have hls90 := hLS.1.2.1
                        refine ri_l hx hb dX8_meets_90 ⟨by omega, by omega⟩ ?_
                        refine zc_VV (As := [vI 607, vI o, vJ (ch1_64 o)]) (rest := []) (wc := [(hm, oB 8 [.ref m0, vI un, .ref m2, .ref m3, vI mo, vI oft, vI la, vI du, .ref m8, .ref m9, vI to, .ref m11, .ref m12, vJ tr, .ref m14, vI n, vI at0, vI sa, vI vv, .ref m19, vI rdu, .ref m21, .ref m22, vI se, vI its, .ref m25, .ref m26, vJ lt3]), (m0, aJ ca 7284 f3)]) (wr := [(m3, aI ca 5 w), (m8, aI ca 6 dn), (m9, aI ca 6 dw), (m25, aZ ca 1806 cn1_64), (m26, aI ca 5 ch1_64)]) (k_X8_takesAway l g ca hm m0 m2 m3 m8 m9 m11 m12 m14 m19 m21 m22 m25 m26 un mo oft la du to tr n at0 sa vv rdu se its lt3 f3 607 o (ch1_64 o) (ta b2 ch1_64 o.toNat) i ml (by first | assumption | omega) (by first | assumption | omega) (by exact hf3) (by exact GB_ta hB2 _) (by first | assumption | omega)) dX8_meets_91 (cwV 3 hts gX8_meets_X8_takesAway rfl rfl rfl (by decide +kernel) (by rw [hR]; exact ⟨Nat.le_of_ble_eq_true rfl, Nat.le_of_ble_eq_true rfl⟩)) ⟨hx, hb, hml, hown, hts⟩ hl.1 hK hP hD hS hA 0 rfl rfl rfl [0, 1] [2, 3, 4, 5, 6] rfl (by decide) rfl (by decide) (by decide) rfl rfl (Nat.le_of_ble_eq_true rfl) (by rw [hR]; exact ⟨Nat.le_of_ble_eq_true rfl, Nat.le_of_ble_eq_true rfl⟩) (fun u H locs q91 hP hD hS => ?_)
                        obtain ⟨d1_91, rfl⟩ : ∃ q, q = u := ⟨_, rfl⟩
                        have q91 : AT d1_91 607 (tk (ta b2 ch1_64 o.toNat) (121 * o) (ch1_64 o)) i ml ∧ FRM f3 d1_91 607 := q91
                        obtain ⟨q91_0, q91_1⟩ := q91
                        have hP : va_P g vwCl [(hm, oB 8 [.ref m0, vI un, .ref m2, .ref m3, vI mo, vI oft, vI la, vI du, .ref m8, .ref m9, vI to, .ref m11, .ref m12, vJ tr, .ref m14, vI n, vI at0, vI sa, vI vv, .ref m19, vI rdu, .ref m21, .ref m22, vI se, vI its, .ref m25, .ref m26, vJ lt3]), (m0, aJ ca 7284 d1_91), (m3, aI ca 5 w), (m8, aI ca 6 dn), (m9, aI ca 6 dw), (m25, aZ ca 1806 cn1_64), (m26, aI ca 5 ch1_64)] H := hP.sub [5, 6, 0, 1, 2, 3, 4] rfl
                        have hD : va_D A [(hm, oB 8 [.ref m0, vI un, .ref m2, .ref m3, vI mo, vI oft, vI la, vI du, .ref m8, .ref m9, vI to, .ref m11, .ref m12, vJ tr, .ref m14, vI n, vI at0, vI sa, vI vv, .ref m19, vI rdu, .ref m21, .ref m22, vI se, vI its, .ref m25, .ref m26, vJ lt3]), (m0, aJ ca 7284 d1_91), (m3, aI ca 5 w), (m8, aI ca 6 dn), (m9, aI ca 6 dw), (m25, aZ ca 1806 cn1_64), (m26, aI ca 5 ch1_64)] := hD.sub [5, 6, 0, 1, 2, 3, 4] (by decide) rfl
                        obtain ⟨z94, e94⟩ : ∃ q : Int, q = o + 1 := ⟨_, rfl⟩
                        refine ri_inc (lv' := [(3, vI z94), (2, vI jj), (1, vI i), (0, .ref hm)]) hx hb dX8_meets_94 hl (k := 0) rfl (by decide) z94 e94 rfl (fun ls hl => ?_)
                        refine lv_goto (tgt := 74) hx hb dX8_meets_97 (by decide) ?_
                        exact ih74 z94 d1_91 (by first | assumption | omega) (by rw [e94, ta_s _ _ (by omega)]; exact q91_0) (by exact FRM_tr hfr3 q91_1) (by omega) _ _ hP hD hS ls (lv_sub hl [0, 1, 2, 3] rfl)
                  exact L74 _ 0 f2 (by first | assumption | omega) (by exact hf2) (by exact hfr2) (Nat.lt_succ_self _) _ _ hP hD hS ls (lv_sub hl [0, 1, 2, 3] rfl)
                · skip
                  refine lv_iload_n hx hb dX8_meets_70 rfl (lv_at hl 0 rfl) ?_
                  refine zr_I hx hb hr hlk hQ (cn1_64, ch1_64, lt3, f2) hP hD hS dX8_meets_71 (Nat.le_of_ble_eq_true rfl) (Nat.le_of_ble_eq_true rfl) ?_
                  show jj = (pds w (ef oft la) dn dw mo du (120 - nn).toNat nn b lt0).1 ∧ lt3 = (pds w (ef oft la) dn dw mo du (120 - nn).toNat nn b lt0).2.2 ∧ FRM d f2 607
                  have hnp : ¬ canP (cnt b2 i) w (dw jj) := by
                    rintro ⟨s9, k1, k2, k3, k4⟩
                    rcases q64 with q9 | q9
                    · omega
                    · exact q9.2 s9 k1 k2 k3
                  rw [pdi_n c51 hnp] at hv2
                  have e9 : pdi w dn dw (i - 1 + 1) du.toNat 0 (gs w (ef oft la) mo (i - 1 + 1) bi 4).1 lt2 = (jj, b2, lt3) := by rw [show i - 1 + 1 = i by omega]; exact hv2.symm
                  rw [pds_f (by rw [e9]; show ¬ jj = -9; omega), e9] at hv
                  rw [← hv]
                  exact ⟨rfl, rfl, hfr2⟩
        exact L36 _ 0 lt2 ((gs w (ef oft la) mo i bi 4).1) d1_30 cn2 ch2 du.toNat (by omega) (by
              have h9 := q30_0
              rw [show i - 1 + 1 = i by omega] at h9
              exact h9) (by exact FRM_tr hfr q30_1) (by
              have h9 := GB_gs (w := w) hE hM (GB_up hBi (by omega)) 4 (by omega)
              rw [show i - 1 + 1 = i by omega] at h9
              exact h9) (by rfl) (Nat.lt_succ_self _) _ _ hP hD hS ls (lv_sub hl [0, 1, 2] rfl)
  exact L20 _ z18 lt0 b d1_5 cn ch ((120 - nn).toNat) (by omega) (by rw [show z18 - 1 = nn by omega]; exact (CPY q5 hAT).1) (by exact (CPY q5 hAT).2) (by rw [show z18 - 1 = nn by omega]; exact hB) (by rw [show z18 - 1 = nn by omega]) (Nat.lt_succ_self _) _ _ hP hD hS ls (lv_sub hl [0, 1] rfl)
set_option maxHeartbeats 4000000 in
set_option maxRecDepth 100000 in
theorem k_X8_met (l : Launch) (g : va_G) (ca : Nat → ClassId) (hm : Nat) (m0 : Nat) (m2 : Nat) (m3 : Nat) (m8 : Nat) (m9 : Nat) (m11 : Nat) (m12 : Nat) (m14 : Nat) (m19 : Nat) (m21 : Nat) (m22 : Nat) (m25 : Nat) (m26 : Nat) (un : Int) (mo : Int) (oft : Int) (la : Int) (du : Int) (to : Int) (tr : Int) (n : Int) (at0 : Int) (sa : Int) (vv : Int) (rdu : Int) (se : Int) (its : Int) (lt0 : Int) (d : Int → Int) (w : Int → Int) (dn : Int → Int) (dw : Int → Int) (cn : Int → Int) (ch : Int → Int) (b : Int → Int) (nn : Int) (ml : Int) (hAT : AT d 0 b nn ml) (hB : GB b nn) (hDU : DUok dn dw du) (hW : GW w) (hE : EAok (ef oft la)) (hM : 1 ≤ mo ∧ mo ≤ 9) : zI (S := (Int → Int) × (Int → Int) × Int × (Int → Int)) l yX8_met wsX8_met ({ frames := 5, cells := 0, slots := 0, locals := 124 } : Room) g ca [.ref hm] [(hm, oB 8 [.ref m0, vI un, .ref m2, .ref m3, vI mo, vI oft, vI la, vI du, .ref m8, .ref m9, vI to, .ref m11, .ref m12, vJ tr, .ref m14, vI n, vI at0, vI sa, vI vv, .ref m19, vI rdu, .ref m21, .ref m22, vI se, vI its, .ref m25, .ref m26, vJ lt0]), (m0, aJ ca 7284 d), (m3, aI ca 5 w), (m8, aI ca 6 dn), (m9, aI ca 6 dw), (m25, aZ ca 1806 cn), (m26, aI ca 5 ch)] (fun (z : Int) (u : (Int → Int) × (Int → Int) × Int × (Int → Int)) => z = (pds w (ef oft la) dn dw mo du (120 - nn).toNat nn b lt0).1 ∧ FRM d u.2.2.2 607) (fun (u : (Int → Int) × (Int → Int) × Int × (Int → Int)) => [(hm, oB 8 [.ref m0, vI un, .ref m2, .ref m3, vI mo, vI oft, vI la, vI du, .ref m8, .ref m9, vI to, .ref m11, .ref m12, vJ tr, .ref m14, vI n, vI at0, vI sa, vI vv, .ref m19, vI rdu, .ref m21, .ref m22, vI se, vI its, .ref m25, .ref m26, vJ u.2.2.1]), (m0, aJ ca 7284 u.2.2.2), (m3, aI ca 5 w), (m8, aI ca 6 dn), (m9, aI ca 6 dw), (m25, aZ ca 1806 u.1), (m26, aI ca 5 u.2.1)]) 0 0 := by
  refine zm_I (cc := cX8_met) (maxL := 1) (ret := some .int) (by decide) rfl (Nat.le_of_ble_eq_true rfl) ?_
  intro p e s m below meth c A ls R args Q hR hargs hQ hx hb hml hr hts hown hlk hnm hK hP hD hA hS hl
  have hown : s.vm.findClass RX8 = some m.cls := hown
  have hl : lv_has ls 1 [(0, .ref hm)] := hl
  refine lv_aload_n hx hb dX8_met_0 rfl (lv_at hl 0 rfl) ?_
  refine zc_VI (As := []) (rest := []) (wc := [(hm, oB 8 [.ref m0, vI un, .ref m2, .ref m3, vI mo, vI oft, vI la, vI du, .ref m8, .ref m9, vI to, .ref m11, .ref m12, vJ tr, .ref m14, vI n, vI at0, vI sa, vI vv, .ref m19, vI rdu, .ref m21, .ref m22, vI se, vI its, .ref m25, .ref m26, vJ lt0]), (m0, aJ ca 7284 d), (m3, aI ca 5 w), (m8, aI ca 6 dn), (m9, aI ca 6 dw), (m25, aZ ca 1806 cn), (m26, aI ca 5 ch)]) (wr := []) (k_X8_meets l g ca hm m0 m2 m3 m8 m9 m11 m12 m14 m19 m21 m22 m25 m26 un mo oft la du to tr n at0 sa vv rdu se its lt0 d w dn dw cn ch b nn ml (by first | assumption | omega) (by first | assumption | omega) (by first | assumption | omega) (by first | assumption | omega) (by first | assumption | omega) (by first | assumption | omega)) dX8_met_1 (cwV 0 hts gX8_met_X8_meets rfl rfl rfl (by decide +kernel) (by rw [hR]; exact ⟨Nat.le_of_ble_eq_true rfl, Nat.le_of_ble_eq_true rfl⟩)) ⟨hx, hb, hml, hown, hts⟩ hl.1 hK hP hD hS hA 0 rfl rfl rfl [0, 1, 2, 3, 4, 5, 6] [] rfl (by decide) rfl (by decide) (by decide) rfl rfl (Nat.le_of_ble_eq_true rfl) (by rw [hR]; exact ⟨Nat.le_of_ble_eq_true rfl, Nat.le_of_ble_eq_true rfl⟩) (fun z1 u H locs q1 hP hD hS => ?_)
  obtain ⟨cn1_1, ch1_1, lt1_1, d1_1⟩ := u
  have q1 : z1 = (pds w (ef oft la) dn dw mo du (120 - nn).toNat nn b lt0).1 ∧ lt1_1 = (pds w (ef oft la) dn dw mo du (120 - nn).toNat nn b lt0).2.2 ∧ FRM d d1_1 607 := q1
  obtain ⟨q1_0, q1_1, q1_2⟩ := q1
  have hP : va_P g vwCl [(hm, oB 8 [.ref m0, vI un, .ref m2, .ref m3, vI mo, vI oft, vI la, vI du, .ref m8, .ref m9, vI to, .ref m11, .ref m12, vJ tr, .ref m14, vI n, vI at0, vI sa, vI vv, .ref m19, vI rdu, .ref m21, .ref m22, vI se, vI its, .ref m25, .ref m26, vJ lt1_1]), (m0, aJ ca 7284 d1_1), (m3, aI ca 5 w), (m8, aI ca 6 dn), (m9, aI ca 6 dw), (m25, aZ ca 1806 cn1_1), (m26, aI ca 5 ch1_1)] H := hP.sub [0, 1, 2, 3, 4, 5, 6] rfl
  have hD : va_D A [(hm, oB 8 [.ref m0, vI un, .ref m2, .ref m3, vI mo, vI oft, vI la, vI du, .ref m8, .ref m9, vI to, .ref m11, .ref m12, vJ tr, .ref m14, vI n, vI at0, vI sa, vI vv, .ref m19, vI rdu, .ref m21, .ref m22, vI se, vI its, .ref m25, .ref m26, vJ lt1_1]), (m0, aJ ca 7284 d1_1), (m3, aI ca 5 w), (m8, aI ca 6 dn), (m9, aI ca 6 dw), (m25, aZ ca 1806 cn1_1), (m26, aI ca 5 ch1_1)] := hD.sub [0, 1, 2, 3, 4, 5, 6] (by decide) rfl
  refine zr_I hx hb hr hlk hQ (cn1_1, ch1_1, lt1_1, d1_1) hP hD hS dX8_met_4 (Nat.le_of_ble_eq_true rfl) (Nat.le_of_ble_eq_true rfl) ?_
  show z1 = (pds w (ef oft la) dn dw mo du (120 - nn).toNat nn b lt0).1 ∧ FRM d d1_1 607
  exact ⟨q1_0, q1_2⟩
set_option maxHeartbeats 4000000 in
set_option maxRecDepth 100000 in
theorem k_X8_left (l : Launch) (g : va_G) (ca : Nat → ClassId) (hm : Nat) (m0 : Nat) (m2 : Nat) (m3 : Nat) (m8 : Nat) (m9 : Nat) (m11 : Nat) (m12 : Nat) (m14 : Nat) (m19 : Nat) (m21 : Nat) (m22 : Nat) (m25 : Nat) (m26 : Nat) (un : Int) (mo : Int) (oft : Int) (la : Int) (du : Int) (to : Int) (tr : Int) (n : Int) (at0 : Int) (sa : Int) (vv : Int) (rdu : Int) (se : Int) (its : Int) (lt0 : Int) (d : Int → Int) (w : Int → Int) (dn : Int → Int) (dw : Int → Int) (cn : Int → Int) (ch : Int → Int) (b : Int → Int) (nn : Int) (ml : Int) (hAT : AT d 0 b nn ml) (hB : GB b nn) (hDU : DUok dn dw du) (hW : GW w) (hE : EAok (ef oft la)) (hM : 1 ≤ mo ∧ mo ≤ 9) : zJ (S := (Int → Int) × (Int → Int) × Int × (Int → Int)) l yX8_left wsX8_left ({ frames := 5, cells := 0, slots := 0, locals := 124 } : Room) g ca [.ref hm] [(hm, oB 8 [.ref m0, vI un, .ref m2, .ref m3, vI mo, vI oft, vI la, vI du, .ref m8, .ref m9, vI to, .ref m11, .ref m12, vJ tr, .ref m14, vI n, vI at0, vI sa, vI vv, .ref m19, vI rdu, .ref m21, .ref m22, vI se, vI its, .ref m25, .ref m26, vJ lt0]), (m0, aJ ca 7284 d), (m3, aI ca 5 w), (m8, aI ca 6 dn), (m9, aI ca 6 dw), (m25, aZ ca 1806 cn), (m26, aI ca 5 ch)] (fun (z : Int) (u : (Int → Int) × (Int → Int) × Int × (Int → Int)) => z = (if (pds w (ef oft la) dn dw mo du (120 - nn).toNat nn b (wgt b w nn)).1 = -9 then (pds w (ef oft la) dn dw mo du (120 - nn).toNat nn b (wgt b w nn)).2.2 else -9) ∧ FRM d u.2.2.2 607) (fun (u : (Int → Int) × (Int → Int) × Int × (Int → Int)) => [(hm, oB 8 [.ref m0, vI un, .ref m2, .ref m3, vI mo, vI oft, vI la, vI du, .ref m8, .ref m9, vI to, .ref m11, .ref m12, vJ tr, .ref m14, vI n, vI at0, vI sa, vI vv, .ref m19, vI rdu, .ref m21, .ref m22, vI se, vI its, .ref m25, .ref m26, vJ u.2.2.1]), (m0, aJ ca 7284 u.2.2.2), (m3, aI ca 5 w), (m8, aI ca 6 dn), (m9, aI ca 6 dw), (m25, aZ ca 1806 u.1), (m26, aI ca 5 u.2.1)]) 0 0 := by
  refine zm_J (cc := cX8_left) (maxL := 1) (ret := some .long) (by decide) rfl (Nat.le_of_ble_eq_true rfl) ?_
  intro p e s m below meth c A ls R args Q hR hargs hQ hx hb hml hr hts hown hlk hnm hK hP hD hA hS hl
  have hown : s.vm.findClass RX8 = some m.cls := hown
  have hl : lv_has ls 1 [(0, .ref hm)] := hl
  have lk_f7 : (Cond.fieldLink RX8 7 "DripRingsModel" "d" "[J").before args s = true := hts _ (by decide +kernel)
  have inF_X8 : ∀ w ∈ wsX80, w ∈ wsX8_left := by decide +kernel
  have lk_f214 : (Cond.fieldLink RX8 214 "DripRingsModel" "leftThen" "J").before args s = true := hts _ (by decide +kernel)
  have lk_c222 : (Cond.constantLong RX8 222 (-9)).before args s = true := hts _ (by decide +kernel)
  have hd605 : d 605 = ml := by have := hAT.2.1; rw [show (0 : Int) + 605 = 605 from rfl] at this; exact this
  refine lv_aload_n hx hb dX8_left_0 rfl (lv_at hl 0 rfl) ?_
  refine lv_aload_n hx hb dX8_left_1 rfl (lv_at hl 0 rfl) ?_
  refine lv_iconst (v := Int32.ofInt 0) hx hb dX8_left_2 rfl ?_
  refine zc_VJ (As := [vI 0]) (rest := [.ref hm]) (wc := [(hm, oB 8 [.ref m0, vI un, .ref m2, .ref m3, vI mo, vI oft, vI la, vI du, .ref m8, .ref m9, vI to, .ref m11, .ref m12, vJ tr, .ref m14, vI n, vI at0, vI sa, vI vv, .ref m19, vI rdu, .ref m21, .ref m22, vI se, vI its, .ref m25, .ref m26, vJ lt0]), (m0, aJ ca 7284 d), (m3, aI ca 5 w)]) (wr := [(m8, aI ca 6 dn), (m9, aI ca 6 dw), (m25, aZ ca 1806 cn), (m26, aI ca 5 ch)]) (k_X8_weighs l g ca hm m0 m2 m3 m8 m9 m11 m12 m14 m19 m21 m22 m25 m26 un mo oft la du to tr n at0 sa vv rdu se its lt0 d w 0 b nn ml (by first | assumption | omega) (by first | assumption | omega) (by first | assumption | omega) (by first | assumption | omega)) dX8_left_3 (cwV 1 hts gX8_left_X8_weighs rfl rfl rfl (by decide +kernel) (by rw [hR]; exact ⟨Nat.le_of_ble_eq_true rfl, Nat.le_of_ble_eq_true rfl⟩)) ⟨hx, hb, hml, hown, hts⟩ hl.1 hK hP hD hS hA 0 rfl rfl rfl [0, 1, 2] [3, 4, 5, 6] rfl (by decide) rfl (by decide) (by decide) rfl rfl (Nat.le_of_ble_eq_true rfl) (by rw [hR]; exact ⟨Nat.le_of_ble_eq_true rfl, Nat.le_of_ble_eq_true rfl⟩) (fun z3 u H locs q3 hP hD hS => ?_)
  have q3 : z3 = wgt b w nn + ml := q3
  have hP : va_P g vwCl [(hm, oB 8 [.ref m0, vI un, .ref m2, .ref m3, vI mo, vI oft, vI la, vI du, .ref m8, .ref m9, vI to, .ref m11, .ref m12, vJ tr, .ref m14, vI n, vI at0, vI sa, vI vv, .ref m19, vI rdu, .ref m21, .ref m22, vI se, vI its, .ref m25, .ref m26, vJ lt0]), (m0, aJ ca 7284 d), (m3, aI ca 5 w), (m8, aI ca 6 dn), (m9, aI ca 6 dw), (m25, aZ ca 1806 cn), (m26, aI ca 5 ch)] H := hP.sub [4, 5, 6, 0, 1, 2, 3] rfl
  have hD : va_D A [(hm, oB 8 [.ref m0, vI un, .ref m2, .ref m3, vI mo, vI oft, vI la, vI du, .ref m8, .ref m9, vI to, .ref m11, .ref m12, vJ tr, .ref m14, vI n, vI at0, vI sa, vI vv, .ref m19, vI rdu, .ref m21, .ref m22, vI se, vI its, .ref m25, .ref m26, vJ lt0]), (m0, aJ ca 7284 d), (m3, aI ca 5 w), (m8, aI ca 6 dn), (m9, aI ca 6 dw), (m25, aZ ca 1806 cn), (m26, aI ca 5 ch)] := hD.sub [4, 5, 6, 0, 1, 2, 3] (by decide) rfl
  refine lv_aload_n hx hb dX8_left_6 rfl (lv_at hl 0 rfl) ?_
  refine va_get (D := g) (ci := 8) (v := .ref m0) (C := RX8) (T := TX8) (N := 28) hx hb hts inF_X8 hown hK.1 hP 0 rfl rfl 0 (by decide) lk_f7 (fun _ h9 => h9) rfl dX8_left_7 ?_
  refine lv_sipush (v := Int32.ofInt 605) hx hb dX8_left_10 (by decide) ?_
  refine ra_lld hx hb hK hP 1 rfl dX8_left_13 ⟨by omega, by omega⟩ (by omega) ?_
  refine rj_sub hx hb dX8_left_14 (fun z14 e14 => ?_)
  refine va_put (D := g) (ci := 8) (v := vJ z14) (ty := .long) (C := RX8) (T := TX8) (N := 28) hx hb hts inF_X8 tyX8 tyX8_ok nmX8 hown hK.1 hP hD hS 0 rfl rfl 27 (by decide) lk_f214 (fun _ h9 => h9) rfl (by decide +kernel) rfl rfl (Nat.le_of_ble_eq_true rfl) dX8_left_15 (fun H locs hP hD hS => ?_)
  have hP : va_P g vwCl [(hm, oB 8 [.ref m0, vI un, .ref m2, .ref m3, vI mo, vI oft, vI la, vI du, .ref m8, .ref m9, vI to, .ref m11, .ref m12, vJ tr, .ref m14, vI n, vI at0, vI sa, vI vv, .ref m19, vI rdu, .ref m21, .ref m22, vI se, vI its, .ref m25, .ref m26, vJ z14]), (m0, aJ ca 7284 d), (m3, aI ca 5 w), (m8, aI ca 6 dn), (m9, aI ca 6 dw), (m25, aZ ca 1806 cn), (m26, aI ca 5 ch)] H := hP
  have hD : va_D A [(hm, oB 8 [.ref m0, vI un, .ref m2, .ref m3, vI mo, vI oft, vI la, vI du, .ref m8, .ref m9, vI to, .ref m11, .ref m12, vJ tr, .ref m14, vI n, vI at0, vI sa, vI vv, .ref m19, vI rdu, .ref m21, .ref m22, vI se, vI its, .ref m25, .ref m26, vJ z14]), (m0, aJ ca 7284 d), (m3, aI ca 5 w), (m8, aI ca 6 dn), (m9, aI ca 6 dw), (m25, aZ ca 1806 cn), (m26, aI ca 5 ch)] := hD
  have hz18 : z14 = wgt b w nn := by rw [e14, q3, hd605]; omega
  refine lv_aload_n hx hb dX8_left_18 rfl (lv_at hl 0 rfl) ?_
  refine zc_VI (As := []) (rest := []) (wc := [(hm, oB 8 [.ref m0, vI un, .ref m2, .ref m3, vI mo, vI oft, vI la, vI du, .ref m8, .ref m9, vI to, .ref m11, .ref m12, vJ tr, .ref m14, vI n, vI at0, vI sa, vI vv, .ref m19, vI rdu, .ref m21, .ref m22, vI se, vI its, .ref m25, .ref m26, vJ z14]), (m0, aJ ca 7284 d), (m3, aI ca 5 w), (m8, aI ca 6 dn), (m9, aI ca 6 dw), (m25, aZ ca 1806 cn), (m26, aI ca 5 ch)]) (wr := []) (k_X8_meets l g ca hm m0 m2 m3 m8 m9 m11 m12 m14 m19 m21 m22 m25 m26 un mo oft la du to tr n at0 sa vv rdu se its z14 d w dn dw cn ch b nn ml (by first | assumption | omega) (by first | assumption | omega) (by first | assumption | omega) (by first | assumption | omega) (by first | assumption | omega) (by first | assumption | omega)) dX8_left_19 (cwV 0 hts gX8_left_X8_meets rfl rfl rfl (by decide +kernel) (by rw [hR]; exact ⟨Nat.le_of_ble_eq_true rfl, Nat.le_of_ble_eq_true rfl⟩)) ⟨hx, hb, hml, hown, hts⟩ hl.1 hK hP hD hS hA 0 rfl rfl rfl [0, 1, 2, 3, 4, 5, 6] [] rfl (by decide) rfl (by decide) (by decide) rfl rfl (Nat.le_of_ble_eq_true rfl) (by rw [hR]; exact ⟨Nat.le_of_ble_eq_true rfl, Nat.le_of_ble_eq_true rfl⟩) (fun z19 u H locs q19 hP hD hS => ?_)
  obtain ⟨cn1_19, ch1_19, lt1_19, d1_19⟩ := u
  have q19 : z19 = (pds w (ef oft la) dn dw mo du (120 - nn).toNat nn b z14).1 ∧ lt1_19 = (pds w (ef oft la) dn dw mo du (120 - nn).toNat nn b z14).2.2 ∧ FRM d d1_19 607 := q19
  obtain ⟨q19_0, q19_1, q19_2⟩ := q19
  have hP : va_P g vwCl [(hm, oB 8 [.ref m0, vI un, .ref m2, .ref m3, vI mo, vI oft, vI la, vI du, .ref m8, .ref m9, vI to, .ref m11, .ref m12, vJ tr, .ref m14, vI n, vI at0, vI sa, vI vv, .ref m19, vI rdu, .ref m21, .ref m22, vI se, vI its, .ref m25, .ref m26, vJ lt1_19]), (m0, aJ ca 7284 d1_19), (m3, aI ca 5 w), (m8, aI ca 6 dn), (m9, aI ca 6 dw), (m25, aZ ca 1806 cn1_19), (m26, aI ca 5 ch1_19)] H := hP.sub [0, 1, 2, 3, 4, 5, 6] rfl
  have hD : va_D A [(hm, oB 8 [.ref m0, vI un, .ref m2, .ref m3, vI mo, vI oft, vI la, vI du, .ref m8, .ref m9, vI to, .ref m11, .ref m12, vJ tr, .ref m14, vI n, vI at0, vI sa, vI vv, .ref m19, vI rdu, .ref m21, .ref m22, vI se, vI its, .ref m25, .ref m26, vJ lt1_19]), (m0, aJ ca 7284 d1_19), (m3, aI ca 5 w), (m8, aI ca 6 dn), (m9, aI ca 6 dw), (m25, aZ ca 1806 cn1_19), (m26, aI ca 5 ch1_19)] := hD.sub [0, 1, 2, 3, 4, 5, 6] (by decide) rfl
  rw [hz18] at q19_0 q19_1
  have hz19 : -9 ≤ z19 ∧ z19 ≤ 200 := by rw [q19_0]; exact pds_rng hDU.1 _ _ _ _
  refine lv_bipush (v := Int32.ofInt (-9)) hx hb dX8_left_22 (by decide) ?_
  refine ri_icmp_ne (tgt := 34) hx hb dX8_left_24 (by decide) ⟨by omega, by omega⟩ ⟨by omega, by omega⟩ (fun c24 => ?_) (fun c24 => ?_)
  · skip
    refine rj_ldc (z := (-9)) hx hb hown lk_c222 dX8_left_34 (by decide) ?_
    refine zr_J hx hb hr hlk hQ (cn1_19, ch1_19, lt1_19, d1_19) hP hD hS dX8_left_37 (Nat.le_of_ble_eq_true rfl) (Nat.le_of_ble_eq_true rfl) ?_
    show (-9) = (if (pds w (ef oft la) dn dw mo du (120 - nn).toNat nn b (wgt b w nn)).1 = -9 then (pds w (ef oft la) dn dw mo du (120 - nn).toNat nn b (wgt b w nn)).2.2 else -9) ∧ FRM d d1_19 607
    refine ⟨?_, q19_2⟩
    first
    | (rw [if_pos (by omega)]; exact q19_1)
    | (rw [if_neg (by omega)])
  · skip
    refine lv_aload_n hx hb dX8_left_27 rfl (lv_at hl 0 rfl) ?_
    refine va_get (D := g) (ci := 8) (v := vJ lt1_19) (C := RX8) (T := TX8) (N := 28) hx hb hts inF_X8 hown hK.1 hP 0 rfl rfl 27 (by decide) lk_f214 (fun _ h9 => h9) rfl dX8_left_28 ?_
    refine lv_goto (tgt := 37) hx hb dX8_left_31 (by decide) ?_
    refine zr_J hx hb hr hlk hQ (cn1_19, ch1_19, lt1_19, d1_19) hP hD hS dX8_left_37 (Nat.le_of_ble_eq_true rfl) (Nat.le_of_ble_eq_true rfl) ?_
    show lt1_19 = (if (pds w (ef oft la) dn dw mo du (120 - nn).toNat nn b (wgt b w nn)).1 = -9 then (pds w (ef oft la) dn dw mo du (120 - nn).toNat nn b (wgt b w nn)).2.2 else -9) ∧ FRM d d1_19 607
    refine ⟨?_, q19_2⟩
    first
    | (rw [if_pos (by omega)]; exact q19_1)
    | (rw [if_neg (by omega)])
