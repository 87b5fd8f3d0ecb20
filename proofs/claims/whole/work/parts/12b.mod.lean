set_option maxHeartbeats 4000000 in
set_option maxRecDepth 100000 in
theorem k_X8_capOf (l : Launch) (g : va_G) (ca : Nat → ClassId) (hm : Nat) (m0 : Nat) (m2 : Nat) (m3 : Nat) (m8 : Nat) (m9 : Nat) (m11 : Nat) (m12 : Nat) (m14 : Nat) (m19 : Nat) (m21 : Nat) (m22 : Nat) (m25 : Nat) (m26 : Nat) (un : Int) (mo : Int) (oft : Int) (la : Int) (du : Int) (to : Int) (tr : Int) (n : Int) (at0 : Int) (sa : Int) (vv : Int) (rdu : Int) (se : Int) (its : Int) (lt0 : Int) (d : Int → Int) (h0 : Int) (o : Int) (b : Int → Int) (nn : Int) (ml : Int) (hh0 : 0 ≤ h0 ∧ h0 ≤ 6677) (ho : 0 ≤ o ∧ o ≤ 4) (hAT : AT d h0 b nn ml) (hB : GB b nn) : zI (S := Unit) l yX8_capOf wsX8_capOf ({ frames := 1, cells := 0, slots := 0, locals := 25 } : Room) g ca [.ref hm, vI h0, vI o] [(hm, oB 8 [.ref m0, vI un, .ref m2, .ref m3, vI mo, vI oft, vI la, vI du, .ref m8, .ref m9, vI to, .ref m11, .ref m12, vJ tr, .ref m14, vI n, vI at0, vI sa, vI vv, .ref m19, vI rdu, .ref m21, .ref m22, vI se, vI its, .ref m25, .ref m26, vJ lt0]), (m0, aJ ca 7284 d)] (fun (z : Int) (u : Unit) => z = if 300 < cnt b nn o then 300 else cnt b nn o) (fun (u : Unit) => [(hm, oB 8 [.ref m0, vI un, .ref m2, .ref m3, vI mo, vI oft, vI la, vI du, .ref m8, .ref m9, vI to, .ref m11, .ref m12, vJ tr, .ref m14, vI n, vI at0, vI sa, vI vv, .ref m19, vI rdu, .ref m21, .ref m22, vI se, vI its, .ref m25, .ref m26, vJ lt0]), (m0, aJ ca 7284 d)]) 0 0 := by
  refine zm_I (cc := cX8_capOf) (maxL := 5) (ret := some .int) (by decide) rfl (Nat.le_of_ble_eq_true rfl) ?_
  intro p e s m below meth c A ls R args Q hR hargs hQ hx hb hml hr hts hown hlk hnm hK hP hD hA hS hl
  have hown : s.vm.findClass RX8 = some m.cls := hown
  have hl : lv_has ls 5 [(0, .ref hm), (1, vI h0), (2, vI o)] := hl
  have lk_c197 : (Cond.constantLong RX8 197 (300)).before args s = true := hts _ (by decide +kernel)
  refine lv_aload_n hx hb dX8_capOf_0 rfl (lv_at hl 0 rfl) ?_
  refine lv_iload_n hx hb dX8_capOf_1 rfl (lv_at hl 1 rfl) ?_
  refine lv_iload_n hx hb dX8_capOf_2 rfl (lv_at hl 2 rfl) ?_
  refine zc_VJ (As := [vI h0, vI o]) (rest := []) (wc := [(hm, oB 8 [.ref m0, vI un, .ref m2, .ref m3, vI mo, vI oft, vI la, vI du, .ref m8, .ref m9, vI to, .ref m11, .ref m12, vJ tr, .ref m14, vI n, vI at0, vI sa, vI vv, .ref m19, vI rdu, .ref m21, .ref m22, vI se, vI its, .ref m25, .ref m26, vJ lt0]), (m0, aJ ca 7284 d)]) (wr := []) (k_X8_manyOf l g ca hm m0 m2 m3 m8 m9 m11 m12 m14 m19 m21 m22 m25 m26 un mo oft la du to tr n at0 sa vv rdu se its lt0 d h0 o b nn ml (by first | assumption | omega) (by first | assumption | omega) (by first | assumption | omega) (by first | assumption | omega)) dX8_capOf_3 (cwV 2 hts gX8_capOf_X8_manyOf rfl rfl rfl (by decide +kernel) (by rw [hR]; exact ⟨Nat.le_of_ble_eq_true rfl, Nat.le_of_ble_eq_true rfl⟩)) ⟨hx, hb, hml, hown, hts⟩ hl.1 hK hP hD hS hA 0 rfl rfl rfl [0, 1] [] rfl (by decide) rfl (by decide) (by decide) rfl rfl (Nat.le_of_ble_eq_true rfl) (by rw [hR]; exact ⟨Nat.le_of_ble_eq_true rfl, Nat.le_of_ble_eq_true rfl⟩) (fun z3 u H locs q3 hP hD hS => ?_)
  have q3 : z3 = cnt b nn o := q3
  have hP : va_P g vwCl [(hm, oB 8 [.ref m0, vI un, .ref m2, .ref m3, vI mo, vI oft, vI la, vI du, .ref m8, .ref m9, vI to, .ref m11, .ref m12, vJ tr, .ref m14, vI n, vI at0, vI sa, vI vv, .ref m19, vI rdu, .ref m21, .ref m22, vI se, vI its, .ref m25, .ref m26, vJ lt0]), (m0, aJ ca 7284 d)] H := hP.sub [0, 1] rfl
  have hD : va_D A [(hm, oB 8 [.ref m0, vI un, .ref m2, .ref m3, vI mo, vI oft, vI la, vI du, .ref m8, .ref m9, vI to, .ref m11, .ref m12, vJ tr, .ref m14, vI n, vI at0, vI sa, vI vv, .ref m19, vI rdu, .ref m21, .ref m22, vI se, vI its, .ref m25, .ref m26, vJ lt0]), (m0, aJ ca 7284 d)] := hD.sub [0, 1] (by decide) rfl
  have hc6 := cnt_bd hB ho.1 ho.2
  refine lv_lstore_n (lv' := [(3, vJ z3), (0, .ref hm), (1, vI h0), (2, vI o)]) hx hb dX8_capOf_6 rfl hl (by decide) rfl (fun ls hl => ?_)
  refine lv_lload_n hx hb dX8_capOf_7 rfl (lv_at hl 0 rfl) ?_
  refine rj_ldc (z := 300) hx hb hown lk_c197 dX8_capOf_8 (by decide) ?_
  refine rj_cmp hx hb dX8_capOf_11 ⟨by omega, by omega⟩ ⟨by omega, by omega⟩ (fun z11 e11 => ?_)
  refine ri_if_le (tgt := 21) hx hb dX8_capOf_12 (by decide) ⟨by omega, by omega⟩ (fun c12 => ?_) (fun c12 => ?_)
  · skip
    have c12 : z3 ≤ 300 := by omega
    clear e11
    refine lv_lload_n hx hb dX8_capOf_21 rfl (lv_at hl 0 rfl) ?_
    refine rj_i hx hb dX8_capOf_22 ⟨by omega, by omega⟩ ?_
    refine zr_I hx hb hr hlk hQ () hP hD hS dX8_capOf_23 (Nat.le_of_ble_eq_true rfl) (Nat.le_of_ble_eq_true rfl) ?_
    show z3 = if 300 < cnt b nn o then 300 else cnt b nn o
    split <;> omega
  · skip
    have c12 : 300 < z3 := by omega
    clear e11
    refine lv_sipush (v := Int32.ofInt 300) hx hb dX8_capOf_15 (by decide) ?_
    refine lv_goto (tgt := 23) hx hb dX8_capOf_18 (by decide) ?_
    refine zr_I hx hb hr hlk hQ () hP hD hS dX8_capOf_23 (Nat.le_of_ble_eq_true rfl) (Nat.le_of_ble_eq_true rfl) ?_
    show 300 = if 300 < cnt b nn o then 300 else cnt b nn o
    split <;> omega
set_option maxHeartbeats 4000000 in
set_option maxRecDepth 100000 in
theorem k_X8_lesser (l : Launch) (g : va_G) (ca : Nat → ClassId) (x : Int) (y : Int) (h1 : in32 x) (h2 : in32 y) : zI (S := Unit) l yX8_lesser wsX8_lesser ({ frames := 0, cells := 0, slots := 0, locals := 0 } : Room) g ca [vI x, vI y] [] (fun (z : Int) (u : Unit) => z = if x < y then x else y) (fun (u : Unit) => []) 0 0 := by
  refine zm_I (cc := cX8_lesser) (maxL := 2) (ret := some .int) (by decide) rfl (Nat.le_of_ble_eq_true rfl) ?_
  intro p e s m below meth c A ls R args Q hR hargs hQ hx hb hml hr hts hown hlk hnm hK hP hD hA hS hl
  have hown : s.vm.findClass RX8 = some m.cls := hown
  have hl : lv_has ls 2 [(0, vI x), (1, vI y)] := hl
  refine lv_iload_n hx hb dX8_lesser_0 rfl (lv_at hl 0 rfl) ?_
  refine lv_iload_n hx hb dX8_lesser_1 rfl (lv_at hl 1 rfl) ?_
  refine ri_icmp_ge (tgt := 9) hx hb dX8_lesser_2 (by decide) h1 h2 (fun c2 => ?_) (fun c2 => ?_)
  · skip
    refine lv_iload_n hx hb dX8_lesser_9 rfl (lv_at hl 1 rfl) ?_
    refine zr_I hx hb hr hlk hQ () hP hD hS dX8_lesser_10 (Nat.le_of_ble_eq_true rfl) (Nat.le_of_ble_eq_true rfl) ?_
    show y = if x < y then x else y
    split <;> omega
  · skip
    refine lv_iload_n hx hb dX8_lesser_5 rfl (lv_at hl 0 rfl) ?_
    refine lv_goto (tgt := 10) hx hb dX8_lesser_6 (by decide) ?_
    refine zr_I hx hb hr hlk hQ () hP hD hS dX8_lesser_10 (Nat.le_of_ble_eq_true rfl) (Nat.le_of_ble_eq_true rfl) ?_
    show x = if x < y then x else y
    split <;> omega
set_option maxHeartbeats 4000000 in
set_option maxRecDepth 100000 in
theorem k_X8_laySums (l : Launch) (g : va_G) (ca : Nat → ClassId) (hm : Nat) (m0 : Nat) (m2 : Nat) (m3 : Nat) (m8 : Nat) (m9 : Nat) (m11 : Nat) (m12 : Nat) (m14 : Nat) (m19 : Nat) (m21 : Nat) (m22 : Nat) (m25 : Nat) (m26 : Nat) (un : Int) (mo : Int) (oft : Int) (la : Int) (du : Int) (to : Int) (tr : Int) (n : Int) (at0 : Int) (sa : Int) (vv : Int) (rdu : Int) (se : Int) (its : Int) (lt0 : Int) (d : Int → Int) (w : Int → Int) (cn : Int → Int) (h0 : Int) (b : Int → Int) (nn : Int) (ml : Int) (hh0 : 0 ≤ h0 ∧ h0 ≤ 6677) (hAT : AT d h0 b nn ml) (hB : GB b nn) (hW : GW w) : zV (S := (Int → Int)) l yX8_laySums wsX8_laySums ({ frames := 2, cells := 0, slots := 0, locals := 49 } : Room) g ca [.ref hm, vI h0] [(hm, oB 8 [.ref m0, vI un, .ref m2, .ref m3, vI mo, vI oft, vI la, vI du, .ref m8, .ref m9, vI to, .ref m11, .ref m12, vJ tr, .ref m14, vI n, vI at0, vI sa, vI vv, .ref m19, vI rdu, .ref m21, .ref m22, vI se, vI its, .ref m25, .ref m26, vJ lt0]), (m0, aJ ca 7284 d), (m3, aI ca 5 w), (m25, aZ ca 1806 cn)] (fun (u : (Int → Int)) => CN u (cnt b nn) w 5 0) (fun (u : (Int → Int)) => [(hm, oB 8 [.ref m0, vI un, .ref m2, .ref m3, vI mo, vI oft, vI la, vI du, .ref m8, .ref m9, vI to, .ref m11, .ref m12, vJ tr, .ref m14, vI n, vI at0, vI sa, vI vv, .ref m19, vI rdu, .ref m21, .ref m22, vI se, vI its, .ref m25, .ref m26, vJ lt0]), (m0, aJ ca 7284 d), (m3, aI ca 5 w), (m25, aZ ca 1806 u)]) 0 0 := by
  refine zm_V (cc := cX8_laySums) (maxL := 7) (ret := none) (by decide) rfl (Nat.le_of_ble_eq_true rfl) ?_
  intro p e s m below meth c A ls R args Q hR hargs hQ hx hb hml hr hts hown hlk hnm hK hP hD hA hS hl
  have hown : s.vm.findClass RX8 = some m.cls := hown
  have hl : lv_has ls 7 [(0, .ref hm), (1, vI h0)] := hl
  have lk_f45 : (Cond.fieldLink RX8 45 "DripRingsModel" "can" "[Z").before args s = true := hts _ (by decide +kernel)
  have inF_X8 : ∀ w ∈ wsX80, w ∈ wsX8_laySums := by decide +kernel
  have lk_f17 : (Cond.fieldLink RX8 17 "DripRingsModel" "weights" "[I").before args s = true := hts _ (by decide +kernel)
  refine lv_iconst (v := Int32.ofInt 0) hx hb dX8_laySums_0 rfl ?_
  refine lv_istore_n (lv' := [(2, vI 0), (0, .ref hm), (1, vI h0)]) hx hb dX8_laySums_1 rfl hl (by decide) rfl (fun ls hl => ?_)
  have L2 : ∀ (N2 : Nat) (s0 : Int) (f : Int → Int) (hi : 0 ≤ s0 ∧ s0 ≤ 301) (hf : ∀ j : Int, 0 ≤ j → j < s0 → f j = if j = 0 then 1 else 0) (hμ : (301 - s0).toNat < N2) (H : Heap) (locs : List Loc) (hP : va_P g vwCl [(hm, oB 8 [.ref m0, vI un, .ref m2, .ref m3, vI mo, vI oft, vI la, vI du, .ref m8, .ref m9, vI to, .ref m11, .ref m12, vJ tr, .ref m14, vI n, vI at0, vI sa, vI vv, .ref m19, vI rdu, .ref m21, .ref m22, vI se, vI its, .ref m25, .ref m26, vJ lt0]), (m0, aJ ca 7284 d), (m3, aI ca 5 w), (m25, aZ ca 1806 f)] H) (hD : va_D A [(hm, oB 8 [.ref m0, vI un, .ref m2, .ref m3, vI mo, vI oft, vI la, vI du, .ref m8, .ref m9, vI to, .ref m11, .ref m12, vJ tr, .ref m14, vI n, vI at0, vI sa, vI vv, .ref m19, vI rdu, .ref m21, .ref m22, vI se, vI its, .ref m25, .ref m26, vJ lt0]), (m0, aJ ca 7284 d), (m3, aI ca 5 w), (m25, aZ ca 1806 f)]) (hS : va_S A s.heap H locs) (ls : Array Slot) (hl : lv_has ls 7 [(2, vI s0), (0, .ref hm), (1, vI h0)]), W p l e R s m args below meth c H locs 0 0 Q (F0 m 2 ls []) := by
    intro N2; induction N2 with
    | zero => intro s0 f hi hf hμ; exact absurd hμ (Nat.not_lt_zero _)
    | succ N2 ih2 =>
      intro s0 f hi hf hμ H locs hP hD hS ls hl
      refine lv_iload_n hx hb dX8_laySums_2 rfl (lv_at hl 0 rfl) ?_
      refine lv_sipush (v := Int32.ofInt 300) hx hb dX8_laySums_3 (by decide) ?_
      refine ri_icmp_gt (tgt := 30) hx hb dX8_laySums_6 (by decide) ⟨by omega, by omega⟩ ⟨by omega, by omega⟩ (fun c6 => ?_) (fun c6 => ?_)
      · skip
        refine lv_iconst (v := Int32.ofInt 0) hx hb dX8_laySums_30 rfl ?_
        refine lv_istore_n (lv' := [(2, vI 0), (0, .ref hm), (1, vI h0)]) hx hb dX8_laySums_31 rfl hl (by decide) rfl (fun ls hl => ?_)
        have L32 : ∀ (N32 : Nat) (o : Int) (f2 : Int → Int) (ho : 0 ≤ o ∧ o ≤ 5) (hC : CN f2 (cnt b nn) w o 0) (hμ : (5 - o).toNat < N32) (H : Heap) (locs : List Loc) (hP : va_P g vwCl [(hm, oB 8 [.ref m0, vI un, .ref m2, .ref m3, vI mo, vI oft, vI la, vI du, .ref m8, .ref m9, vI to, .ref m11, .ref m12, vJ tr, .ref m14, vI n, vI at0, vI sa, vI vv, .ref m19, vI rdu, .ref m21, .ref m22, vI se, vI its, .ref m25, .ref m26, vJ lt0]), (m0, aJ ca 7284 d), (m3, aI ca 5 w), (m25, aZ ca 1806 f2)] H) (hD : va_D A [(hm, oB 8 [.ref m0, vI un, .ref m2, .ref m3, vI mo, vI oft, vI la, vI du, .ref m8, .ref m9, vI to, .ref m11, .ref m12, vJ tr, .ref m14, vI n, vI at0, vI sa, vI vv, .ref m19, vI rdu, .ref m21, .ref m22, vI se, vI its, .ref m25, .ref m26, vJ lt0]), (m0, aJ ca 7284 d), (m3, aI ca 5 w), (m25, aZ ca 1806 f2)]) (hS : va_S A s.heap H locs) (ls : Array Slot) (hl : lv_has ls 7 [(2, vI o), (0, .ref hm), (1, vI h0)]), W p l e R s m args below meth c H locs 0 0 Q (F0 m 32 ls []) := by
          intro N32; induction N32 with
          | zero => intro o f2 ho hC hμ; exact absurd hμ (Nat.not_lt_zero _)
          | succ N32 ih32 =>
            intro o f2 ho hC hμ H locs hP hD hS ls hl
            refine lv_iload_n hx hb dX8_laySums_32 rfl (lv_at hl 0 rfl) ?_
            refine lv_iconst (v := Int32.ofInt 5) hx hb dX8_laySums_33 rfl ?_
            refine ri_icmp_ge (tgt := 146) hx hb dX8_laySums_34 (by decide) ⟨by omega, by omega⟩ ⟨by omega, by omega⟩ (fun c34 => ?_) (fun c34 => ?_)
            · skip
              refine zr_V hx hb hr hlk hQ (f2) hP hD hS dX8_laySums_146 (Nat.le_of_ble_eq_true rfl) (Nat.le_of_ble_eq_true rfl) ?_
              show CN f2 (cnt b nn) w 5 0
              rw [show (5 : Int) = o by omega]; exact hC
            · skip
              refine lv_aload_n hx hb dX8_laySums_37 rfl (lv_at hl 1 rfl) ?_
              refine lv_iload_n hx hb dX8_laySums_38 rfl (lv_at hl 2 rfl) ?_
              refine lv_iload_n hx hb dX8_laySums_39 rfl (lv_at hl 0 rfl) ?_
              refine zc_VI (As := [vI h0, vI o]) (rest := []) (wc := [(hm, oB 8 [.ref m0, vI un, .ref m2, .ref m3, vI mo, vI oft, vI la, vI du, .ref m8, .ref m9, vI to, .ref m11, .ref m12, vJ tr, .ref m14, vI n, vI at0, vI sa, vI vv, .ref m19, vI rdu, .ref m21, .ref m22, vI se, vI its, .ref m25, .ref m26, vJ lt0]), (m0, aJ ca 7284 d)]) (wr := [(m3, aI ca 5 w), (m25, aZ ca 1806 f2)]) (k_X8_capOf l g ca hm m0 m2 m3 m8 m9 m11 m12 m14 m19 m21 m22 m25 m26 un mo oft la du to tr n at0 sa vv rdu se its lt0 d h0 o b nn ml (by first | assumption | omega) (by first | assumption | omega) (by first | assumption | omega) (by first | assumption | omega)) dX8_laySums_40 (cwV 2 hts gX8_laySums_X8_capOf rfl rfl rfl (by decide +kernel) (by rw [hR]; exact ⟨Nat.le_of_ble_eq_true rfl, Nat.le_of_ble_eq_true rfl⟩)) ⟨hx, hb, hml, hown, hts⟩ hl.1 hK hP hD hS hA 0 rfl rfl rfl [0, 1] [2, 3] rfl (by decide) rfl (by decide) (by decide) rfl rfl (Nat.le_of_ble_eq_true rfl) (by rw [hR]; exact ⟨Nat.le_of_ble_eq_true rfl, Nat.le_of_ble_eq_true rfl⟩) (fun z40 u H locs q40 hP hD hS => ?_)
              have q40 : z40 = if 300 < cnt b nn o then 300 else cnt b nn o := q40
              have hP : va_P g vwCl [(hm, oB 8 [.ref m0, vI un, .ref m2, .ref m3, vI mo, vI oft, vI la, vI du, .ref m8, .ref m9, vI to, .ref m11, .ref m12, vJ tr, .ref m14, vI n, vI at0, vI sa, vI vv, .ref m19, vI rdu, .ref m21, .ref m22, vI se, vI its, .ref m25, .ref m26, vJ lt0]), (m0, aJ ca 7284 d), (m3, aI ca 5 w), (m25, aZ ca 1806 f2)] H := hP.sub [2, 3, 0, 1] rfl
              have hD : va_D A [(hm, oB 8 [.ref m0, vI un, .ref m2, .ref m3, vI mo, vI oft, vI la, vI du, .ref m8, .ref m9, vI to, .ref m11, .ref m12, vJ tr, .ref m14, vI n, vI at0, vI sa, vI vv, .ref m19, vI rdu, .ref m21, .ref m22, vI se, vI its, .ref m25, .ref m26, vJ lt0]), (m0, aJ ca 7284 d), (m3, aI ca 5 w), (m25, aZ ca 1806 f2)] := hD.sub [2, 3, 0, 1] (by decide) rfl
              refine lv_istore_n (lv' := [(3, vI z40), (2, vI o), (0, .ref hm), (1, vI h0)]) hx hb dX8_laySums_43 rfl hl (by decide) rfl (fun ls hl => ?_)
              have hc44 := cnt_bd hB (o := o) (by omega) (by omega)
              have hcap : 0 ≤ z40 ∧ z40 ≤ 300 := by rw [q40]; split <;> omega
              refine lv_iconst (v := Int32.ofInt 0) hx hb dX8_laySums_44 rfl ?_
              refine lv_istore (lv' := [(4, vI 0), (3, vI z40), (2, vI o), (0, .ref hm), (1, vI h0)]) hx hb dX8_laySums_45 hl (by decide) rfl (fun ls hl => ?_)
              have L47 : ∀ (N47 : Nat) (s1 : Int) (f3 : Int → Int) (hs1 : 0 ≤ s1 ∧ s1 ≤ 301) (hC2 : CN f3 (cnt b nn) w o s1) (hμ : (301 - s1).toNat < N47) (H : Heap) (locs : List Loc) (hP : va_P g vwCl [(hm, oB 8 [.ref m0, vI un, .ref m2, .ref m3, vI mo, vI oft, vI la, vI du, .ref m8, .ref m9, vI to, .ref m11, .ref m12, vJ tr, .ref m14, vI n, vI at0, vI sa, vI vv, .ref m19, vI rdu, .ref m21, .ref m22, vI se, vI its, .ref m25, .ref m26, vJ lt0]), (m0, aJ ca 7284 d), (m3, aI ca 5 w), (m25, aZ ca 1806 f3)] H) (hD : va_D A [(hm, oB 8 [.ref m0, vI un, .ref m2, .ref m3, vI mo, vI oft, vI la, vI du, .ref m8, .ref m9, vI to, .ref m11, .ref m12, vJ tr, .ref m14, vI n, vI at0, vI sa, vI vv, .ref m19, vI rdu, .ref m21, .ref m22, vI se, vI its, .ref m25, .ref m26, vJ lt0]), (m0, aJ ca 7284 d), (m3, aI ca 5 w), (m25, aZ ca 1806 f3)]) (hS : va_S A s.heap H locs) (ls : Array Slot) (hl : lv_has ls 7 [(4, vI s1), (3, vI z40), (2, vI o), (0, .ref hm), (1, vI h0)]), W p l e R s m args below meth c H locs 0 0 Q (F0 m 47 ls []) := by
                intro N47; induction N47 with
                | zero => intro s1 f3 hs1 hC2 hμ; exact absurd hμ (Nat.not_lt_zero _)
                | succ N47 ih47 =>
                  intro s1 f3 hs1 hC2 hμ H locs hP hD hS ls hl
                  refine lv_iload hx hb dX8_laySums_47 (lv_at hl 0 rfl) ?_
                  refine lv_sipush (v := Int32.ofInt 300) hx hb dX8_laySums_49 (by decide) ?_
                  refine ri_icmp_gt (tgt := 140) hx hb dX8_laySums_52 (by decide) ⟨by omega, by omega⟩ ⟨by omega, by omega⟩ (fun c52 => ?_) (fun c52 => ?_)
                  · skip
                    obtain ⟨z140, e140⟩ : ∃ q : Int, q = o + 1 := ⟨_, rfl⟩
                    refine ri_inc (lv' := [(2, vI z140), (4, vI s1), (3, vI z40), (0, .ref hm), (1, vI h0)]) hx hb dX8_laySums_140 hl (k := 2) rfl (by decide) z140 e140 rfl (fun ls hl => ?_)
                    refine lv_goto (tgt := 32) hx hb dX8_laySums_143 (by decide) ?_
                    exact ih32 z140 f3 (by first | assumption | omega) (by rw [e140]; exact CN_row (by rw [show (301 : Int) = s1 by omega]; exact hC2)) (by omega) _ _ hP hD hS ls (lv_sub hl [0, 3, 4] rfl)
                  · skip
                    refine lv_iconst (v := Int32.ofInt 0) hx hb dX8_laySums_55 rfl ?_
                    refine lv_istore (lv' := [(5, vI 0), (4, vI s1), (3, vI z40), (2, vI o), (0, .ref hm), (1, vI h0)]) hx hb dX8_laySums_56 hl (by decide) rfl (fun ls hl => ?_)
                    refine lv_iconst (v := Int32.ofInt 0) hx hb dX8_laySums_58 rfl ?_
                    refine lv_istore (lv' := [(6, vI 0), (5, vI 0), (4, vI s1), (3, vI z40), (2, vI o), (0, .ref hm), (1, vI h0)]) hx hb dX8_laySums_59 hl (by decide) rfl (fun ls hl => ?_)
                    have L61 : ∀ (N61 : Nat) (n0 : Int) (is0 : Int) (hn0 : 0 ≤ n0 ∧ n0 ≤ z40 + 1) (his : (is0 = 0 ∧ ∀ k : Int, 0 ≤ k → k < n0 → ¬ RC (cnt b nn) w o.toNat (s1 - k * w o)) ∨ (is0 = 1 ∧ RC (cnt b nn) w (o + 1).toNat s1)) (hμ : (z40 + 1 - n0).toNat < N61) (H : Heap) (locs : List Loc) (hP : va_P g vwCl [(hm, oB 8 [.ref m0, vI un, .ref m2, .ref m3, vI mo, vI oft, vI la, vI du, .ref m8, .ref m9, vI to, .ref m11, .ref m12, vJ tr, .ref m14, vI n, vI at0, vI sa, vI vv, .ref m19, vI rdu, .ref m21, .ref m22, vI se, vI its, .ref m25, .ref m26, vJ lt0]), (m0, aJ ca 7284 d), (m3, aI ca 5 w), (m25, aZ ca 1806 f3)] H) (hD : va_D A [(hm, oB 8 [.ref m0, vI un, .ref m2, .ref m3, vI mo, vI oft, vI la, vI du, .ref m8, .ref m9, vI to, .ref m11, .ref m12, vJ tr, .ref m14, vI n, vI at0, vI sa, vI vv, .ref m19, vI rdu, .ref m21, .ref m22, vI se, vI its, .ref m25, .ref m26, vJ lt0]), (m0, aJ ca 7284 d), (m3, aI ca 5 w), (m25, aZ ca 1806 f3)]) (hS : va_S A s.heap H locs) (ls : Array Slot) (hl : lv_has ls 7 [(6, vI n0), (5, vI is0), (4, vI s1), (3, vI z40), (2, vI o), (0, .ref hm), (1, vI h0)]), W p l e R s m args below meth c H locs 0 0 Q (F0 m 61 ls []) := by
                      intro N61; induction N61 with
                      | zero => intro n0 is0 hn0 his hμ; exact absurd hμ (Nat.not_lt_zero _)
                      | succ N61 ih61 =>
                        intro n0 is0 hn0 his hμ H locs hP hD hS ls hl
                        have J117 : ∀ (y : Int) (hy : (y = 1 ∧ RC (cnt b nn) w (o + 1).toNat s1) ∨ (y = 0 ∧ ¬ RC (cnt b nn) w (o + 1).toNat s1)) (H : Heap) (locs : List Loc) (hP : va_P g vwCl [(hm, oB 8 [.ref m0, vI un, .ref m2, .ref m3, vI mo, vI oft, vI la, vI du, .ref m8, .ref m9, vI to, .ref m11, .ref m12, vJ tr, .ref m14, vI n, vI at0, vI sa, vI vv, .ref m19, vI rdu, .ref m21, .ref m22, vI se, vI its, .ref m25, .ref m26, vJ lt0]), (m0, aJ ca 7284 d), (m3, aI ca 5 w), (m25, aZ ca 1806 f3)] H) (hD : va_D A [(hm, oB 8 [.ref m0, vI un, .ref m2, .ref m3, vI mo, vI oft, vI la, vI du, .ref m8, .ref m9, vI to, .ref m11, .ref m12, vJ tr, .ref m14, vI n, vI at0, vI sa, vI vv, .ref m19, vI rdu, .ref m21, .ref m22, vI se, vI its, .ref m25, .ref m26, vJ lt0]), (m0, aJ ca 7284 d), (m3, aI ca 5 w), (m25, aZ ca 1806 f3)]) (hS : va_S A s.heap H locs) (ls : Array Slot) (hl : lv_has ls 7 [(5, vI y), (4, vI s1), (3, vI z40), (2, vI o), (0, .ref hm), (1, vI h0)]), W p l e R s m args below meth c H locs 0 0 Q (F0 m 117 ls []) := by
                          intro y hy H locs hP hD hS ls hl
                          refine lv_aload_n hx hb dX8_laySums_117 rfl (lv_at hl 4 rfl) ?_
                          refine va_get (D := g) (ci := 8) (v := .ref m25) (C := RX8) (T := TX8) (N := 28) hx hb hts inF_X8 hown hK.1 hP 0 rfl rfl 25 (by decide) lk_f45 (fun _ h9 => h9) rfl dX8_laySums_118 ?_
                          refine lv_sipush (v := Int32.ofInt 301) hx hb dX8_laySums_121 (by decide) ?_
                          refine lv_iload_n hx hb dX8_laySums_124 rfl (lv_at hl 3 rfl) ?_
                          refine lv_iconst (v := Int32.ofInt 1) hx hb dX8_laySums_125 rfl ?_
                          refine ri_add hx hb dX8_laySums_126 (fun z126 e126 => ?_)
                          refine ri_mul hx hb dX8_laySums_127 (fun z127 e127 => ?_)
                          refine lv_iload hx hb dX8_laySums_128 (lv_at hl 1 rfl) ?_
                          refine ri_add hx hb dX8_laySums_130 (fun z130 e130 => ?_)
                          refine lv_iload hx hb dX8_laySums_131 (lv_at hl 0 rfl) ?_
                          refine ra_zst hx hb hK hP hD hS 3 rfl dX8_laySums_133 ⟨by omega, by omega⟩ (by omega) (show y = 0 ∨ y = 1 from (by omega)) (fun H locs hP hD hS => ?_)
                          have hP : va_P g vwCl [(hm, oB 8 [.ref m0, vI un, .ref m2, .ref m3, vI mo, vI oft, vI la, vI du, .ref m8, .ref m9, vI to, .ref m11, .ref m12, vJ tr, .ref m14, vI n, vI at0, vI sa, vI vv, .ref m19, vI rdu, .ref m21, .ref m22, vI se, vI its, .ref m25, .ref m26, vJ lt0]), (m0, aJ ca 7284 d), (m3, aI ca 5 w), (m25, aZ ca 1806 (zu f3 z130 y))] H := hP
                          have hD : va_D A [(hm, oB 8 [.ref m0, vI un, .ref m2, .ref m3, vI mo, vI oft, vI la, vI du, .ref m8, .ref m9, vI to, .ref m11, .ref m12, vJ tr, .ref m14, vI n, vI at0, vI sa, vI vv, .ref m19, vI rdu, .ref m21, .ref m22, vI se, vI its, .ref m25, .ref m26, vJ lt0]), (m0, aJ ca 7284 d), (m3, aI ca 5 w), (m25, aZ ca 1806 (zu f3 z130 y))] := hD
                          obtain ⟨z134, e134⟩ : ∃ q : Int, q = s1 + 1 := ⟨_, rfl⟩
                          refine ri_inc (lv' := [(4, vI z134), (5, vI y), (3, vI z40), (2, vI o), (0, .ref hm), (1, vI h0)]) hx hb dX8_laySums_134 hl (k := 1) rfl (by decide) z134 e134 rfl (fun ls hl => ?_)
                          refine lv_goto (tgt := 47) hx hb dX8_laySums_137 (by decide) ?_
                          exact ih47 z134 (zu f3 z130 y) (by first | assumption | omega) (by rw [e134]; exact CN_zu hC2 (by omega) (by omega) (by omega) hy) (by omega) _ _ hP hD hS ls (lv_sub hl [0, 2, 3, 4, 5] rfl)
                        refine lv_iload hx hb dX8_laySums_61 (lv_at hl 0 rfl) ?_
                        refine lv_iload_n hx hb dX8_laySums_63 rfl (lv_at hl 3 rfl) ?_
                        refine ri_icmp_gt (tgt := 117) hx hb dX8_laySums_64 (by decide) ⟨by omega, by omega⟩ ⟨by omega, by omega⟩ (fun c64 => ?_) (fun c64 => ?_)
                        · skip
                          exact J117 is0 (by
                                rcases his with h8 | h8
                                · first
                                  | exact Or.inr ⟨h8.1, cn_none hW (by omega) (by omega) (by omega) q40 h8.2 (Or.inl (by omega))⟩
                                  | exact Or.inr ⟨h8.1, cn_none hW (by omega) (by omega) (by omega) q40 h8.2 (Or.inr ⟨by omega, by omega⟩)⟩
                                  | (exfalso; omega)
                                · exact Or.inl h8) _ _ hP hD hS ls (lv_sub hl [1, 2, 3, 4, 5, 6] rfl)
                        · skip
                          refine lv_iload hx hb dX8_laySums_67 (lv_at hl 0 rfl) ?_
                          refine lv_aload_n hx hb dX8_laySums_69 rfl (lv_at hl 5 rfl) ?_
                          refine va_get (D := g) (ci := 8) (v := .ref m3) (C := RX8) (T := TX8) (N := 28) hx hb hts inF_X8 hown hK.1 hP 0 rfl rfl 3 (by decide) lk_f17 (fun _ h9 => h9) rfl dX8_laySums_70 ?_
                          refine lv_iload_n hx hb dX8_laySums_73 rfl (lv_at hl 4 rfl) ?_
                          refine ra_ild hx hb hK hP 2 rfl dX8_laySums_74 ⟨by omega, by omega⟩ (by omega) ?_
                          have hw75 := hW o (by omega) (by omega)
                          have hm75 := mul_rng (a := n0) (b := w o) (A := 400) (B := 99) (by split at q40 <;> omega) hw75
                          refine ri_mul hx hb dX8_laySums_75 (fun z75 e75 => ?_)
                          refine lv_iload hx hb dX8_laySums_76 (lv_at hl 2 rfl) ?_
                          refine ri_icmp_gt (tgt := 117) hx hb dX8_laySums_78 (by decide) ⟨by omega, by omega⟩ ⟨by omega, by omega⟩ (fun c78 => ?_) (fun c78 => ?_)
                          · skip
                            exact J117 is0 (by
                                  rcases his with h8 | h8
                                  · first
                                    | exact Or.inr ⟨h8.1, cn_none hW (by omega) (by omega) (by omega) q40 h8.2 (Or.inl (by omega))⟩
                                    | exact Or.inr ⟨h8.1, cn_none hW (by omega) (by omega) (by omega) q40 h8.2 (Or.inr ⟨by omega, by omega⟩)⟩
                                    | (exfalso; omega)
                                  · exact Or.inl h8) _ _ hP hD hS ls (lv_sub hl [1, 2, 3, 4, 5, 6] rfl)
                          · skip
                            refine lv_iload hx hb dX8_laySums_81 (lv_at hl 1 rfl) ?_
                            refine ri_if_ne (tgt := 117) hx hb dX8_laySums_83 (by decide) ⟨by omega, by omega⟩ (fun c83 => ?_) (fun c83 => ?_)
                            · skip
                              exact J117 is0 (by
                                    rcases his with h8 | h8
                                    · first
                                      | exact Or.inr ⟨h8.1, cn_none hW (by omega) (by omega) (by omega) q40 h8.2 (Or.inl (by omega))⟩
                                      | exact Or.inr ⟨h8.1, cn_none hW (by omega) (by omega) (by omega) q40 h8.2 (Or.inr ⟨by omega, by omega⟩)⟩
                                      | (exfalso; omega)
                                    · exact Or.inl h8) _ _ hP hD hS ls (lv_sub hl [1, 2, 3, 4, 5, 6] rfl)
                            · skip
                              refine lv_aload_n hx hb dX8_laySums_86 rfl (lv_at hl 5 rfl) ?_
                              refine va_get (D := g) (ci := 8) (v := .ref m25) (C := RX8) (T := TX8) (N := 28) hx hb hts inF_X8 hown hK.1 hP 0 rfl rfl 25 (by decide) lk_f45 (fun _ h9 => h9) rfl dX8_laySums_87 ?_
                              refine lv_sipush (v := Int32.ofInt 301) hx hb dX8_laySums_90 (by decide) ?_
                              refine lv_iload_n hx hb dX8_laySums_93 rfl (lv_at hl 4 rfl) ?_
                              refine ri_mul hx hb dX8_laySums_94 (fun z94 e94 => ?_)
                              refine lv_iload hx hb dX8_laySums_95 (lv_at hl 2 rfl) ?_
                              refine ri_add hx hb dX8_laySums_97 (fun z97 e97 => ?_)
                              refine lv_iload hx hb dX8_laySums_98 (lv_at hl 0 rfl) ?_
                              refine lv_aload_n hx hb dX8_laySums_100 rfl (lv_at hl 5 rfl) ?_
                              refine va_get (D := g) (ci := 8) (v := .ref m3) (C := RX8) (T := TX8) (N := 28) hx hb hts inF_X8 hown hK.1 hP 0 rfl rfl 3 (by decide) lk_f17 (fun _ h9 => h9) rfl dX8_laySums_101 ?_
                              refine lv_iload_n hx hb dX8_laySums_104 rfl (lv_at hl 4 rfl) ?_
                              refine ra_ild hx hb hK hP 2 rfl dX8_laySums_105 ⟨by omega, by omega⟩ (by omega) ?_
                              have hw106 := hW o (by omega) (by omega)
                              refine ri_mul hx hb dX8_laySums_106 (fun z106 e106 => ?_)
                              refine ri_sub hx hb dX8_laySums_107 (fun z107 e107 => ?_)
                              have hix : z107 = 301 * o + (s1 - n0 * w o) := by omega
                              refine ra_zld hx hb hK hP 3 rfl dX8_laySums_108 ⟨by omega, by omega⟩ (by omega) ?_
                              have hcn := hC2 o (s1 - n0 * w o) (by omega) (by omega) (by omega) (Or.inl (by omega))
                              rw [← hix] at hcn
                              refine lv_istore (lv' := [(5, vI (f3 z107)), (6, vI n0), (4, vI s1), (3, vI z40), (2, vI o), (0, .ref hm), (1, vI h0)]) hx hb dX8_laySums_109 hl (by decide) rfl (fun ls hl => ?_)
                              obtain ⟨z111, e111⟩ : ∃ q : Int, q = n0 + 1 := ⟨_, rfl⟩
                              refine ri_inc (lv' := [(6, vI z111), (5, vI (f3 z107)), (4, vI s1), (3, vI z40), (2, vI o), (0, .ref hm), (1, vI h0)]) hx hb dX8_laySums_111 hl (k := 1) rfl (by decide) z111 e111 rfl (fun ls hl => ?_)
                              refine lv_goto (tgt := 61) hx hb dX8_laySums_114 (by decide) ?_
                              exact ih61 z111 (f3 z107) (by first | assumption | omega) (by
                                    rcases hcn with h9 | h9
                                    · exact Or.inr ⟨h9.1, cn_some (by omega) q40 hn0.1 (by omega) h9.2⟩
                                    · refine Or.inl ⟨h9.1, fun k h1 h2 => ?_⟩
                                      by_cases q : k = n0
                                      · rw [q]; exact h9.2
                                      · rcases his with h8 | h8
                                        · exact h8.2 k h1 (by omega)
                                        · omega) (by omega) _ _ hP hD hS ls (lv_sub hl [0, 1, 2, 3, 4, 5, 6] rfl)
                    exact L61 _ 0 0 (by first | assumption | omega) (by exact Or.inl ⟨rfl, fun k h1 h2 => by omega⟩) (Nat.lt_succ_self _) _ _ hP hD hS ls (lv_sub hl [0, 1, 2, 3, 4, 5, 6] rfl)
              exact L47 _ 0 f2 (by first | assumption | omega) (by exact hC) (Nat.lt_succ_self _) _ _ hP hD hS ls (lv_sub hl [0, 1, 2, 3, 4] rfl)
        exact L32 _ 0 f (by first | assumption | omega) (by
              intro o s h1 h2 h3 h4
              have e : o = 0 := by omega
              subst e
              rw [show 301 * (0 : Int) + s = s by omega, hf s h2 (by omega)]
              show (_ = 1 ∧ s = 0) ∨ (_ = 0 ∧ ¬ s = 0)
              split <;> omega) (Nat.lt_succ_self _) _ _ hP hD hS ls (lv_sub hl [0, 1, 2] rfl)
      · skip
        refine lv_aload_n hx hb dX8_laySums_9 rfl (lv_at hl 1 rfl) ?_
        refine va_get (D := g) (ci := 8) (v := .ref m25) (C := RX8) (T := TX8) (N := 28) hx hb hts inF_X8 hown hK.1 hP 0 rfl rfl 25 (by decide) lk_f45 (fun _ h9 => h9) rfl dX8_laySums_10 ?_
        refine lv_iload_n hx hb dX8_laySums_13 rfl (lv_at hl 0 rfl) ?_
        refine lv_iload_n hx hb dX8_laySums_14 rfl (lv_at hl 0 rfl) ?_
        refine ri_if_ne (tgt := 22) hx hb dX8_laySums_15 (by decide) ⟨by omega, by omega⟩ (fun c15 => ?_) (fun c15 => ?_)
        · skip
          refine lv_iconst (v := Int32.ofInt 0) hx hb dX8_laySums_22 rfl ?_
          refine ra_zst hx hb hK hP hD hS 3 rfl dX8_laySums_23 ⟨by omega, by omega⟩ (by omega) (Or.inl rfl) (fun H locs hP hD hS => ?_)
          have hP : va_P g vwCl [(hm, oB 8 [.ref m0, vI un, .ref m2, .ref m3, vI mo, vI oft, vI la, vI du, .ref m8, .ref m9, vI to, .ref m11, .ref m12, vJ tr, .ref m14, vI n, vI at0, vI sa, vI vv, .ref m19, vI rdu, .ref m21, .ref m22, vI se, vI its, .ref m25, .ref m26, vJ lt0]), (m0, aJ ca 7284 d), (m3, aI ca 5 w), (m25, aZ ca 1806 (zu f s0 0))] H := hP
          have hD : va_D A [(hm, oB 8 [.ref m0, vI un, .ref m2, .ref m3, vI mo, vI oft, vI la, vI du, .ref m8, .ref m9, vI to, .ref m11, .ref m12, vJ tr, .ref m14, vI n, vI at0, vI sa, vI vv, .ref m19, vI rdu, .ref m21, .ref m22, vI se, vI its, .ref m25, .ref m26, vJ lt0]), (m0, aJ ca 7284 d), (m3, aI ca 5 w), (m25, aZ ca 1806 (zu f s0 0))] := hD
          obtain ⟨z24, e24⟩ : ∃ q : Int, q = s0 + 1 := ⟨_, rfl⟩
          refine ri_inc (lv' := [(2, vI z24), (0, .ref hm), (1, vI h0)]) hx hb dX8_laySums_24 hl (k := 0) rfl (by decide) z24 e24 rfl (fun ls hl => ?_)
          refine lv_goto (tgt := 2) hx hb dX8_laySums_27 (by decide) ?_
          exact ih2 z24 (zu f s0 0) (by first | assumption | omega) (by
                intro j h1 h2
                rw [zu_e]
                split
                · first | rw [if_pos (by omega)] | rw [if_neg (by omega)]
                · exact hf j h1 (by omega)) (by omega) _ _ hP hD hS ls (lv_sub hl [0, 1, 2] rfl)
        · skip
          refine lv_iconst (v := Int32.ofInt 1) hx hb dX8_laySums_18 rfl ?_
          refine lv_goto (tgt := 23) hx hb dX8_laySums_19 (by decide) ?_
          refine ra_zst hx hb hK hP hD hS 3 rfl dX8_laySums_23 ⟨by omega, by omega⟩ (by omega) (Or.inr rfl) (fun H locs hP hD hS => ?_)
          have hP : va_P g vwCl [(hm, oB 8 [.ref m0, vI un, .ref m2, .ref m3, vI mo, vI oft, vI la, vI du, .ref m8, .ref m9, vI to, .ref m11, .ref m12, vJ tr, .ref m14, vI n, vI at0, vI sa, vI vv, .ref m19, vI rdu, .ref m21, .ref m22, vI se, vI its, .ref m25, .ref m26, vJ lt0]), (m0, aJ ca 7284 d), (m3, aI ca 5 w), (m25, aZ ca 1806 (zu f s0 1))] H := hP
          have hD : va_D A [(hm, oB 8 [.ref m0, vI un, .ref m2, .ref m3, vI mo, vI oft, vI la, vI du, .ref m8, .ref m9, vI to, .ref m11, .ref m12, vJ tr, .ref m14, vI n, vI at0, vI sa, vI vv, .ref m19, vI rdu, .ref m21, .ref m22, vI se, vI its, .ref m25, .ref m26, vJ lt0]), (m0, aJ ca 7284 d), (m3, aI ca 5 w), (m25, aZ ca 1806 (zu f s0 1))] := hD
          obtain ⟨z24, e24⟩ : ∃ q : Int, q = s0 + 1 := ⟨_, rfl⟩
          refine ri_inc (lv' := [(2, vI z24), (0, .ref hm), (1, vI h0)]) hx hb dX8_laySums_24 hl (k := 0) rfl (by decide) z24 e24 rfl (fun ls hl => ?_)
          refine lv_goto (tgt := 2) hx hb dX8_laySums_27 (by decide) ?_
          exact ih2 z24 (zu f s0 1) (by first | assumption | omega) (by
                intro j h1 h2
                rw [zu_e]
                split
                · first | rw [if_pos (by omega)] | rw [if_neg (by omega)]
                · exact hf j h1 (by omega)) (by omega) _ _ hP hD hS ls (lv_sub hl [0, 1, 2] rfl)
  exact L2 _ 0 cn (by first | assumption | omega) (by intro j h1 h2; omega) (Nat.lt_succ_self _) _ _ hP hD hS ls (lv_sub hl [0, 1, 2] rfl)
set_option maxHeartbeats 4000000 in
set_option maxRecDepth 100000 in
theorem k_X8_leastOf (l : Launch) (g : va_G) (ca : Nat → ClassId) (hm : Nat) (m0 : Nat) (m2 : Nat) (m3 : Nat) (m8 : Nat) (m9 : Nat) (m11 : Nat) (m12 : Nat) (m14 : Nat) (m19 : Nat) (m21 : Nat) (m22 : Nat) (m25 : Nat) (m26 : Nat) (un : Int) (mo : Int) (oft : Int) (la : Int) (du : Int) (to : Int) (tr : Int) (n : Int) (at0 : Int) (sa : Int) (vv : Int) (rdu : Int) (se : Int) (its : Int) (lt0 : Int) (d : Int → Int) (w : Int → Int) (cn : Int → Int) (ch : Int → Int) (h0 : Int) (x : Int) (b : Int → Int) (nn : Int) (ml : Int) (hh0 : 0 ≤ h0 ∧ h0 ≤ 6677) (hAT : AT d h0 b nn ml) (hB : GB b nn) (hW : GW w) (hxx : 1 ≤ x ∧ x ≤ 200) : zI (S := (Int → Int) × (Int → Int)) l yX8_leastOf wsX8_leastOf ({ frames := 3, cells := 0, slots := 0, locals := 75 } : Room) g ca [.ref hm, vI h0, vI x] [(hm, oB 8 [.ref m0, vI un, .ref m2, .ref m3, vI mo, vI oft, vI la, vI du, .ref m8, .ref m9, vI to, .ref m11, .ref m12, vJ tr, .ref m14, vI n, vI at0, vI sa, vI vv, .ref m19, vI rdu, .ref m21, .ref m22, vI se, vI its, .ref m25, .ref m26, vJ lt0]), (m0, aJ ca 7284 d), (m3, aI ca 5 w), (m25, aZ ca 1806 cn), (m26, aI ca 5 ch)] (fun (z : Int) (u : (Int → Int) × (Int → Int)) => (0 ≤ z ∧ LST (cnt b nn) w x z ∧ CHO (cnt b nn) w u.2 5 z) ∨ (z = -9 ∧ ∀ s : Int, x ≤ s → s ≤ 298 → ¬ RC (cnt b nn) w 5 s)) (fun (u : (Int → Int) × (Int → Int)) => [(hm, oB 8 [.ref m0, vI un, .ref m2, .ref m3, vI mo, vI oft, vI la, vI du, .ref m8, .ref m9, vI to, .ref m11, .ref m12, vJ tr, .ref m14, vI n, vI at0, vI sa, vI vv, .ref m19, vI rdu, .ref m21, .ref m22, vI se, vI its, .ref m25, .ref m26, vJ lt0]), (m0, aJ ca 7284 d), (m3, aI ca 5 w), (m25, aZ ca 1806 u.1), (m26, aI ca 5 u.2)]) 0 0 := by
  refine zm_I (cc := cX8_leastOf) (maxL := 7) (ret := some .int) (by decide) rfl (Nat.le_of_ble_eq_true rfl) ?_
  intro p e s m below meth c A ls R args Q hR hargs hQ hx hb hml hr hts hown hlk hnm hK hP hD hA hS hl
  have hown : s.vm.findClass RX8 = some m.cls := hown
  have hl : lv_has ls 7 [(0, .ref hm), (1, vI h0), (2, vI x)] := hl
  have lk_f45 : (Cond.fieldLink RX8 45 "DripRingsModel" "can" "[Z").before args s = true := hts _ (by decide +kernel)
  have inF_X8 : ∀ w ∈ wsX80, w ∈ wsX8_leastOf := by decide +kernel
  have lk_f17 : (Cond.fieldLink RX8 17 "DripRingsModel" "weights" "[I").before args s = true := hts _ (by decide +kernel)
  have lk_f48 : (Cond.fieldLink RX8 48 "DripRingsModel" "chosen" "[I").before args s = true := hts _ (by decide +kernel)
  refine lv_aload_n hx hb dX8_leastOf_0 rfl (lv_at hl 0 rfl) ?_
  refine lv_iload_n hx hb dX8_leastOf_1 rfl (lv_at hl 1 rfl) ?_
  refine zc_VV (As := [vI h0]) (rest := []) (wc := [(hm, oB 8 [.ref m0, vI un, .ref m2, .ref m3, vI mo, vI oft, vI la, vI du, .ref m8, .ref m9, vI to, .ref m11, .ref m12, vJ tr, .ref m14, vI n, vI at0, vI sa, vI vv, .ref m19, vI rdu, .ref m21, .ref m22, vI se, vI its, .ref m25, .ref m26, vJ lt0]), (m0, aJ ca 7284 d), (m3, aI ca 5 w), (m25, aZ ca 1806 cn)]) (wr := [(m26, aI ca 5 ch)]) (k_X8_laySums l g ca hm m0 m2 m3 m8 m9 m11 m12 m14 m19 m21 m22 m25 m26 un mo oft la du to tr n at0 sa vv rdu se its lt0 d w cn h0 b nn ml (by first | assumption | omega) (by first | assumption | omega) (by first | assumption | omega) (by first | assumption | omega)) dX8_leastOf_2 (cwV 1 hts gX8_leastOf_X8_laySums rfl rfl rfl (by decide +kernel) (by rw [hR]; exact ⟨Nat.le_of_ble_eq_true rfl, Nat.le_of_ble_eq_true rfl⟩)) ⟨hx, hb, hml, hown, hts⟩ hl.1 hK hP hD hS hA 0 rfl rfl rfl [0, 1, 2, 3] [4] rfl (by decide) rfl (by decide) (by decide) rfl rfl (Nat.le_of_ble_eq_true rfl) (by rw [hR]; exact ⟨Nat.le_of_ble_eq_true rfl, Nat.le_of_ble_eq_true rfl⟩) (fun u H locs q2 hP hD hS => ?_)
  obtain ⟨cn1_2, rfl⟩ : ∃ q, q = u := ⟨_, rfl⟩
  have q2 : CN cn1_2 (cnt b nn) w 5 0 := q2
  have hP : va_P g vwCl [(hm, oB 8 [.ref m0, vI un, .ref m2, .ref m3, vI mo, vI oft, vI la, vI du, .ref m8, .ref m9, vI to, .ref m11, .ref m12, vJ tr, .ref m14, vI n, vI at0, vI sa, vI vv, .ref m19, vI rdu, .ref m21, .ref m22, vI se, vI its, .ref m25, .ref m26, vJ lt0]), (m0, aJ ca 7284 d), (m3, aI ca 5 w), (m25, aZ ca 1806 cn1_2), (m26, aI ca 5 ch)] H := hP.sub [1, 2, 3, 4, 0] rfl
  have hD : va_D A [(hm, oB 8 [.ref m0, vI un, .ref m2, .ref m3, vI mo, vI oft, vI la, vI du, .ref m8, .ref m9, vI to, .ref m11, .ref m12, vJ tr, .ref m14, vI n, vI at0, vI sa, vI vv, .ref m19, vI rdu, .ref m21, .ref m22, vI se, vI its, .ref m25, .ref m26, vJ lt0]), (m0, aJ ca 7284 d), (m3, aI ca 5 w), (m25, aZ ca 1806 cn1_2), (m26, aI ca 5 ch)] := hD.sub [1, 2, 3, 4, 0] (by decide) rfl
  refine lv_iload_n hx hb dX8_leastOf_5 rfl (lv_at hl 2 rfl) ?_
  refine lv_istore_n (lv' := [(3, vI x), (0, .ref hm), (1, vI h0), (2, vI x)]) hx hb dX8_leastOf_6 rfl hl (by decide) rfl (fun ls hl => ?_)
  have L7 : ∀ (N7 : Nat) (s0 : Int) (hs0 : x ≤ s0 ∧ s0 ≤ 301) (hno : ∀ y : Int, x ≤ y → y < s0 → ¬ RC (cnt b nn) w 5 y) (hμ : (301 - s0).toNat < N7) (H : Heap) (locs : List Loc) (hP : va_P g vwCl [(hm, oB 8 [.ref m0, vI un, .ref m2, .ref m3, vI mo, vI oft, vI la, vI du, .ref m8, .ref m9, vI to, .ref m11, .ref m12, vJ tr, .ref m14, vI n, vI at0, vI sa, vI vv, .ref m19, vI rdu, .ref m21, .ref m22, vI se, vI its, .ref m25, .ref m26, vJ lt0]), (m0, aJ ca 7284 d), (m3, aI ca 5 w), (m25, aZ ca 1806 cn1_2), (m26, aI ca 5 ch)] H) (hD : va_D A [(hm, oB 8 [.ref m0, vI un, .ref m2, .ref m3, vI mo, vI oft, vI la, vI du, .ref m8, .ref m9, vI to, .ref m11, .ref m12, vJ tr, .ref m14, vI n, vI at0, vI sa, vI vv, .ref m19, vI rdu, .ref m21, .ref m22, vI se, vI its, .ref m25, .ref m26, vJ lt0]), (m0, aJ ca 7284 d), (m3, aI ca 5 w), (m25, aZ ca 1806 cn1_2), (m26, aI ca 5 ch)]) (hS : va_S A s.heap H locs) (ls : Array Slot) (hl : lv_has ls 7 [(3, vI s0), (0, .ref hm), (1, vI h0), (2, vI x)]), W p l e R s m args below meth c H locs 0 0 Q (F0 m 7 ls []) := by
    intro N7; induction N7 with
    | zero => intro s0 hs0 hno hμ; exact absurd hμ (Nat.not_lt_zero _)
    | succ N7 ih7 =>
      intro s0 hs0 hno hμ H locs hP hD hS ls hl
      refine lv_iload_n hx hb dX8_leastOf_7 rfl (lv_at hl 0 rfl) ?_
      refine lv_sipush (v := Int32.ofInt 300) hx hb dX8_leastOf_8 (by decide) ?_
      refine ri_icmp_gt (tgt := 33) hx hb dX8_leastOf_11 (by decide) ⟨by omega, by omega⟩ ⟨by omega, by omega⟩ (fun c11 => ?_) (fun c11 => ?_)
      · skip
        refine lv_iload_n hx hb dX8_leastOf_33 rfl (lv_at hl 0 rfl) ?_
        refine lv_sipush (v := Int32.ofInt 300) hx hb dX8_leastOf_34 (by decide) ?_
        refine ri_icmp_le (tgt := 43) hx hb dX8_leastOf_37 (by decide) ⟨by omega, by omega⟩ ⟨by omega, by omega⟩ (fun c37 => ?_) (fun c37 => ?_)
        · skip
          have hcn43 : RC (cnt b nn) w 5 s0 := by
            first
            | (rcases hcn with h9 | h9
               · exact h9.2
               · omega)
            | (exfalso; omega)
          have hR5 := hcn43
          refine lv_iload_n hx hb dX8_leastOf_43 rfl (lv_at hl 0 rfl) ?_
          refine lv_istore (lv' := [(4, vI s0), (3, vI s0), (0, .ref hm), (1, vI h0), (2, vI x)]) hx hb dX8_leastOf_44 hl (by decide) rfl (fun ls hl => ?_)
          refine lv_iconst (v := Int32.ofInt 4) hx hb dX8_leastOf_46 rfl ?_
          refine lv_istore (lv' := [(5, vI 4), (4, vI s0), (3, vI s0), (0, .ref hm), (1, vI h0), (2, vI x)]) hx hb dX8_leastOf_47 hl (by decide) rfl (fun ls hl => ?_)
          have L49 : ∀ (N49 : Nat) (o : Int) (r : Int) (T2 : Int → Int) (hi : -1 ≤ o ∧ o ≤ 4 ∧ 0 ≤ r ∧ r ≤ 300) (hrr : RC (cnt b nn) w (o + 1).toNat r) (hch : ∀ T' : Int → Int, (∀ k : Int, o < k → k ≤ 4 → T' k = T2 k) → CHO (cnt b nn) w T' (o + 1).toNat r → CHO (cnt b nn) w T' 5 s0) (hμ : (o + 1).toNat < N49) (H : Heap) (locs : List Loc) (hP : va_P g vwCl [(hm, oB 8 [.ref m0, vI un, .ref m2, .ref m3, vI mo, vI oft, vI la, vI du, .ref m8, .ref m9, vI to, .ref m11, .ref m12, vJ tr, .ref m14, vI n, vI at0, vI sa, vI vv, .ref m19, vI rdu, .ref m21, .ref m22, vI se, vI its, .ref m25, .ref m26, vJ lt0]), (m0, aJ ca 7284 d), (m3, aI ca 5 w), (m25, aZ ca 1806 cn1_2), (m26, aI ca 5 T2)] H) (hD : va_D A [(hm, oB 8 [.ref m0, vI un, .ref m2, .ref m3, vI mo, vI oft, vI la, vI du, .ref m8, .ref m9, vI to, .ref m11, .ref m12, vJ tr, .ref m14, vI n, vI at0, vI sa, vI vv, .ref m19, vI rdu, .ref m21, .ref m22, vI se, vI its, .ref m25, .ref m26, vJ lt0]), (m0, aJ ca 7284 d), (m3, aI ca 5 w), (m25, aZ ca 1806 cn1_2), (m26, aI ca 5 T2)]) (hS : va_S A s.heap H locs) (ls : Array Slot) (hl : lv_has ls 7 [(5, vI o), (4, vI r), (3, vI s0), (0, .ref hm), (1, vI h0), (2, vI x)]), W p l e R s m args below meth c H locs 0 0 Q (F0 m 49 ls []) := by
            intro N49; induction N49 with
            | zero => intro o r T2 hi hrr hch hμ; exact absurd hμ (Nat.not_lt_zero _)
            | succ N49 ih49 =>
              intro o r T2 hi hrr hch hμ H locs hP hD hS ls hl
              refine lv_iload hx hb dX8_leastOf_49 (lv_at hl 0 rfl) ?_
              refine ri_if_lt (tgt := 154) hx hb dX8_leastOf_51 (by decide) ⟨by omega, by omega⟩ (fun c51 => ?_) (fun c51 => ?_)
              · skip
                refine lv_iload_n hx hb dX8_leastOf_154 rfl (lv_at hl 2 rfl) ?_
                refine zr_I hx hb hr hlk hQ (cn1_2, T2) hP hD hS dX8_leastOf_155 (Nat.le_of_ble_eq_true rfl) (Nat.le_of_ble_eq_true rfl) ?_
                show (0 ≤ s0 ∧ LST (cnt b nn) w x s0 ∧ CHO (cnt b nn) w T2 5 s0) ∨ (s0 = -9 ∧ ∀ s : Int, x ≤ s → s ≤ 298 → ¬ RC (cnt b nn) w 5 s)
                exact Or.inl ⟨by omega, ls_299 hW hxx hs0.1 hR5 hno, hch T2 (fun _ _ _ => rfl) (by rw [show o = -1 by omega]; trivial)⟩
              · skip
                have J88 : ∀ (mst : Int) (hmx : (w o = 0 ∧ mst = 0) ∨ (0 < w o ∧ mst = if (if 300 < cnt b nn o then 300 else cnt b nn o) < r / w o then (if 300 < cnt b nn o then 300 else cnt b nn o) else r / w o)) (hm0 : 0 ≤ mst ∧ mst ≤ 300 ∧ mst * w o ≤ r) (H : Heap) (locs : List Loc) (hP : va_P g vwCl [(hm, oB 8 [.ref m0, vI un, .ref m2, .ref m3, vI mo, vI oft, vI la, vI du, .ref m8, .ref m9, vI to, .ref m11, .ref m12, vJ tr, .ref m14, vI n, vI at0, vI sa, vI vv, .ref m19, vI rdu, .ref m21, .ref m22, vI se, vI its, .ref m25, .ref m26, vJ lt0]), (m0, aJ ca 7284 d), (m3, aI ca 5 w), (m25, aZ ca 1806 cn1_2), (m26, aI ca 5 T2)] H) (hD : va_D A [(hm, oB 8 [.ref m0, vI un, .ref m2, .ref m3, vI mo, vI oft, vI la, vI du, .ref m8, .ref m9, vI to, .ref m11, .ref m12, vJ tr, .ref m14, vI n, vI at0, vI sa, vI vv, .ref m19, vI rdu, .ref m21, .ref m22, vI se, vI its, .ref m25, .ref m26, vJ lt0]), (m0, aJ ca 7284 d), (m3, aI ca 5 w), (m25, aZ ca 1806 cn1_2), (m26, aI ca 5 T2)]) (hS : va_S A s.heap H locs) (ls : Array Slot) (hl : lv_has ls 7 [(5, vI o), (4, vI r), (3, vI s0), (0, .ref hm), (1, vI h0), (2, vI x)]), W p l e R s m args below meth c H locs 0 0 Q (F0 m 88 ls [vI mst]) := by
                  intro mst hmx hm0 H locs hP hD hS ls hl
                  refine lv_istore (lv' := [(6, vI mst), (5, vI o), (4, vI r), (3, vI s0), (0, .ref hm), (1, vI h0), (2, vI x)]) hx hb dX8_leastOf_88 hl (by decide) rfl (fun ls hl => ?_)
                  have L90 : ∀ (N90 : Nat) (n0 : Int) (hn0 : 0 ≤ n0 ∧ n0 ≤ mst) (hno2 : ∀ k : Int, n0 < k → k ≤ mst → ¬ RC (cnt b nn) w o.toNat (r - k * w o)) (hex2 : ∃ k : Int, 0 ≤ k ∧ k ≤ n0 ∧ RC (cnt b nn) w o.toNat (r - k * w o)) (hμ : n0.toNat < N90) (H : Heap) (locs : List Loc) (hP : va_P g vwCl [(hm, oB 8 [.ref m0, vI un, .ref m2, .ref m3, vI mo, vI oft, vI la, vI du, .ref m8, .ref m9, vI to, .ref m11, .ref m12, vJ tr, .ref m14, vI n, vI at0, vI sa, vI vv, .ref m19, vI rdu, .ref m21, .ref m22, vI se, vI its, .ref m25, .ref m26, vJ lt0]), (m0, aJ ca 7284 d), (m3, aI ca 5 w), (m25, aZ ca 1806 cn1_2), (m26, aI ca 5 T2)] H) (hD : va_D A [(hm, oB 8 [.ref m0, vI un, .ref m2, .ref m3, vI mo, vI oft, vI la, vI du, .ref m8, .ref m9, vI to, .ref m11, .ref m12, vJ tr, .ref m14, vI n, vI at0, vI sa, vI vv, .ref m19, vI rdu, .ref m21, .ref m22, vI se, vI its, .ref m25, .ref m26, vJ lt0]), (m0, aJ ca 7284 d), (m3, aI ca 5 w), (m25, aZ ca 1806 cn1_2), (m26, aI ca 5 T2)]) (hS : va_S A s.heap H locs) (ls : Array Slot) (hl : lv_has ls 7 [(6, vI n0), (5, vI o), (4, vI r), (3, vI s0), (0, .ref hm), (1, vI h0), (2, vI x)]), W p l e R s m args below meth c H locs 0 0 Q (F0 m 90 ls []) := by
                    intro N90; induction N90 with
                    | zero => intro n0 hn0 hno2 hex2 hμ; exact absurd hμ (Nat.not_lt_zero _)
                    | succ N90 ih90 =>
                      intro n0 hn0 hno2 hex2 hμ H locs hP hD hS ls hl
                      refine lv_aload_n hx hb dX8_leastOf_90 rfl (lv_at hl 4 rfl) ?_
                      refine va_get (D := g) (ci := 8) (v := .ref m25) (C := RX8) (T := TX8) (N := 28) hx hb hts inF_X8 hown hK.1 hP 0 rfl rfl 25 (by decide) lk_f45 (fun _ h9 => h9) rfl dX8_leastOf_91 ?_
                      refine lv_sipush (v := Int32.ofInt 301) hx hb dX8_leastOf_94 (by decide) ?_
                      refine lv_iload hx hb dX8_leastOf_97 (lv_at hl 1 rfl) ?_
                      refine ri_mul hx hb dX8_leastOf_99 (fun z99 e99 => ?_)
                      refine lv_iload hx hb dX8_leastOf_100 (lv_at hl 2 rfl) ?_
                      refine ri_add hx hb dX8_leastOf_102 (fun z102 e102 => ?_)
                      refine lv_iload hx hb dX8_leastOf_103 (lv_at hl 0 rfl) ?_
                      refine lv_aload_n hx hb dX8_leastOf_105 rfl (lv_at hl 4 rfl) ?_
                      refine va_get (D := g) (ci := 8) (v := .ref m3) (C := RX8) (T := TX8) (N := 28) hx hb hts inF_X8 hown hK.1 hP 0 rfl rfl 3 (by decide) lk_f17 (fun _ h9 => h9) rfl dX8_leastOf_106 ?_
                      refine lv_iload hx hb dX8_leastOf_109 (lv_at hl 1 rfl) ?_
                      refine ra_ild hx hb hK hP 2 rfl dX8_leastOf_111 ⟨by omega, by omega⟩ (by omega) ?_
                      have hmn : 0 ≤ n0 * w o ∧ n0 * w o ≤ mst * w o := ⟨Int.mul_nonneg hn0.1 (by omega), Int.mul_le_mul_of_nonneg_right hn0.2 (by omega)⟩
                      refine ri_mul hx hb dX8_leastOf_112 (fun z112 e112 => ?_)
                      refine ri_sub hx hb dX8_leastOf_113 (fun z113 e113 => ?_)
                      have hix : z113 = 301 * o + (r - n0 * w o) := by omega
                      refine ra_zld hx hb hK hP 3 rfl dX8_leastOf_114 ⟨by omega, by omega⟩ (by omega) ?_
                      have hcn2 := q2 o (r - n0 * w o) (by omega) (by omega) (by omega) (Or.inl (by omega))
                      rw [← hix] at hcn2
                      refine ri_if_ne (tgt := 124) hx hb dX8_leastOf_115 (by decide) ⟨by omega, by omega⟩ (fun c115 => ?_) (fun c115 => ?_)
                      · skip
                        have hR115 : RC (cnt b nn) w o.toNat (r - n0 * w o) := by
                          rcases hcn2 with h9 | h9
                          · exact h9.2
                          · omega
                        have hg3 : GRT (cnt b nn o) (w o) (RC (cnt b nn) w o.toNat) r n0 := grt_c (by omega) rfl (by omega) hmx hn0 hR115 (fun x hx9 => RC_neg hW _ x (by omega) hx9) hno2
                        refine lv_aload_n hx hb dX8_leastOf_124 rfl (lv_at hl 4 rfl) ?_
                        refine va_get (D := g) (ci := 8) (v := .ref m26) (C := RX8) (T := TX8) (N := 28) hx hb hts inF_X8 hown hK.1 hP 0 rfl rfl 26 (by decide) lk_f48 (fun _ h9 => h9) rfl dX8_leastOf_125 ?_
                        refine lv_iload hx hb dX8_leastOf_128 (lv_at hl 1 rfl) ?_
                        refine lv_iload hx hb dX8_leastOf_130 (lv_at hl 0 rfl) ?_
                        refine ra_ist hx hb hK hP hD hS 4 rfl dX8_leastOf_132 ⟨by omega, by omega⟩ (by omega) (fun H locs hP hD hS => ?_)
                        have hP : va_P g vwCl [(hm, oB 8 [.ref m0, vI un, .ref m2, .ref m3, vI mo, vI oft, vI la, vI du, .ref m8, .ref m9, vI to, .ref m11, .ref m12, vJ tr, .ref m14, vI n, vI at0, vI sa, vI vv, .ref m19, vI rdu, .ref m21, .ref m22, vI se, vI its, .ref m25, .ref m26, vJ lt0]), (m0, aJ ca 7284 d), (m3, aI ca 5 w), (m25, aZ ca 1806 cn1_2), (m26, aI ca 5 (zu T2 o n0))] H := hP
                        have hD : va_D A [(hm, oB 8 [.ref m0, vI un, .ref m2, .ref m3, vI mo, vI oft, vI la, vI du, .ref m8, .ref m9, vI to, .ref m11, .ref m12, vJ tr, .ref m14, vI n, vI at0, vI sa, vI vv, .ref m19, vI rdu, .ref m21, .ref m22, vI se, vI its, .ref m25, .ref m26, vJ lt0]), (m0, aJ ca 7284 d), (m3, aI ca 5 w), (m25, aZ ca 1806 cn1_2), (m26, aI ca 5 (zu T2 o n0))] := hD
                        refine lv_iload hx hb dX8_leastOf_133 (lv_at hl 2 rfl) ?_
                        refine lv_iload hx hb dX8_leastOf_135 (lv_at hl 0 rfl) ?_
                        refine lv_aload_n hx hb dX8_leastOf_137 rfl (lv_at hl 4 rfl) ?_
                        refine va_get (D := g) (ci := 8) (v := .ref m3) (C := RX8) (T := TX8) (N := 28) hx hb hts inF_X8 hown hK.1 hP 0 rfl rfl 3 (by decide) lk_f17 (fun _ h9 => h9) rfl dX8_leastOf_138 ?_
                        refine lv_iload hx hb dX8_leastOf_141 (lv_at hl 1 rfl) ?_
                        refine ra_ild hx hb hK hP 2 rfl dX8_leastOf_143 ⟨by omega, by omega⟩ (by omega) ?_
                        refine ri_mul hx hb dX8_leastOf_144 (fun z144 e144 => ?_)
                        refine ri_sub hx hb dX8_leastOf_145 (fun z145 e145 => ?_)
                        refine lv_istore (lv' := [(4, vI z145), (6, vI n0), (5, vI o), (3, vI s0), (0, .ref hm), (1, vI h0), (2, vI x)]) hx hb dX8_leastOf_146 hl (by decide) rfl (fun ls hl => ?_)
                        obtain ⟨z148, e148⟩ : ∃ q : Int, q = o + (-1) := ⟨_, rfl⟩
                        refine ri_inc (lv' := [(5, vI z148), (4, vI z145), (6, vI n0), (3, vI s0), (0, .ref hm), (1, vI h0), (2, vI x)]) hx hb dX8_leastOf_148 hl (k := 2) rfl (by decide) z148 e148 rfl (fun ls hl => ?_)
                        refine lv_goto (tgt := 49) hx hb dX8_leastOf_151 (by decide) ?_
                        exact ih49 z148 z145 (zu T2 o n0) (by first | assumption | omega) (by rw [e148, show o + -1 + 1 = o by omega, e145, e144]; exact hR115) (by
                              intro T' q1 q2
                              rw [e148, show o + -1 + 1 = o by omega, e145, e144] at q2
                              refine cho_step (T3 := zu T2 o n0) (by omega) (fun k hk => zu_n hk) (by rw [zu_s]; exact hg3) hch (fun k k1 k2 => q1 k (by omega) k2) (by omega) (by rw [zu_s]; exact q2)) (by omega) _ _ hP hD hS ls (lv_sub hl [0, 1, 3, 4, 5, 6] rfl)
                      · skip
                        obtain ⟨z118, e118⟩ : ∃ q : Int, q = n0 + (-1) := ⟨_, rfl⟩
                        refine ri_inc (lv' := [(6, vI z118), (5, vI o), (4, vI r), (3, vI s0), (0, .ref hm), (1, vI h0), (2, vI x)]) hx hb dX8_leastOf_118 hl (k := 0) rfl (by decide) z118 e118 rfl (fun ls hl => ?_)
                        refine lv_goto (tgt := 90) hx hb dX8_leastOf_121 (by decide) ?_
                        have hnR : ¬ RC (cnt b nn) w o.toNat (r - n0 * w o) := by
                          rcases hcn2 with h9 | h9
                          · omega
                          · exact h9.2
                        have hex3 : ∃ k : Int, 0 ≤ k ∧ k ≤ z118 ∧ RC (cnt b nn) w o.toNat (r - k * w o) := by
                          obtain ⟨k, k1, k2, k3⟩ := hex2
                          refine ⟨k, k1, ?_, k3⟩
                          rcases Int.lt_or_le k n0 with q | q
                          · omega
                          · have e : k = n0 := by omega
                            rw [e] at k3
                            exact absurd k3 hnR
                        have hn00 : 0 ≤ z118 := by
                          obtain ⟨k, k1, k2, k3⟩ := hex3
                          omega
                        exact ih90 z118 (by omega) (by
                              intro k h1 h2
                              by_cases q : k = n0
                              · rw [q]; exact hnR
                              · exact hno2 k (by omega) h2) (by exact hex3) (by omega) _ _ hP hD hS ls (lv_sub hl [0, 1, 2, 3, 4, 5, 6] rfl)
                  exact L90 _ mst (by first | assumption | omega) (by intro k h1 h2; omega) (by exact ex_most (by omega) rfl (by omega) hmx (fun x hx9 => RC_neg hW _ x (by omega) hx9) (RC_ex (by omega) hrr)) (Nat.lt_succ_self _) _ _ hP hD hS ls (lv_sub hl [0, 1, 2, 3, 4, 5, 6] rfl)
                have hw54 := hW o (by omega) (by omega)
                refine lv_aload_n hx hb dX8_leastOf_54 rfl (lv_at hl 3 rfl) ?_
                refine va_get (D := g) (ci := 8) (v := .ref m3) (C := RX8) (T := TX8) (N := 28) hx hb hts inF_X8 hown hK.1 hP 0 rfl rfl 3 (by decide) lk_f17 (fun _ h9 => h9) rfl dX8_leastOf_55 ?_
                refine lv_iload hx hb dX8_leastOf_58 (lv_at hl 0 rfl) ?_
                refine ra_ild hx hb hK hP 2 rfl dX8_leastOf_60 ⟨by omega, by omega⟩ (by omega) ?_
                refine ri_if_ne (tgt := 68) hx hb dX8_leastOf_61 (by decide) ⟨by omega, by omega⟩ (fun c61 => ?_) (fun c61 => ?_)
                · skip
                  refine lv_aload_n hx hb dX8_leastOf_68 rfl (lv_at hl 3 rfl) ?_
                  refine lv_iload_n hx hb dX8_leastOf_69 rfl (lv_at hl 4 rfl) ?_
                  refine lv_iload hx hb dX8_leastOf_70 (lv_at hl 0 rfl) ?_
                  refine zc_VI (As := [vI h0, vI o]) (rest := []) (wc := [(hm, oB 8 [.ref m0, vI un, .ref m2, .ref m3, vI mo, vI oft, vI la, vI du, .ref m8, .ref m9, vI to, .ref m11, .ref m12, vJ tr, .ref m14, vI n, vI at0, vI sa, vI vv, .ref m19, vI rdu, .ref m21, .ref m22, vI se, vI its, .ref m25, .ref m26, vJ lt0]), (m0, aJ ca 7284 d)]) (wr := [(m3, aI ca 5 w), (m25, aZ ca 1806 cn1_2), (m26, aI ca 5 T2)]) (k_X8_capOf l g ca hm m0 m2 m3 m8 m9 m11 m12 m14 m19 m21 m22 m25 m26 un mo oft la du to tr n at0 sa vv rdu se its lt0 d h0 o b nn ml (by first | assumption | omega) (by first | assumption | omega) (by first | assumption | omega) (by first | assumption | omega)) dX8_leastOf_72 (cwV 2 hts gX8_leastOf_X8_capOf rfl rfl rfl (by decide +kernel) (by rw [hR]; exact ⟨Nat.le_of_ble_eq_true rfl, Nat.le_of_ble_eq_true rfl⟩)) ⟨hx, hb, hml, hown, hts⟩ hl.1 hK hP hD hS hA 0 rfl rfl rfl [0, 1] [2, 3, 4] rfl (by decide) rfl (by decide) (by decide) rfl rfl (Nat.le_of_ble_eq_true rfl) (by rw [hR]; exact ⟨Nat.le_of_ble_eq_true rfl, Nat.le_of_ble_eq_true rfl⟩) (fun z72 u H locs q72 hP hD hS => ?_)
                  have q72 : z72 = if 300 < cnt b nn o then 300 else cnt b nn o := q72
                  have hP : va_P g vwCl [(hm, oB 8 [.ref m0, vI un, .ref m2, .ref m3, vI mo, vI oft, vI la, vI du, .ref m8, .ref m9, vI to, .ref m11, .ref m12, vJ tr, .ref m14, vI n, vI at0, vI sa, vI vv, .ref m19, vI rdu, .ref m21, .ref m22, vI se, vI its, .ref m25, .ref m26, vJ lt0]), (m0, aJ ca 7284 d), (m3, aI ca 5 w), (m25, aZ ca 1806 cn1_2), (m26, aI ca 5 T2)] H := hP.sub [3, 4, 0, 1, 2] rfl
                  have hD : va_D A [(hm, oB 8 [.ref m0, vI un, .ref m2, .ref m3, vI mo, vI oft, vI la, vI du, .ref m8, .ref m9, vI to, .ref m11, .ref m12, vJ tr, .ref m14, vI n, vI at0, vI sa, vI vv, .ref m19, vI rdu, .ref m21, .ref m22, vI se, vI its, .ref m25, .ref m26, vJ lt0]), (m0, aJ ca 7284 d), (m3, aI ca 5 w), (m25, aZ ca 1806 cn1_2), (m26, aI ca 5 T2)] := hD.sub [3, 4, 0, 1, 2] (by decide) rfl
                  have hc75 := cnt_bd hB (o := o) (by omega) (by omega)
                  have hcap75 : 0 ≤ z72 ∧ z72 ≤ 300 := by rw [q72]; split <;> omega
                  refine lv_iload hx hb dX8_leastOf_75 (lv_at hl 1 rfl) ?_
                  refine lv_aload_n hx hb dX8_leastOf_77 rfl (lv_at hl 3 rfl) ?_
                  refine va_get (D := g) (ci := 8) (v := .ref m3) (C := RX8) (T := TX8) (N := 28) hx hb hts inF_X8 hown hK.1 hP 0 rfl rfl 3 (by decide) lk_f17 (fun _ h9 => h9) rfl dX8_leastOf_78 ?_
                  refine lv_iload hx hb dX8_leastOf_81 (lv_at hl 0 rfl) ?_
                  refine ra_ild hx hb hK hP 2 rfl dX8_leastOf_83 ⟨by omega, by omega⟩ (by omega) ?_
                  refine ri_div hx hb dX8_leastOf_84 ⟨by omega, by omega⟩ ⟨by omega, by omega⟩ (fun z84 e84 => ?_)
                  have hd85 : 0 ≤ z84 ∧ z84 ≤ 300 := by
                    rw [e84]
                    exact ⟨Int.ediv_nonneg (by omega) (by omega), by have := Int.ediv_le_self (w o) (show 0 ≤ r by omega); omega⟩
                  refine zc_SI (As := [vI z72, vI z84]) (rest := []) (wc := []) (wr := [(hm, oB 8 [.ref m0, vI un, .ref m2, .ref m3, vI mo, vI oft, vI la, vI du, .ref m8, .ref m9, vI to, .ref m11, .ref m12, vJ tr, .ref m14, vI n, vI at0, vI sa, vI vv, .ref m19, vI rdu, .ref m21, .ref m22, vI se, vI its, .ref m25, .ref m26, vJ lt0]), (m0, aJ ca 7284 d), (m3, aI ca 5 w), (m25, aZ ca 1806 cn1_2), (m26, aI ca 5 T2)]) (k_X8_lesser l g ca z72 z84 (by exact ⟨by omega, by omega⟩) (by exact ⟨by omega, by omega⟩)) dX8_leastOf_85 (va_cwS 2 hts gX8_leastOf_X8_lesser rfl rfl rfl (by decide +kernel) (by rw [hR]; exact ⟨Nat.le_of_ble_eq_true rfl, Nat.le_of_ble_eq_true rfl⟩)) ⟨hx, hb, hml, hown, hts⟩ hl.1 hK hP hD hS hA [] [0, 1, 2, 3, 4] rfl (by decide) rfl (by decide) (by decide) rfl rfl (Nat.le_of_ble_eq_true rfl) (by rw [hR]; exact ⟨Nat.le_of_ble_eq_true rfl, Nat.le_of_ble_eq_true rfl⟩) (fun z85 u H locs q85 hP hD hS => ?_)
                  have q85 : z85 = if z72 < z84 then z72 else z84 := q85
                  have hP : va_P g vwCl [(hm, oB 8 [.ref m0, vI un, .ref m2, .ref m3, vI mo, vI oft, vI la, vI du, .ref m8, .ref m9, vI to, .ref m11, .ref m12, vJ tr, .ref m14, vI n, vI at0, vI sa, vI vv, .ref m19, vI rdu, .ref m21, .ref m22, vI se, vI its, .ref m25, .ref m26, vJ lt0]), (m0, aJ ca 7284 d), (m3, aI ca 5 w), (m25, aZ ca 1806 cn1_2), (m26, aI ca 5 T2)] H := hP.sub [0, 1, 2, 3, 4] rfl
                  have hD : va_D A [(hm, oB 8 [.ref m0, vI un, .ref m2, .ref m3, vI mo, vI oft, vI la, vI du, .ref m8, .ref m9, vI to, .ref m11, .ref m12, vJ tr, .ref m14, vI n, vI at0, vI sa, vI vv, .ref m19, vI rdu, .ref m21, .ref m22, vI se, vI its, .ref m25, .ref m26, vJ lt0]), (m0, aJ ca 7284 d), (m3, aI ca 5 w), (m25, aZ ca 1806 cn1_2), (m26, aI ca 5 T2)] := hD.sub [0, 1, 2, 3, 4] (by decide) rfl
                  exact J88 z85 (by first | exact Or.inl ⟨by omega, rfl⟩ | exact Or.inr ⟨by omega, by rw [q85, q72, e84]⟩) (by first | (rw [Int.zero_mul]; omega) | exact ⟨by split at q85 <;> omega, by split at q85 <;> omega, most_le (by omega) (by omega) (by split at q85 <;> omega)⟩) _ _ hP hD hS ls (lv_sub hl [0, 1, 2, 3, 4, 5] rfl)
                · skip
                  refine lv_iconst (v := Int32.ofInt 0) hx hb dX8_leastOf_64 rfl ?_
                  refine lv_goto (tgt := 88) hx hb dX8_leastOf_65 (by decide) ?_
                  exact J88 0 (by first | exact Or.inl ⟨by omega, rfl⟩ | exact Or.inr ⟨by omega, by rw [q85, q72, e84]⟩) (by first | (rw [Int.zero_mul]; omega) | exact ⟨by split at q85 <;> omega, by split at q85 <;> omega, most_le (by omega) (by omega) (by split at q85 <;> omega)⟩) _ _ hP hD hS ls (lv_sub hl [0, 1, 2, 3, 4, 5] rfl)
          exact L49 _ 4 s0 ch (by first | assumption | omega) (by exact hR5) (by intro T' _ q; exact q) (Nat.lt_succ_self _) _ _ hP hD hS ls (lv_sub hl [0, 1, 2, 3, 4, 5] rfl)
        · skip
          refine lv_bipush (v := Int32.ofInt (-9)) hx hb dX8_leastOf_40 (by decide) ?_
          refine zr_I hx hb hr hlk hQ (cn1_2, ch) hP hD hS dX8_leastOf_42 (Nat.le_of_ble_eq_true rfl) (Nat.le_of_ble_eq_true rfl) ?_
          show (0 ≤ (-9) ∧ LST (cnt b nn) w x (-9) ∧ CHO (cnt b nn) w ch 5 (-9)) ∨ ((-9) = -9 ∧ ∀ s : Int, x ≤ s → s ≤ 298 → ¬ RC (cnt b nn) w 5 s)
          exact Or.inr ⟨rfl, fun s h1 h2 => hno s h1 (by omega)⟩
      · skip
        refine lv_aload_n hx hb dX8_leastOf_14 rfl (lv_at hl 1 rfl) ?_
        refine va_get (D := g) (ci := 8) (v := .ref m25) (C := RX8) (T := TX8) (N := 28) hx hb hts inF_X8 hown hK.1 hP 0 rfl rfl 25 (by decide) lk_f45 (fun _ h9 => h9) rfl dX8_leastOf_15 ?_
        refine lv_sipush (v := Int32.ofInt 1505) hx hb dX8_leastOf_18 (by decide) ?_
        refine lv_iload_n hx hb dX8_leastOf_21 rfl (lv_at hl 0 rfl) ?_
        refine ri_add hx hb dX8_leastOf_22 (fun z22 e22 => ?_)
        refine ra_zld hx hb hK hP 3 rfl dX8_leastOf_23 ⟨by omega, by omega⟩ (by omega) ?_
        have hcn := q2 5 s0 (by omega) (by omega) (by omega) (Or.inl (by omega))
        rw [show (301 : Int) * 5 + s0 = z22 by omega] at hcn
        refine ri_if_ne (tgt := 33) hx hb dX8_leastOf_24 (by decide) ⟨by omega, by omega⟩ (fun c24 => ?_) (fun c24 => ?_)
        · skip
          refine lv_iload_n hx hb dX8_leastOf_33 rfl (lv_at hl 0 rfl) ?_
          refine lv_sipush (v := Int32.ofInt 300) hx hb dX8_leastOf_34 (by decide) ?_
          refine ri_icmp_le (tgt := 43) hx hb dX8_leastOf_37 (by decide) ⟨by omega, by omega⟩ ⟨by omega, by omega⟩ (fun c37 => ?_) (fun c37 => ?_)
          · skip
            have hcn43 : RC (cnt b nn) w 5 s0 := by
              first
              | (rcases hcn with h9 | h9
                 · exact h9.2
                 · omega)
              | (exfalso; omega)
            have hR5 := hcn43
            refine lv_iload_n hx hb dX8_leastOf_43 rfl (lv_at hl 0 rfl) ?_
            refine lv_istore (lv' := [(4, vI s0), (3, vI s0), (0, .ref hm), (1, vI h0), (2, vI x)]) hx hb dX8_leastOf_44 hl (by decide) rfl (fun ls hl => ?_)
            refine lv_iconst (v := Int32.ofInt 4) hx hb dX8_leastOf_46 rfl ?_
            refine lv_istore (lv' := [(5, vI 4), (4, vI s0), (3, vI s0), (0, .ref hm), (1, vI h0), (2, vI x)]) hx hb dX8_leastOf_47 hl (by decide) rfl (fun ls hl => ?_)
            have L49 : ∀ (N49 : Nat) (o : Int) (r : Int) (T2 : Int → Int) (hi : -1 ≤ o ∧ o ≤ 4 ∧ 0 ≤ r ∧ r ≤ 300) (hrr : RC (cnt b nn) w (o + 1).toNat r) (hch : ∀ T' : Int → Int, (∀ k : Int, o < k → k ≤ 4 → T' k = T2 k) → CHO (cnt b nn) w T' (o + 1).toNat r → CHO (cnt b nn) w T' 5 s0) (hμ : (o + 1).toNat < N49) (H : Heap) (locs : List Loc) (hP : va_P g vwCl [(hm, oB 8 [.ref m0, vI un, .ref m2, .ref m3, vI mo, vI oft, vI la, vI du, .ref m8, .ref m9, vI to, .ref m11, .ref m12, vJ tr, .ref m14, vI n, vI at0, vI sa, vI vv, .ref m19, vI rdu, .ref m21, .ref m22, vI se, vI its, .ref m25, .ref m26, vJ lt0]), (m0, aJ ca 7284 d), (m3, aI ca 5 w), (m25, aZ ca 1806 cn1_2), (m26, aI ca 5 T2)] H) (hD : va_D A [(hm, oB 8 [.ref m0, vI un, .ref m2, .ref m3, vI mo, vI oft, vI la, vI du, .ref m8, .ref m9, vI to, .ref m11, .ref m12, vJ tr, .ref m14, vI n, vI at0, vI sa, vI vv, .ref m19, vI rdu, .ref m21, .ref m22, vI se, vI its, .ref m25, .ref m26, vJ lt0]), (m0, aJ ca 7284 d), (m3, aI ca 5 w), (m25, aZ ca 1806 cn1_2), (m26, aI ca 5 T2)]) (hS : va_S A s.heap H locs) (ls : Array Slot) (hl : lv_has ls 7 [(5, vI o), (4, vI r), (3, vI s0), (0, .ref hm), (1, vI h0), (2, vI x)]), W p l e R s m args below meth c H locs 0 0 Q (F0 m 49 ls []) := by
              intro N49; induction N49 with
              | zero => intro o r T2 hi hrr hch hμ; exact absurd hμ (Nat.not_lt_zero _)
              | succ N49 ih49 =>
                intro o r T2 hi hrr hch hμ H locs hP hD hS ls hl
                refine lv_iload hx hb dX8_leastOf_49 (lv_at hl 0 rfl) ?_
                refine ri_if_lt (tgt := 154) hx hb dX8_leastOf_51 (by decide) ⟨by omega, by omega⟩ (fun c51 => ?_) (fun c51 => ?_)
                · skip
                  refine lv_iload_n hx hb dX8_leastOf_154 rfl (lv_at hl 2 rfl) ?_
                  refine zr_I hx hb hr hlk hQ (cn1_2, T2) hP hD hS dX8_leastOf_155 (Nat.le_of_ble_eq_true rfl) (Nat.le_of_ble_eq_true rfl) ?_
                  show (0 ≤ s0 ∧ LST (cnt b nn) w x s0 ∧ CHO (cnt b nn) w T2 5 s0) ∨ (s0 = -9 ∧ ∀ s : Int, x ≤ s → s ≤ 298 → ¬ RC (cnt b nn) w 5 s)
                  exact Or.inl ⟨by omega, ls_299 hW hxx hs0.1 hR5 hno, hch T2 (fun _ _ _ => rfl) (by rw [show o = -1 by omega]; trivial)⟩
                · skip
                  have J88 : ∀ (mst : Int) (hmx : (w o = 0 ∧ mst = 0) ∨ (0 < w o ∧ mst = if (if 300 < cnt b nn o then 300 else cnt b nn o) < r / w o then (if 300 < cnt b nn o then 300 else cnt b nn o) else r / w o)) (hm0 : 0 ≤ mst ∧ mst ≤ 300 ∧ mst * w o ≤ r) (H : Heap) (locs : List Loc) (hP : va_P g vwCl [(hm, oB 8 [.ref m0, vI un, .ref m2, .ref m3, vI mo, vI oft, vI la, vI du, .ref m8, .ref m9, vI to, .ref m11, .ref m12, vJ tr, .ref m14, vI n, vI at0, vI sa, vI vv, .ref m19, vI rdu, .ref m21, .ref m22, vI se, vI its, .ref m25, .ref m26, vJ lt0]), (m0, aJ ca 7284 d), (m3, aI ca 5 w), (m25, aZ ca 1806 cn1_2), (m26, aI ca 5 T2)] H) (hD : va_D A [(hm, oB 8 [.ref m0, vI un, .ref m2, .ref m3, vI mo, vI oft, vI la, vI du, .ref m8, .ref m9, vI to, .ref m11, .ref m12, vJ tr, .ref m14, vI n, vI at0, vI sa, vI vv, .ref m19, vI rdu, .ref m21, .ref m22, vI se, vI its, .ref m25, .ref m26, vJ lt0]), (m0, aJ ca 7284 d), (m3, aI ca 5 w), (m25, aZ ca 1806 cn1_2), (m26, aI ca 5 T2)]) (hS : va_S A s.heap H locs) (ls : Array Slot) (hl : lv_has ls 7 [(5, vI o), (4, vI r), (3, vI s0), (0, .ref hm), (1, vI h0), (2, vI x)]), W p l e R s m args below meth c H locs 0 0 Q (F0 m 88 ls [vI mst]) := by
                    intro mst hmx hm0 H locs hP hD hS ls hl
                    refine lv_istore (lv' := [(6, vI mst), (5, vI o), (4, vI r), (3, vI s0), (0, .ref hm), (1, vI h0), (2, vI x)]) hx hb dX8_leastOf_88 hl (by decide) rfl (fun ls hl => ?_)
                    have L90 : ∀ (N90 : Nat) (n0 : Int) (hn0 : 0 ≤ n0 ∧ n0 ≤ mst) (hno2 : ∀ k : Int, n0 < k → k ≤ mst → ¬ RC (cnt b nn) w o.toNat (r - k * w o)) (hex2 : ∃ k : Int, 0 ≤ k ∧ k ≤ n0 ∧ RC (cnt b nn) w o.toNat (r - k * w o)) (hμ : n0.toNat < N90) (H : Heap) (locs : List Loc) (hP : va_P g vwCl [(hm, oB 8 [.ref m0, vI un, .ref m2, .ref m3, vI mo, vI oft, vI la, vI du, .ref m8, .ref m9, vI to, .ref m11, .ref m12, vJ tr, .ref m14, vI n, vI at0, vI sa, vI vv, .ref m19, vI rdu, .ref m21, .ref m22, vI se, vI its, .ref m25, .ref m26, vJ lt0]), (m0, aJ ca 7284 d), (m3, aI ca 5 w), (m25, aZ ca 1806 cn1_2), (m26, aI ca 5 T2)] H) (hD : va_D A [(hm, oB 8 [.ref m0, vI un, .ref m2, .ref m3, vI mo, vI oft, vI la, vI du, .ref m8, .ref m9, vI to, .ref m11, .ref m12, vJ tr, .ref m14, vI n, vI at0, vI sa, vI vv, .ref m19, vI rdu, .ref m21, .ref m22, vI se, vI its, .ref m25, .ref m26, vJ lt0]), (m0, aJ ca 7284 d), (m3, aI ca 5 w), (m25, aZ ca 1806 cn1_2), (m26, aI ca 5 T2)]) (hS : va_S A s.heap H locs) (ls : Array Slot) (hl : lv_has ls 7 [(6, vI n0), (5, vI o), (4, vI r), (3, vI s0), (0, .ref hm), (1, vI h0), (2, vI x)]), W p l e R s m args below meth c H locs 0 0 Q (F0 m 90 ls []) := by
                      intro N90; induction N90 with
                      | zero => intro n0 hn0 hno2 hex2 hμ; exact absurd hμ (Nat.not_lt_zero _)
                      | succ N90 ih90 =>
                        intro n0 hn0 hno2 hex2 hμ H locs hP hD hS ls hl
                        refine lv_aload_n hx hb dX8_leastOf_90 rfl (lv_at hl 4 rfl) ?_
                        refine va_get (D := g) (ci := 8) (v := .ref m25) (C := RX8) (T := TX8) (N := 28) hx hb hts inF_X8 hown hK.1 hP 0 rfl rfl 25 (by decide) lk_f45 (fun _ h9 => h9) rfl dX8_leastOf_91 ?_
                        refine lv_sipush (v := Int32.ofInt 301) hx hb dX8_leastOf_94 (by decide) ?_
                        refine lv_iload hx hb dX8_leastOf_97 (lv_at hl 1 rfl) ?_
                        refine ri_mul hx hb dX8_leastOf_99 (fun z99 e99 => ?_)
                        refine lv_iload hx hb dX8_leastOf_100 (lv_at hl 2 rfl) ?_
                        refine ri_add hx hb dX8_leastOf_102 (fun z102 e102 => ?_)
                        refine lv_iload hx hb dX8_leastOf_103 (lv_at hl 0 rfl) ?_
                        refine lv_aload_n hx hb dX8_leastOf_105 rfl (lv_at hl 4 rfl) ?_
                        refine va_get (D := g) (ci := 8) (v := .ref m3) (C := RX8) (T := TX8) (N := 28) hx hb hts inF_X8 hown hK.1 hP 0 rfl rfl 3 (by decide) lk_f17 (fun _ h9 => h9) rfl dX8_leastOf_106 ?_
                        refine lv_iload hx hb dX8_leastOf_109 (lv_at hl 1 rfl) ?_
                        refine ra_ild hx hb hK hP 2 rfl dX8_leastOf_111 ⟨by omega, by omega⟩ (by omega) ?_
                        have hmn : 0 ≤ n0 * w o ∧ n0 * w o ≤ mst * w o := ⟨Int.mul_nonneg hn0.1 (by omega), Int.mul_le_mul_of_nonneg_right hn0.2 (by omega)⟩
                        refine ri_mul hx hb dX8_leastOf_112 (fun z112 e112 => ?_)
                        refine ri_sub hx hb dX8_leastOf_113 (fun z113 e113 => ?_)
                        have hix : z113 = 301 * o + (r - n0 * w o) := by omega
                        refine ra_zld hx hb hK hP 3 rfl dX8_leastOf_114 ⟨by omega, by omega⟩ (by omega) ?_
                        have hcn2 := q2 o (r - n0 * w o) (by omega) (by omega) (by omega) (Or.inl (by omega))
                        rw [← hix] at hcn2
                        refine ri_if_ne (tgt := 124) hx hb dX8_leastOf_115 (by decide) ⟨by omega, by omega⟩ (fun c115 => ?_) (fun c115 => ?_)
                        · skip
                          have hR115 : RC (cnt b nn) w o.toNat (r - n0 * w o) := by
                            rcases hcn2 with h9 | h9
                            · exact h9.2
                            · omega
                          have hg3 : GRT (cnt b nn o) (w o) (RC (cnt b nn) w o.toNat) r n0 := grt_c (by omega) rfl (by omega) hmx hn0 hR115 (fun x hx9 => RC_neg hW _ x (by omega) hx9) hno2
                          refine lv_aload_n hx hb dX8_leastOf_124 rfl (lv_at hl 4 rfl) ?_
                          refine va_get (D := g) (ci := 8) (v := .ref m26) (C := RX8) (T := TX8) (N := 28) hx hb hts inF_X8 hown hK.1 hP 0 rfl rfl 26 (by decide) lk_f48 (fun _ h9 => h9) rfl dX8_leastOf_125 ?_
                          refine lv_iload hx hb dX8_leastOf_128 (lv_at hl 1 rfl) ?_
                          refine lv_iload hx hb dX8_leastOf_130 (lv_at hl 0 rfl) ?_
                          refine ra_ist hx hb hK hP hD hS 4 rfl dX8_leastOf_132 ⟨by omega, by omega⟩ (by omega) (fun H locs hP hD hS => ?_)
                          have hP : va_P g vwCl [(hm, oB 8 [.ref m0, vI un, .ref m2, .ref m3, vI mo, vI oft, vI la, vI du, .ref m8, .ref m9, vI to, .ref m11, .ref m12, vJ tr, .ref m14, vI n, vI at0, vI sa, vI vv, .ref m19, vI rdu, .ref m21, .ref m22, vI se, vI its, .ref m25, .ref m26, vJ lt0]), (m0, aJ ca 7284 d), (m3, aI ca 5 w), (m25, aZ ca 1806 cn1_2), (m26, aI ca 5 (zu T2 o n0))] H := hP
                          have hD : va_D A [(hm, oB 8 [.ref m0, vI un, .ref m2, .ref m3, vI mo, vI oft, vI la, vI du, .ref m8, .ref m9, vI to, .ref m11, .ref m12, vJ tr, .ref m14, vI n, vI at0, vI sa, vI vv, .ref m19, vI rdu, .ref m21, .ref m22, vI se, vI its, .ref m25, .ref m26, vJ lt0]), (m0, aJ ca 7284 d), (m3, aI ca 5 w), (m25, aZ ca 1806 cn1_2), (m26, aI ca 5 (zu T2 o n0))] := hD
                          refine lv_iload hx hb dX8_leastOf_133 (lv_at hl 2 rfl) ?_
                          refine lv_iload hx hb dX8_leastOf_135 (lv_at hl 0 rfl) ?_
                          refine lv_aload_n hx hb dX8_leastOf_137 rfl (lv_at hl 4 rfl) ?_
                          refine va_get (D := g) (ci := 8) (v := .ref m3) (C := RX8) (T := TX8) (N := 28) hx hb hts inF_X8 hown hK.1 hP 0 rfl rfl 3 (by decide) lk_f17 (fun _ h9 => h9) rfl dX8_leastOf_138 ?_
                          refine lv_iload hx hb dX8_leastOf_141 (lv_at hl 1 rfl) ?_
                          refine ra_ild hx hb hK hP 2 rfl dX8_leastOf_143 ⟨by omega, by omega⟩ (by omega) ?_
                          refine ri_mul hx hb dX8_leastOf_144 (fun z144 e144 => ?_)
                          refine ri_sub hx hb dX8_leastOf_145 (fun z145 e145 => ?_)
                          refine lv_istore (lv' := [(4, vI z145), (6, vI n0), (5, vI o), (3, vI s0), (0, .ref hm), (1, vI h0), (2, vI x)]) hx hb dX8_leastOf_146 hl (by decide) rfl (fun ls hl => ?_)
                          obtain ⟨z148, e148⟩ : ∃ q : Int, q = o + (-1) := ⟨_, rfl⟩
                          refine ri_inc (lv' := [(5, vI z148), (4, vI z145), (6, vI n0), (3, vI s0), (0, .ref hm), (1, vI h0), (2, vI x)]) hx hb dX8_leastOf_148 hl (k := 2) rfl (by decide) z148 e148 rfl (fun ls hl => ?_)
                          refine lv_goto (tgt := 49) hx hb dX8_leastOf_151 (by decide) ?_
                          exact ih49 z148 z145 (zu T2 o n0) (by first | assumption | omega) (by rw [e148, show o + -1 + 1 = o by omega, e145, e144]; exact hR115) (by
                                intro T' q1 q2
                                rw [e148, show o + -1 + 1 = o by omega, e145, e144] at q2
                                refine cho_step (T3 := zu T2 o n0) (by omega) (fun k hk => zu_n hk) (by rw [zu_s]; exact hg3) hch (fun k k1 k2 => q1 k (by omega) k2) (by omega) (by rw [zu_s]; exact q2)) (by omega) _ _ hP hD hS ls (lv_sub hl [0, 1, 3, 4, 5, 6] rfl)
                        · skip
                          obtain ⟨z118, e118⟩ : ∃ q : Int, q = n0 + (-1) := ⟨_, rfl⟩
                          refine ri_inc (lv' := [(6, vI z118), (5, vI o), (4, vI r), (3, vI s0), (0, .ref hm), (1, vI h0), (2, vI x)]) hx hb dX8_leastOf_118 hl (k := 0) rfl (by decide) z118 e118 rfl (fun ls hl => ?_)
                          refine lv_goto (tgt := 90) hx hb dX8_leastOf_121 (by decide) ?_
                          have hnR : ¬ RC (cnt b nn) w o.toNat (r - n0 * w o) := by
                            rcases hcn2 with h9 | h9
                            · omega
                            · exact h9.2
                          have hex3 : ∃ k : Int, 0 ≤ k ∧ k ≤ z118 ∧ RC (cnt b nn) w o.toNat (r - k * w o) := by
                            obtain ⟨k, k1, k2, k3⟩ := hex2
                            refine ⟨k, k1, ?_, k3⟩
                            rcases Int.lt_or_le k n0 with q | q
                            · omega
                            · have e : k = n0 := by omega
                              rw [e] at k3
                              exact absurd k3 hnR
                          have hn00 : 0 ≤ z118 := by
                            obtain ⟨k, k1, k2, k3⟩ := hex3
                            omega
                          exact ih90 z118 (by omega) (by
                                intro k h1 h2
                                by_cases q : k = n0
                                · rw [q]; exact hnR
                                · exact hno2 k (by omega) h2) (by exact hex3) (by omega) _ _ hP hD hS ls (lv_sub hl [0, 1, 2, 3, 4, 5, 6] rfl)
                    exact L90 _ mst (by first | assumption | omega) (by intro k h1 h2; omega) (by exact ex_most (by omega) rfl (by omega) hmx (fun x hx9 => RC_neg hW _ x (by omega) hx9) (RC_ex (by omega) hrr)) (Nat.lt_succ_self _) _ _ hP hD hS ls (lv_sub hl [0, 1, 2, 3, 4, 5, 6] rfl)
                  have hw54 := hW o (by omega) (by omega)
                  refine lv_aload_n hx hb dX8_leastOf_54 rfl (lv_at hl 3 rfl) ?_
                  refine va_get (D := g) (ci := 8) (v := .ref m3) (C := RX8) (T := TX8) (N := 28) hx hb hts inF_X8 hown hK.1 hP 0 rfl rfl 3 (by decide) lk_f17 (fun _ h9 => h9) rfl dX8_leastOf_55 ?_
                  refine lv_iload hx hb dX8_leastOf_58 (lv_at hl 0 rfl) ?_
                  refine ra_ild hx hb hK hP 2 rfl dX8_leastOf_60 ⟨by omega, by omega⟩ (by omega) ?_
                  refine ri_if_ne (tgt := 68) hx hb dX8_leastOf_61 (by decide) ⟨by omega, by omega⟩ (fun c61 => ?_) (fun c61 => ?_)
                  · skip
                    refine lv_aload_n hx hb dX8_leastOf_68 rfl (lv_at hl 3 rfl) ?_
                    refine lv_iload_n hx hb dX8_leastOf_69 rfl (lv_at hl 4 rfl) ?_
                    refine lv_iload hx hb dX8_leastOf_70 (lv_at hl 0 rfl) ?_
                    refine zc_VI (As := [vI h0, vI o]) (rest := []) (wc := [(hm, oB 8 [.ref m0, vI un, .ref m2, .ref m3, vI mo, vI oft, vI la, vI du, .ref m8, .ref m9, vI to, .ref m11, .ref m12, vJ tr, .ref m14, vI n, vI at0, vI sa, vI vv, .ref m19, vI rdu, .ref m21, .ref m22, vI se, vI its, .ref m25, .ref m26, vJ lt0]), (m0, aJ ca 7284 d)]) (wr := [(m3, aI ca 5 w), (m25, aZ ca 1806 cn1_2), (m26, aI ca 5 T2)]) (k_X8_capOf l g ca hm m0 m2 m3 m8 m9 m11 m12 m14 m19 m21 m22 m25 m26 un mo oft la du to tr n at0 sa vv rdu se its lt0 d h0 o b nn ml (by first | assumption | omega) (by first | assumption | omega) (by first | assumption | omega) (by first | assumption | omega)) dX8_leastOf_72 (cwV 2 hts gX8_leastOf_X8_capOf rfl rfl rfl (by decide +kernel) (by rw [hR]; exact ⟨Nat.le_of_ble_eq_true rfl, Nat.le_of_ble_eq_true rfl⟩)) ⟨hx, hb, hml, hown, hts⟩ hl.1 hK hP hD hS hA 0 rfl rfl rfl [0, 1] [2, 3, 4] rfl (by decide) rfl (by decide) (by decide) rfl rfl (Nat.le_of_ble_eq_true rfl) (by rw [hR]; exact ⟨Nat.le_of_ble_eq_true rfl, Nat.le_of_ble_eq_true rfl⟩) (fun z72 u H locs q72 hP hD hS => ?_)
                    have q72 : z72 = if 300 < cnt b nn o then 300 else cnt b nn o := q72
                    have hP : va_P g vwCl [(hm, oB 8 [.ref m0, vI un, .ref m2, .ref m3, vI mo, vI oft, vI la, vI du, .ref m8, .ref m9, vI to, .ref m11, .ref m12, vJ tr, .ref m14, vI n, vI at0, vI sa, vI vv, .ref m19, vI rdu, .ref m21, .ref m22, vI se, vI its, .ref m25, .ref m26, vJ lt0]), (m0, aJ ca 7284 d), (m3, aI ca 5 w), (m25, aZ ca 1806 cn1_2), (m26, aI ca 5 T2)] H := hP.sub [3, 4, 0, 1, 2] rfl
                    have hD : va_D A [(hm, oB 8 [.ref m0, vI un, .ref m2, .ref m3, vI mo, vI oft, vI la, vI du, .ref m8, .ref m9, vI to, .ref m11, .ref m12, vJ tr, .ref m14, vI n, vI at0, vI sa, vI vv, .ref m19, vI rdu, .ref m21, .ref m22, vI se, vI its, .ref m25, .ref m26, vJ lt0]), (m0, aJ ca 7284 d), (m3, aI ca 5 w), (m25, aZ ca 1806 cn1_2), (m26, aI ca 5 T2)] := hD.sub [3, 4, 0, 1, 2] (by decide) rfl
                    have hc75 := cnt_bd hB (o := o) (by omega) (by omega)
                    have hcap75 : 0 ≤ z72 ∧ z72 ≤ 300 := by rw [q72]; split <;> omega
                    refine lv_iload hx hb dX8_leastOf_75 (lv_at hl 1 rfl) ?_
                    refine lv_aload_n hx hb dX8_leastOf_77 rfl (lv_at hl 3 rfl) ?_
                    refine va_get (D := g) (ci := 8) (v := .ref m3) (C := RX8) (T := TX8) (N := 28) hx hb hts inF_X8 hown hK.1 hP 0 rfl rfl 3 (by decide) lk_f17 (fun _ h9 => h9) rfl dX8_leastOf_78 ?_
                    refine lv_iload hx hb dX8_leastOf_81 (lv_at hl 0 rfl) ?_
                    refine ra_ild hx hb hK hP 2 rfl dX8_leastOf_83 ⟨by omega, by omega⟩ (by omega) ?_
                    refine ri_div hx hb dX8_leastOf_84 ⟨by omega, by omega⟩ ⟨by omega, by omega⟩ (fun z84 e84 => ?_)
                    have hd85 : 0 ≤ z84 ∧ z84 ≤ 300 := by
                      rw [e84]
                      exact ⟨Int.ediv_nonneg (by omega) (by omega), by have := Int.ediv_le_self (w o) (show 0 ≤ r by omega); omega⟩
                    refine zc_SI (As := [vI z72, vI z84]) (rest := []) (wc := []) (wr := [(hm, oB 8 [.ref m0, vI un, .ref m2, .ref m3, vI mo, vI oft, vI la, vI du, .ref m8, .ref m9, vI to, .ref m11, .ref m12, vJ tr, .ref m14, vI n, vI at0, vI sa, vI vv, .ref m19, vI rdu, .ref m21, .ref m22, vI se, vI its, .ref m25, .ref m26, vJ lt0]), (m0, aJ ca 7284 d), (m3, aI ca 5 w), (m25, aZ ca 1806 cn1_2), (m26, aI ca 5 T2)]) (k_X8_lesser l g ca z72 z84 (by exact ⟨by omega, by omega⟩) (by exact ⟨by omega, by omega⟩)) dX8_leastOf_85 (va_cwS 2 hts gX8_leastOf_X8_lesser rfl rfl rfl (by decide +kernel) (by rw [hR]; exact ⟨Nat.le_of_ble_eq_true rfl, Nat.le_of_ble_eq_true rfl⟩)) ⟨hx, hb, hml, hown, hts⟩ hl.1 hK hP hD hS hA [] [0, 1, 2, 3, 4] rfl (by decide) rfl (by decide) (by decide) rfl rfl (Nat.le_of_ble_eq_true rfl) (by rw [hR]; exact ⟨Nat.le_of_ble_eq_true rfl, Nat.le_of_ble_eq_true rfl⟩) (fun z85 u H locs q85 hP hD hS => ?_)
                    have q85 : z85 = if z72 < z84 then z72 else z84 := q85
                    have hP : va_P g vwCl [(hm, oB 8 [.ref m0, vI un, .ref m2, .ref m3, vI mo, vI oft, vI la, vI du, .ref m8, .ref m9, vI to, .ref m11, .ref m12, vJ tr, .ref m14, vI n, vI at0, vI sa, vI vv, .ref m19, vI rdu, .ref m21, .ref m22, vI se, vI its, .ref m25, .ref m26, vJ lt0]), (m0, aJ ca 7284 d), (m3, aI ca 5 w), (m25, aZ ca 1806 cn1_2), (m26, aI ca 5 T2)] H := hP.sub [0, 1, 2, 3, 4] rfl
                    have hD : va_D A [(hm, oB 8 [.ref m0, vI un, .ref m2, .ref m3, vI mo, vI oft, vI la, vI du, .ref m8, .ref m9, vI to, .ref m11, .ref m12, vJ tr, .ref m14, vI n, vI at0, vI sa, vI vv, .ref m19, vI rdu, .ref m21, .ref m22, vI se, vI its, .ref m25, .ref m26, vJ lt0]), (m0, aJ ca 7284 d), (m3, aI ca 5 w), (m25, aZ ca 1806 cn1_2), (m26, aI ca 5 T2)] := hD.sub [0, 1, 2, 3, 4] (by decide) rfl
                    exact J88 z85 (by first | exact Or.inl ⟨by omega, rfl⟩ | exact Or.inr ⟨by omega, by rw [q85, q72, e84]⟩) (by first | (rw [Int.zero_mul]; omega) | exact ⟨by split at q85 <;> omega, by split at q85 <;> omega, most_le (by omega) (by omega) (by split at q85 <;> omega)⟩) _ _ hP hD hS ls (lv_sub hl [0, 1, 2, 3, 4, 5] rfl)
                  · skip
                    refine lv_iconst (v := Int32.ofInt 0) hx hb dX8_leastOf_64 rfl ?_
                    refine lv_goto (tgt := 88) hx hb dX8_leastOf_65 (by decide) ?_
                    exact J88 0 (by first | exact Or.inl ⟨by omega, rfl⟩ | exact Or.inr ⟨by omega, by rw [q85, q72, e84]⟩) (by first | (rw [Int.zero_mul]; omega) | exact ⟨by split at q85 <;> omega, by split at q85 <;> omega, most_le (by omega) (by omega) (by split at q85 <;> omega)⟩) _ _ hP hD hS ls (lv_sub hl [0, 1, 2, 3, 4, 5] rfl)
            exact L49 _ 4 s0 ch (by first | assumption | omega) (by exact hR5) (by intro T' _ q; exact q) (Nat.lt_succ_self _) _ _ hP hD hS ls (lv_sub hl [0, 1, 2, 3, 4, 5] rfl)
          · skip
            refine lv_bipush (v := Int32.ofInt (-9)) hx hb dX8_leastOf_40 (by decide) ?_
            refine zr_I hx hb hr hlk hQ (cn1_2, ch) hP hD hS dX8_leastOf_42 (Nat.le_of_ble_eq_true rfl) (Nat.le_of_ble_eq_true rfl) ?_
            show (0 ≤ (-9) ∧ LST (cnt b nn) w x (-9) ∧ CHO (cnt b nn) w ch 5 (-9)) ∨ ((-9) = -9 ∧ ∀ s : Int, x ≤ s → s ≤ 298 → ¬ RC (cnt b nn) w 5 s)
            exact Or.inr ⟨rfl, fun s h1 h2 => hno s h1 (by omega)⟩
        · skip
          obtain ⟨z27, e27⟩ : ∃ q : Int, q = s0 + 1 := ⟨_, rfl⟩
          refine ri_inc (lv' := [(3, vI z27), (0, .ref hm), (1, vI h0), (2, vI x)]) hx hb dX8_leastOf_27 hl (k := 0) rfl (by decide) z27 e27 rfl (fun ls hl => ?_)
          refine lv_goto (tgt := 7) hx hb dX8_leastOf_30 (by decide) ?_
          exact ih7 z27 (by first | assumption | omega) (by
                intro y h1 h2
                by_cases q : y = s0
                · rw [q]
                  rcases hcn with h9 | h9
                  · omega
                  · exact h9.2
                · exact hno y h1 (by omega)) (by omega) _ _ hP hD hS ls (lv_sub hl [0, 1, 2, 3] rfl)
  exact L7 _ x (by first | assumption | omega) (by intro y h1 h2; omega) (Nat.lt_succ_self _) _ _ hP hD hS ls (lv_sub hl [0, 1, 2, 3] rfl)
set_option maxHeartbeats 4000000 in
set_option maxRecDepth 100000 in
theorem k_X8_least (l : Launch) (g : va_G) (ca : Nat → ClassId) (hm : Nat) (m0 : Nat) (m2 : Nat) (m3 : Nat) (m8 : Nat) (m9 : Nat) (m11 : Nat) (m12 : Nat) (m14 : Nat) (m19 : Nat) (m21 : Nat) (m22 : Nat) (m25 : Nat) (m26 : Nat) (un : Int) (mo : Int) (oft : Int) (la : Int) (du : Int) (to : Int) (tr : Int) (n : Int) (at0 : Int) (sa : Int) (vv : Int) (rdu : Int) (se : Int) (its : Int) (lt0 : Int) (d : Int → Int) (w : Int → Int) (cn : Int → Int) (ch : Int → Int) (x : Int) (o : Int) (b : Int → Int) (nn : Int) (ml : Int) (hAT : AT d 0 b nn ml) (hB : GB b nn) (hW : GW w) (hx0 : in32 x) (hx1 : in32 o) : zI (S := (Int → Int) × (Int → Int)) l yX8_least wsX8_least ({ frames := 4, cells := 0, slots := 0, locals := 101 } : Room) g ca [.ref hm, vI x, vI o] [(hm, oB 8 [.ref m0, vI un, .ref m2, .ref m3, vI mo, vI oft, vI la, vI du, .ref m8, .ref m9, vI to, .ref m11, .ref m12, vJ tr, .ref m14, vI n, vI at0, vI sa, vI vv, .ref m19, vI rdu, .ref m21, .ref m22, vI se, vI its, .ref m25, .ref m26, vJ lt0]), (m0, aJ ca 7284 d), (m3, aI ca 5 w), (m25, aZ ca 1806 cn), (m26, aI ca 5 ch)] (fun (z : Int) (u : (Int → Int) × (Int → Int)) => lsR w b nn x o z) (fun (u : (Int → Int) × (Int → Int)) => [(hm, oB 8 [.ref m0, vI un, .ref m2, .ref m3, vI mo, vI oft, vI la, vI du, .ref m8, .ref m9, vI to, .ref m11, .ref m12, vJ tr, .ref m14, vI n, vI at0, vI sa, vI vv, .ref m19, vI rdu, .ref m21, .ref m22, vI se, vI its, .ref m25, .ref m26, vJ lt0]), (m0, aJ ca 7284 d), (m3, aI ca 5 w), (m25, aZ ca 1806 u.1), (m26, aI ca 5 u.2)]) 0 0 := by
  refine zm_I (cc := cX8_least) (maxL := 4) (ret := some .int) (by decide) rfl (Nat.le_of_ble_eq_true rfl) ?_
  intro p e s m below meth c A ls R args Q hR hargs hQ hx hb hml hr hts hown hlk hnm hK hP hD hA hS hl
  have hown : s.vm.findClass RX8 = some m.cls := hown
  have hl : lv_has ls 4 [(0, .ref hm), (1, vI x), (2, vI o)] := hl
  have lk_c209 : (Cond.constantLong RX8 209 (200)).before args s = true := hts _ (by decide +kernel)
  have lk_c164 : (Cond.constantLong RX8 164 (-1)).before args s = true := hts _ (by decide +kernel)
  have lk_c136 : (Cond.constantLong RX8 136 (4)).before args s = true := hts _ (by decide +kernel)
  have lk_f48 : (Cond.fieldLink RX8 48 "DripRingsModel" "chosen" "[I").before args s = true := hts _ (by decide +kernel)
  have inF_X8 : ∀ w ∈ wsX80, w ∈ wsX8_least := by decide +kernel
  refine lv_iload_n hx hb dX8_least_0 rfl (lv_at hl 1 rfl) ?_
  refine ri_l hx hb dX8_least_1 hx0 ?_
  refine lv_lconst (v := Int64.ofInt 1) hx hb dX8_least_2 (by decide) ?_
  refine rj_ldc (z := 200) hx hb hown lk_c209 dX8_least_3 (by decide) ?_
  refine zc_SI (As := [vJ x, vJ 1, vJ 200]) (rest := []) (wc := []) (wr := [(hm, oB 8 [.ref m0, vI un, .ref m2, .ref m3, vI mo, vI oft, vI la, vI du, .ref m8, .ref m9, vI to, .ref m11, .ref m12, vJ tr, .ref m14, vI n, vI at0, vI sa, vI vv, .ref m19, vI rdu, .ref m21, .ref m22, vI se, vI its, .ref m25, .ref m26, vJ lt0]), (m0, aJ ca 7284 d), (m3, aI ca 5 w), (m25, aZ ca 1806 cn), (m26, aI ca 5 ch)]) (k_X8_in l g ca x 1 200 (by exact ⟨by omega, by omega⟩) (by exact ⟨by omega, by omega⟩) (by exact ⟨by omega, by omega⟩)) dX8_least_6 (va_cwS 3 hts gX8_least_X8_in rfl rfl rfl (by decide +kernel) (by rw [hR]; exact ⟨Nat.le_of_ble_eq_true rfl, Nat.le_of_ble_eq_true rfl⟩)) ⟨hx, hb, hml, hown, hts⟩ hl.1 hK hP hD hS hA [] [0, 1, 2, 3, 4] rfl (by decide) rfl (by decide) (by decide) rfl rfl (Nat.le_of_ble_eq_true rfl) (by rw [hR]; exact ⟨Nat.le_of_ble_eq_true rfl, Nat.le_of_ble_eq_true rfl⟩) (fun z6 u H locs q6 hP hD hS => ?_)
  have q6 : (z6 = 1 ∧ 1 ≤ x ∧ x ≤ 200) ∨ (z6 = 0 ∧ ¬ (1 ≤ x ∧ x ≤ 200)) := q6
  have hP : va_P g vwCl [(hm, oB 8 [.ref m0, vI un, .ref m2, .ref m3, vI mo, vI oft, vI la, vI du, .ref m8, .ref m9, vI to, .ref m11, .ref m12, vJ tr, .ref m14, vI n, vI at0, vI sa, vI vv, .ref m19, vI rdu, .ref m21, .ref m22, vI se, vI its, .ref m25, .ref m26, vJ lt0]), (m0, aJ ca 7284 d), (m3, aI ca 5 w), (m25, aZ ca 1806 cn), (m26, aI ca 5 ch)] H := hP.sub [0, 1, 2, 3, 4] rfl
  have hD : va_D A [(hm, oB 8 [.ref m0, vI un, .ref m2, .ref m3, vI mo, vI oft, vI la, vI du, .ref m8, .ref m9, vI to, .ref m11, .ref m12, vJ tr, .ref m14, vI n, vI at0, vI sa, vI vv, .ref m19, vI rdu, .ref m21, .ref m22, vI se, vI its, .ref m25, .ref m26, vJ lt0]), (m0, aJ ca 7284 d), (m3, aI ca 5 w), (m25, aZ ca 1806 cn), (m26, aI ca 5 ch)] := hD.sub [0, 1, 2, 3, 4] (by decide) rfl
  refine ri_if_eq (tgt := 26) hx hb dX8_least_9 (by decide) ⟨by omega, by omega⟩ (fun c9 => ?_) (fun c9 => ?_)
  · skip
    refine lv_iconst (v := Int32.ofInt (-1)) hx hb dX8_least_26 rfl ?_
    refine zr_I hx hb hr hlk hQ (cn, ch) hP hD hS dX8_least_27 (Nat.le_of_ble_eq_true rfl) (Nat.le_of_ble_eq_true rfl) ?_
    show lsR w b nn x o (-1)
    unfold lsR
    first
    | exact Or.inl ⟨by omega, rfl⟩
    | (refine Or.inr ⟨by omega, ?_⟩
       rcases q31 with q9 | q9
       · first
         | (exfalso; omega)
         | exact Or.inl ⟨_, _, q9.2.1, q9.2.2, (if_pos (by omega)).symm⟩
         | exact Or.inl ⟨_, _, q9.2.1, q9.2.2, (if_neg (by omega)).symm⟩
       · first | exact Or.inr ⟨q9.2, rfl⟩ | (exfalso; omega))
  · skip
    refine lv_iload_n hx hb dX8_least_12 rfl (lv_at hl 2 rfl) ?_
    refine ri_l hx hb dX8_least_13 hx1 ?_
    refine rj_ldc (z := (-1)) hx hb hown lk_c164 dX8_least_14 (by decide) ?_
    refine rj_ldc (z := 4) hx hb hown lk_c136 dX8_least_17 (by decide) ?_
    refine zc_SI (As := [vJ o, vJ (-1), vJ 4]) (rest := []) (wc := []) (wr := [(hm, oB 8 [.ref m0, vI un, .ref m2, .ref m3, vI mo, vI oft, vI la, vI du, .ref m8, .ref m9, vI to, .ref m11, .ref m12, vJ tr, .ref m14, vI n, vI at0, vI sa, vI vv, .ref m19, vI rdu, .ref m21, .ref m22, vI se, vI its, .ref m25, .ref m26, vJ lt0]), (m0, aJ ca 7284 d), (m3, aI ca 5 w), (m25, aZ ca 1806 cn), (m26, aI ca 5 ch)]) (k_X8_in l g ca o (-1) 4 (by exact ⟨by omega, by omega⟩) (by exact ⟨by omega, by omega⟩) (by exact ⟨by omega, by omega⟩)) dX8_least_20 (va_cwS 3 hts gX8_least_X8_in rfl rfl rfl (by decide +kernel) (by rw [hR]; exact ⟨Nat.le_of_ble_eq_true rfl, Nat.le_of_ble_eq_true rfl⟩)) ⟨hx, hb, hml, hown, hts⟩ hl.1 hK hP hD hS hA [] [0, 1, 2, 3, 4] rfl (by decide) rfl (by decide) (by decide) rfl rfl (Nat.le_of_ble_eq_true rfl) (by rw [hR]; exact ⟨Nat.le_of_ble_eq_true rfl, Nat.le_of_ble_eq_true rfl⟩) (fun z20 u H locs q20 hP hD hS => ?_)
    have q20 : (z20 = 1 ∧ (-1) ≤ o ∧ o ≤ 4) ∨ (z20 = 0 ∧ ¬ ((-1) ≤ o ∧ o ≤ 4)) := q20
    have hP : va_P g vwCl [(hm, oB 8 [.ref m0, vI un, .ref m2, .ref m3, vI mo, vI oft, vI la, vI du, .ref m8, .ref m9, vI to, .ref m11, .ref m12, vJ tr, .ref m14, vI n, vI at0, vI sa, vI vv, .ref m19, vI rdu, .ref m21, .ref m22, vI se, vI its, .ref m25, .ref m26, vJ lt0]), (m0, aJ ca 7284 d), (m3, aI ca 5 w), (m25, aZ ca 1806 cn), (m26, aI ca 5 ch)] H := hP.sub [0, 1, 2, 3, 4] rfl
    have hD : va_D A [(hm, oB 8 [.ref m0, vI un, .ref m2, .ref m3, vI mo, vI oft, vI la, vI du, .ref m8, .ref m9, vI to, .ref m11, .ref m12, vJ tr, .ref m14, vI n, vI at0, vI sa, vI vv, .ref m19, vI rdu, .ref m21, .ref m22, vI se, vI its, .ref m25, .ref m26, vJ lt0]), (m0, aJ ca 7284 d), (m3, aI ca 5 w), (m25, aZ ca 1806 cn), (m26, aI ca 5 ch)] := hD.sub [0, 1, 2, 3, 4] (by decide) rfl
    refine ri_if_ne (tgt := 28) hx hb dX8_least_23 (by decide) ⟨by omega, by omega⟩ (fun c23 => ?_) (fun c23 => ?_)
    · skip
      refine lv_aload_n hx hb dX8_least_28 rfl (lv_at hl 0 rfl) ?_
      refine lv_iconst (v := Int32.ofInt 0) hx hb dX8_least_29 rfl ?_
      refine lv_iload_n hx hb dX8_least_30 rfl (lv_at hl 1 rfl) ?_
      refine zc_VI (As := [vI 0, vI x]) (rest := []) (wc := [(hm, oB 8 [.ref m0, vI un, .ref m2, .ref m3, vI mo, vI oft, vI la, vI du, .ref m8, .ref m9, vI to, .ref m11, .ref m12, vJ tr, .ref m14, vI n, vI at0, vI sa, vI vv, .ref m19, vI rdu, .ref m21, .ref m22, vI se, vI its, .ref m25, .ref m26, vJ lt0]), (m0, aJ ca 7284 d), (m3, aI ca 5 w), (m25, aZ ca 1806 cn), (m26, aI ca 5 ch)]) (wr := []) (k_X8_leastOf l g ca hm m0 m2 m3 m8 m9 m11 m12 m14 m19 m21 m22 m25 m26 un mo oft la du to tr n at0 sa vv rdu se its lt0 d w cn ch 0 x b nn ml (by first | assumption | omega) (by first | assumption | omega) (by first | assumption | omega) (by first | assumption | omega) (by first | assumption | omega)) dX8_least_31 (cwV 2 hts gX8_least_X8_leastOf rfl rfl rfl (by decide +kernel) (by rw [hR]; exact ⟨Nat.le_of_ble_eq_true rfl, Nat.le_of_ble_eq_true rfl⟩)) ⟨hx, hb, hml, hown, hts⟩ hl.1 hK hP hD hS hA 0 rfl rfl rfl [0, 1, 2, 3, 4] [] rfl (by decide) rfl (by decide) (by decide) rfl rfl (Nat.le_of_ble_eq_true rfl) (by rw [hR]; exact ⟨Nat.le_of_ble_eq_true rfl, Nat.le_of_ble_eq_true rfl⟩) (fun z31 u H locs q31 hP hD hS => ?_)
      obtain ⟨cn1_31, ch1_31⟩ := u
      have q31 : (0 ≤ z31 ∧ LST (cnt b nn) w x z31 ∧ CHO (cnt b nn) w ch1_31 5 z31) ∨ (z31 = -9 ∧ ∀ s : Int, x ≤ s → s ≤ 298 → ¬ RC (cnt b nn) w 5 s) := q31
      have hP : va_P g vwCl [(hm, oB 8 [.ref m0, vI un, .ref m2, .ref m3, vI mo, vI oft, vI la, vI du, .ref m8, .ref m9, vI to, .ref m11, .ref m12, vJ tr, .ref m14, vI n, vI at0, vI sa, vI vv, .ref m19, vI rdu, .ref m21, .ref m22, vI se, vI its, .ref m25, .ref m26, vJ lt0]), (m0, aJ ca 7284 d), (m3, aI ca 5 w), (m25, aZ ca 1806 cn1_31), (m26, aI ca 5 ch1_31)] H := hP.sub [0, 1, 2, 3, 4] rfl
      have hD : va_D A [(hm, oB 8 [.ref m0, vI un, .ref m2, .ref m3, vI mo, vI oft, vI la, vI du, .ref m8, .ref m9, vI to, .ref m11, .ref m12, vJ tr, .ref m14, vI n, vI at0, vI sa, vI vv, .ref m19, vI rdu, .ref m21, .ref m22, vI se, vI its, .ref m25, .ref m26, vJ lt0]), (m0, aJ ca 7284 d), (m3, aI ca 5 w), (m25, aZ ca 1806 cn1_31), (m26, aI ca 5 ch1_31)] := hD.sub [0, 1, 2, 3, 4] (by decide) rfl
      refine lv_istore_n (lv' := [(3, vI z31), (0, .ref hm), (1, vI x), (2, vI o)]) hx hb dX8_least_34 rfl hl (by decide) rfl (fun ls hl => ?_)
      have hz31 : z31 = -9 ∨ (0 ≤ z31 ∧ z31 ≤ 298) := by
        rcases q31 with q9 | q9
        · exact Or.inr ⟨q9.1, q9.2.1.2.1⟩
        · exact Or.inl q9.1
      refine lv_iload_n hx hb dX8_least_35 rfl (lv_at hl 0 rfl) ?_
      refine ri_if_ge (tgt := 44) hx hb dX8_least_36 (by decide) ⟨by omega, by omega⟩ (fun c36 => ?_) (fun c36 => ?_)
      · skip
        refine lv_iload_n hx hb dX8_least_44 rfl (lv_at hl 3 rfl) ?_
        refine ri_if_ge (tgt := 52) hx hb dX8_least_45 (by decide) hx1 (fun c45 => ?_) (fun c45 => ?_)
        · skip
          refine lv_aload_n hx hb dX8_least_52 rfl (lv_at hl 1 rfl) ?_
          refine va_get (D := g) (ci := 8) (v := .ref m26) (C := RX8) (T := TX8) (N := 28) hx hb hts inF_X8 hown hK.1 hP 0 rfl rfl 26 (by decide) lk_f48 (fun _ h9 => h9) rfl dX8_least_53 ?_
          refine lv_iload_n hx hb dX8_least_56 rfl (lv_at hl 3 rfl) ?_
          refine ra_ild hx hb hK hP 4 rfl dX8_least_57 ⟨by omega, by omega⟩ (by omega) ?_
          refine zr_I hx hb hr hlk hQ (cn1_31, ch1_31) hP hD hS dX8_least_58 (Nat.le_of_ble_eq_true rfl) (Nat.le_of_ble_eq_true rfl) ?_
          show lsR w b nn x o (ch1_31 o)
          unfold lsR
          first
          | exact Or.inl ⟨by omega, rfl⟩
          | (refine Or.inr ⟨by omega, ?_⟩
             rcases q31 with q9 | q9
             · first
               | (exfalso; omega)
               | exact Or.inl ⟨_, _, q9.2.1, q9.2.2, (if_pos (by omega)).symm⟩
               | exact Or.inl ⟨_, _, q9.2.1, q9.2.2, (if_neg (by omega)).symm⟩
             · first | exact Or.inr ⟨q9.2, rfl⟩ | (exfalso; omega))
        · skip
          refine lv_iload_n hx hb dX8_least_48 rfl (lv_at hl 0 rfl) ?_
          refine lv_goto (tgt := 58) hx hb dX8_least_49 (by decide) ?_
          refine zr_I hx hb hr hlk hQ (cn1_31, ch1_31) hP hD hS dX8_least_58 (Nat.le_of_ble_eq_true rfl) (Nat.le_of_ble_eq_true rfl) ?_
          show lsR w b nn x o z31
          unfold lsR
          first
          | exact Or.inl ⟨by omega, rfl⟩
          | (refine Or.inr ⟨by omega, ?_⟩
             rcases q31 with q9 | q9
             · first
               | (exfalso; omega)
               | exact Or.inl ⟨_, _, q9.2.1, q9.2.2, (if_pos (by omega)).symm⟩
               | exact Or.inl ⟨_, _, q9.2.1, q9.2.2, (if_neg (by omega)).symm⟩
             · first | exact Or.inr ⟨q9.2, rfl⟩ | (exfalso; omega))
      · skip
        refine lv_bipush (v := Int32.ofInt (-9)) hx hb dX8_least_39 (by decide) ?_
        refine lv_goto (tgt := 58) hx hb dX8_least_41 (by decide) ?_
        refine zr_I hx hb hr hlk hQ (cn1_31, ch1_31) hP hD hS dX8_least_58 (Nat.le_of_ble_eq_true rfl) (Nat.le_of_ble_eq_true rfl) ?_
        show lsR w b nn x o (-9)
        unfold lsR
        first
        | exact Or.inl ⟨by omega, rfl⟩
        | (refine Or.inr ⟨by omega, ?_⟩
           rcases q31 with q9 | q9
           · first
             | (exfalso; omega)
             | exact Or.inl ⟨_, _, q9.2.1, q9.2.2, (if_pos (by omega)).symm⟩
             | exact Or.inl ⟨_, _, q9.2.1, q9.2.2, (if_neg (by omega)).symm⟩
           · first | exact Or.inr ⟨q9.2, rfl⟩ | (exfalso; omega))
    · skip
      refine lv_iconst (v := Int32.ofInt (-1)) hx hb dX8_least_26 rfl ?_
      refine zr_I hx hb hr hlk hQ (cn, ch) hP hD hS dX8_least_27 (Nat.le_of_ble_eq_true rfl) (Nat.le_of_ble_eq_true rfl) ?_
      show lsR w b nn x o (-1)
      unfold lsR
      first
      | exact Or.inl ⟨by omega, rfl⟩
      | (refine Or.inr ⟨by omega, ?_⟩
         rcases q31 with q9 | q9
         · first
           | (exfalso; omega)
           | exact Or.inl ⟨_, _, q9.2.1, q9.2.2, (if_pos (by omega)).symm⟩
           | exact Or.inl ⟨_, _, q9.2.1, q9.2.2, (if_neg (by omega)).symm⟩
         · first | exact Or.inr ⟨q9.2, rfl⟩ | (exfalso; omega))
