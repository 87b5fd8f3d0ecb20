set_option maxHeartbeats 4000000 in
set_option maxRecDepth 100000 in
theorem k_X1_asRing (l : Launch) (g : va_G) (ca : Nat → ClassId) (hz : Nat) (tr : Int) (hL : Nat) (hw : Nat) (he : Nat) (hdn : Nat) (hdw : Nat) (w : Int → Int) (du : Int) (hv : Int) (mo : Int) (oft : Int) (la : Int) (pA : Int) (pB : Int) (o : Int) (ho : 0 ≤ o ∧ o ≤ 4) : zI (S := Int) l yX1_asRing wsX1_asRing ({ frames := 0, cells := 0, slots := 0, locals := 0 } : Room) g ca [.ref hz, vI o, .ref hL] [(hz, oB 1 [vJ tr]), (hL, oB 2 [.ref hw, .ref he, .ref hdn, .ref hdw, vI du, vI hv, vI mo, vI oft, vI la, vI pA, vI pB]), (hw, aI ca 5 w)] (fun (z : Int) (u : Int) => z = w o ∧ u = tr + 1) (fun (u : Int) => [(hz, oB 1 [vJ u]), (hL, oB 2 [.ref hw, .ref he, .ref hdn, .ref hdw, vI du, vI hv, vI mo, vI oft, vI la, vI pA, vI pB]), (hw, aI ca 5 w)]) 0 0 := by
  refine zm_I (cc := cX1_asRing) (maxL := 3) (ret := some .int) (by decide) rfl (Nat.le_of_ble_eq_true rfl) ?_
  intro p e s m below meth c A ls R args Q hR hargs hQ hx hb hml hr hts hown hlk hnm hK hP hD hA hS hl
  have hown : s.vm.findClass RX1 = some m.cls := hown
  have hl : lv_has ls 3 [(0, .ref hz), (1, vI o), (2, .ref hL)] := hl
  have lk_f32 : (Cond.fieldLink RX1 32 "DripRings$Kinds" "trace" "J").before args s = true := hts _ (by decide +kernel)
  have inF_X1 : ∀ w ∈ wsX10, w ∈ wsX1_asRing := by decide +kernel
  have lk_f36 : (Cond.fieldLink RX1 36 "DripRings$Law" "weights" "[I").before args s = true := hts _ (by decide +kernel)
  have inF_X2 : ∀ w ∈ wsX20, w ∈ wsX1_asRing := by decide +kernel
  refine lv_aload_n hx hb dX1_asRing_0 rfl (lv_at hl 0 rfl) ?_
  refine lv_dup hx hb dX1_asRing_1 rfl ?_
  refine va_get (D := g) (ci := 1) (v := vJ tr) (C := RX1) (T := TX1) (N := 1) hx hb hts inF_X1 hown hK.1 hP 0 rfl rfl 0 (by decide) lk_f32 (fun _ h9 => h9) rfl dX1_asRing_2 ?_
  refine lv_lconst (v := Int64.ofInt 1) hx hb dX1_asRing_5 (by decide) ?_
  refine rj_add hx hb dX1_asRing_6 (fun z6 e6 => ?_)
  refine va_put (D := g) (ci := 1) (v := vJ z6) (ty := .long) (C := RX1) (T := TX1) (N := 1) hx hb hts inF_X1 tyX1 tyX1_ok nmX1 hown hK.1 hP hD hS 0 rfl rfl 0 (by decide) lk_f32 (fun _ h9 => h9) rfl (by decide +kernel) rfl rfl (Nat.le_of_ble_eq_true rfl) dX1_asRing_7 (fun H locs hP hD hS => ?_)
  have hP : va_P g vwCl [(hz, oB 1 [vJ z6]), (hL, oB 2 [.ref hw, .ref he, .ref hdn, .ref hdw, vI du, vI hv, vI mo, vI oft, vI la, vI pA, vI pB]), (hw, aI ca 5 w)] H := hP
  have hD : va_D A [(hz, oB 1 [vJ z6]), (hL, oB 2 [.ref hw, .ref he, .ref hdn, .ref hdw, vI du, vI hv, vI mo, vI oft, vI la, vI pA, vI pB]), (hw, aI ca 5 w)] := hD
  refine lv_aload_n hx hb dX1_asRing_10 rfl (lv_at hl 2 rfl) ?_
  refine va_get (D := g) (ci := 2) (v := .ref hw) (C := RX2) (T := TX2) (N := 11) hx hb hts inF_X2 hown hK.1 hP 1 rfl rfl 0 (by decide) lk_f36 (fun _ h9 => h9) rfl dX1_asRing_11 ?_
  refine lv_iload_n hx hb dX1_asRing_14 rfl (lv_at hl 1 rfl) ?_
  refine ra_ild hx hb hK hP 2 rfl dX1_asRing_15 ⟨by omega, by omega⟩ (by omega) ?_
  refine zr_I hx hb hr hlk hQ (z6) hP hD hS dX1_asRing_16 (Nat.le_of_ble_eq_true rfl) (Nat.le_of_ble_eq_true rfl) ?_
  show (w o) = w o ∧ z6 = tr + 1
  exact ⟨rfl, e6⟩
set_option maxHeartbeats 4000000 in
set_option maxRecDepth 100000 in
theorem k_X1_asBroken (l : Launch) (g : va_G) (ca : Nat → ClassId) (hz : Nat) (tr : Int) (hL : Nat) (hw : Nat) (he : Nat) (hdn : Nat) (hdw : Nat) (w : Int → Int) (du : Int) (hv : Int) (mo : Int) (oft : Int) (la : Int) (pA : Int) (pB : Int) (o : Int) (ho : 0 ≤ o ∧ o ≤ 4) : zI (S := Int) l yX1_asBroken wsX1_asBroken ({ frames := 1, cells := 0, slots := 0, locals := 22 } : Room) g ca [.ref hz, vI o, .ref hL] [(hz, oB 1 [vJ tr]), (hL, oB 2 [.ref hw, .ref he, .ref hdn, .ref hdw, vI du, vI hv, vI mo, vI oft, vI la, vI pA, vI pB]), (hw, aI ca 5 w)] (fun (z : Int) (u : Int) => z = w o + mo ∧ u = tr + 11) (fun (u : Int) => [(hz, oB 1 [vJ u]), (hL, oB 2 [.ref hw, .ref he, .ref hdn, .ref hdw, vI du, vI hv, vI mo, vI oft, vI la, vI pA, vI pB]), (hw, aI ca 5 w)]) 0 0 := by
  refine zm_I (cc := cX1_asBroken) (maxL := 3) (ret := some .int) (by decide) rfl (Nat.le_of_ble_eq_true rfl) ?_
  intro p e s m below meth c A ls R args Q hR hargs hQ hx hb hml hr hts hown hlk hnm hK hP hD hA hS hl
  have hown : s.vm.findClass RX1 = some m.cls := hown
  have hl : lv_has ls 3 [(0, .ref hz), (1, vI o), (2, .ref hL)] := hl
  have lk_f32 : (Cond.fieldLink RX1 32 "DripRings$Kinds" "trace" "J").before args s = true := hts _ (by decide +kernel)
  have inF_X1 : ∀ w ∈ wsX10, w ∈ wsX1_asBroken := by decide +kernel
  have lk_c42 : (Cond.constantLong RX1 42 (10)).before args s = true := hts _ (by decide +kernel)
  have lk_f44 : (Cond.fieldLink RX1 44 "DripRings$Law" "more" "I").before args s = true := hts _ (by decide +kernel)
  have inF_X2 : ∀ w ∈ wsX20, w ∈ wsX1_asBroken := by decide +kernel
  refine lv_aload_n hx hb dX1_asBroken_0 rfl (lv_at hl 0 rfl) ?_
  refine lv_dup hx hb dX1_asBroken_1 rfl ?_
  refine va_get (D := g) (ci := 1) (v := vJ tr) (C := RX1) (T := TX1) (N := 1) hx hb hts inF_X1 hown hK.1 hP 0 rfl rfl 0 (by decide) lk_f32 (fun _ h9 => h9) rfl dX1_asBroken_2 ?_
  refine rj_ldc (z := 10) hx hb hown lk_c42 dX1_asBroken_5 (by decide) ?_
  refine rj_add hx hb dX1_asBroken_8 (fun z8 e8 => ?_)
  refine va_put (D := g) (ci := 1) (v := vJ z8) (ty := .long) (C := RX1) (T := TX1) (N := 1) hx hb hts inF_X1 tyX1 tyX1_ok nmX1 hown hK.1 hP hD hS 0 rfl rfl 0 (by decide) lk_f32 (fun _ h9 => h9) rfl (by decide +kernel) rfl rfl (Nat.le_of_ble_eq_true rfl) dX1_asBroken_9 (fun H locs hP hD hS => ?_)
  have hP : va_P g vwCl [(hz, oB 1 [vJ z8]), (hL, oB 2 [.ref hw, .ref he, .ref hdn, .ref hdw, vI du, vI hv, vI mo, vI oft, vI la, vI pA, vI pB]), (hw, aI ca 5 w)] H := hP
  have hD : va_D A [(hz, oB 1 [vJ z8]), (hL, oB 2 [.ref hw, .ref he, .ref hdn, .ref hdw, vI du, vI hv, vI mo, vI oft, vI la, vI pA, vI pB]), (hw, aI ca 5 w)] := hD
  refine lv_aload_n hx hb dX1_asBroken_12 rfl (lv_at hl 0 rfl) ?_
  refine lv_iload_n hx hb dX1_asBroken_13 rfl (lv_at hl 1 rfl) ?_
  refine lv_aload_n hx hb dX1_asBroken_14 rfl (lv_at hl 2 rfl) ?_
  refine zc_VI (As := [vI o, .ref hL]) (rest := []) (wc := [(hz, oB 1 [vJ z8]), (hL, oB 2 [.ref hw, .ref he, .ref hdn, .ref hdw, vI du, vI hv, vI mo, vI oft, vI la, vI pA, vI pB]), (hw, aI ca 5 w)]) (wr := []) (k_X1_asRing l g ca hz z8 hL hw he hdn hdw w du hv mo oft la pA pB o (by first | assumption | omega)) dX1_asBroken_15 (cwV 2 hts gX1_asBroken_X1_asRing rfl rfl rfl (by decide +kernel) (by rw [hR]; exact ⟨Nat.le_of_ble_eq_true rfl, Nat.le_of_ble_eq_true rfl⟩)) ⟨hx, hb, hml, hown, hts⟩ hl.1 hK hP hD hS hA 0 rfl rfl rfl [0, 1, 2] [] rfl (by decide) rfl (by decide) (by decide) rfl rfl (Nat.le_of_ble_eq_true rfl) (by rw [hR]; exact ⟨Nat.le_of_ble_eq_true rfl, Nat.le_of_ble_eq_true rfl⟩) (fun z15 u H locs q15 hP hD hS => ?_)
  obtain ⟨tr1_15, rfl⟩ : ∃ q, q = u := ⟨_, rfl⟩
  have q15 : z15 = w o ∧ tr1_15 = z8 + 1 := q15
  obtain ⟨q15_0, q15_1⟩ := q15
  have hP : va_P g vwCl [(hz, oB 1 [vJ tr1_15]), (hL, oB 2 [.ref hw, .ref he, .ref hdn, .ref hdw, vI du, vI hv, vI mo, vI oft, vI la, vI pA, vI pB]), (hw, aI ca 5 w)] H := hP.sub [0, 1, 2] rfl
  have hD : va_D A [(hz, oB 1 [vJ tr1_15]), (hL, oB 2 [.ref hw, .ref he, .ref hdn, .ref hdw, vI du, vI hv, vI mo, vI oft, vI la, vI pA, vI pB]), (hw, aI ca 5 w)] := hD.sub [0, 1, 2] (by decide) rfl
  refine lv_aload_n hx hb dX1_asBroken_18 rfl (lv_at hl 2 rfl) ?_
  refine va_get (D := g) (ci := 2) (v := vI mo) (C := RX2) (T := TX2) (N := 11) hx hb hts inF_X2 hown hK.1 hP 1 rfl rfl 6 (by decide) lk_f44 (fun _ h9 => h9) rfl dX1_asBroken_19 ?_
  refine ri_add hx hb dX1_asBroken_22 (fun z22 e22 => ?_)
  refine zr_I hx hb hr hlk hQ (tr1_15) hP hD hS dX1_asBroken_23 (Nat.le_of_ble_eq_true rfl) (Nat.le_of_ble_eq_true rfl) ?_
  show z22 = w o + mo ∧ tr1_15 = tr + 11
  omega
set_option maxHeartbeats 4000000 in
set_option maxRecDepth 100000 in
theorem k_X1_asBarren (l : Launch) (g : va_G) (ca : Nat → ClassId) (hz : Nat) (tr : Int) (hL : Nat) (hw : Nat) (he : Nat) (hdn : Nat) (hdw : Nat) (w : Int → Int) (ea : Int → Int) (du : Int) (hv : Int) (mo : Int) (oft : Int) (la : Int) (pA : Int) (pB : Int) (o : Int) (ho : 0 ≤ o ∧ o ≤ 4) : zI (S := Int) l yX1_asBarren wsX1_asBarren ({ frames := 1, cells := 0, slots := 0, locals := 22 } : Room) g ca [.ref hz, vI o, .ref hL] [(hz, oB 1 [vJ tr]), (hL, oB 2 [.ref hw, .ref he, .ref hdn, .ref hdw, vI du, vI hv, vI mo, vI oft, vI la, vI pA, vI pB]), (hw, aI ca 5 w), (he, aI ca 5 ea)] (fun (z : Int) (u : Int) => z = w o - ea o ∧ u = tr + 101) (fun (u : Int) => [(hz, oB 1 [vJ u]), (hL, oB 2 [.ref hw, .ref he, .ref hdn, .ref hdw, vI du, vI hv, vI mo, vI oft, vI la, vI pA, vI pB]), (hw, aI ca 5 w), (he, aI ca 5 ea)]) 0 0 := by
  refine zm_I (cc := cX1_asBarren) (maxL := 3) (ret := some .int) (by decide) rfl (Nat.le_of_ble_eq_true rfl) ?_
  intro p e s m below meth c A ls R args Q hR hargs hQ hx hb hml hr hts hown hlk hnm hK hP hD hA hS hl
  have hown : s.vm.findClass RX1 = some m.cls := hown
  have hl : lv_has ls 3 [(0, .ref hz), (1, vI o), (2, .ref hL)] := hl
  have lk_f32 : (Cond.fieldLink RX1 32 "DripRings$Kinds" "trace" "J").before args s = true := hts _ (by decide +kernel)
  have inF_X1 : ∀ w ∈ wsX10, w ∈ wsX1_asBarren := by decide +kernel
  have lk_c48 : (Cond.constantLong RX1 48 (100)).before args s = true := hts _ (by decide +kernel)
  have lk_f50 : (Cond.fieldLink RX1 50 "DripRings$Law" "each" "[I").before args s = true := hts _ (by decide +kernel)
  have inF_X2 : ∀ w ∈ wsX20, w ∈ wsX1_asBarren := by decide +kernel
  refine lv_aload_n hx hb dX1_asBarren_0 rfl (lv_at hl 0 rfl) ?_
  refine lv_dup hx hb dX1_asBarren_1 rfl ?_
  refine va_get (D := g) (ci := 1) (v := vJ tr) (C := RX1) (T := TX1) (N := 1) hx hb hts inF_X1 hown hK.1 hP 0 rfl rfl 0 (by decide) lk_f32 (fun _ h9 => h9) rfl dX1_asBarren_2 ?_
  refine rj_ldc (z := 100) hx hb hown lk_c48 dX1_asBarren_5 (by decide) ?_
  refine rj_add hx hb dX1_asBarren_8 (fun z8 e8 => ?_)
  refine va_put (D := g) (ci := 1) (v := vJ z8) (ty := .long) (C := RX1) (T := TX1) (N := 1) hx hb hts inF_X1 tyX1 tyX1_ok nmX1 hown hK.1 hP hD hS 0 rfl rfl 0 (by decide) lk_f32 (fun _ h9 => h9) rfl (by decide +kernel) rfl rfl (Nat.le_of_ble_eq_true rfl) dX1_asBarren_9 (fun H locs hP hD hS => ?_)
  have hP : va_P g vwCl [(hz, oB 1 [vJ z8]), (hL, oB 2 [.ref hw, .ref he, .ref hdn, .ref hdw, vI du, vI hv, vI mo, vI oft, vI la, vI pA, vI pB]), (hw, aI ca 5 w), (he, aI ca 5 ea)] H := hP
  have hD : va_D A [(hz, oB 1 [vJ z8]), (hL, oB 2 [.ref hw, .ref he, .ref hdn, .ref hdw, vI du, vI hv, vI mo, vI oft, vI la, vI pA, vI pB]), (hw, aI ca 5 w), (he, aI ca 5 ea)] := hD
  refine lv_aload_n hx hb dX1_asBarren_12 rfl (lv_at hl 0 rfl) ?_
  refine lv_iload_n hx hb dX1_asBarren_13 rfl (lv_at hl 1 rfl) ?_
  refine lv_aload_n hx hb dX1_asBarren_14 rfl (lv_at hl 2 rfl) ?_
  refine zc_VI (As := [vI o, .ref hL]) (rest := []) (wc := [(hz, oB 1 [vJ z8]), (hL, oB 2 [.ref hw, .ref he, .ref hdn, .ref hdw, vI du, vI hv, vI mo, vI oft, vI la, vI pA, vI pB]), (hw, aI ca 5 w)]) (wr := [(he, aI ca 5 ea)]) (k_X1_asRing l g ca hz z8 hL hw he hdn hdw w du hv mo oft la pA pB o (by first | assumption | omega)) dX1_asBarren_15 (cwV 2 hts gX1_asBarren_X1_asRing rfl rfl rfl (by decide +kernel) (by rw [hR]; exact ⟨Nat.le_of_ble_eq_true rfl, Nat.le_of_ble_eq_true rfl⟩)) ⟨hx, hb, hml, hown, hts⟩ hl.1 hK hP hD hS hA 0 rfl rfl rfl [0, 1, 2] [3] rfl (by decide) rfl (by decide) (by decide) rfl rfl (Nat.le_of_ble_eq_true rfl) (by rw [hR]; exact ⟨Nat.le_of_ble_eq_true rfl, Nat.le_of_ble_eq_true rfl⟩) (fun z15 u H locs q15 hP hD hS => ?_)
  obtain ⟨tr1_15, rfl⟩ : ∃ q, q = u := ⟨_, rfl⟩
  have q15 : z15 = w o ∧ tr1_15 = z8 + 1 := q15
  obtain ⟨q15_0, q15_1⟩ := q15
  have hP : va_P g vwCl [(hz, oB 1 [vJ tr1_15]), (hL, oB 2 [.ref hw, .ref he, .ref hdn, .ref hdw, vI du, vI hv, vI mo, vI oft, vI la, vI pA, vI pB]), (hw, aI ca 5 w), (he, aI ca 5 ea)] H := hP.sub [1, 2, 3, 0] rfl
  have hD : va_D A [(hz, oB 1 [vJ tr1_15]), (hL, oB 2 [.ref hw, .ref he, .ref hdn, .ref hdw, vI du, vI hv, vI mo, vI oft, vI la, vI pA, vI pB]), (hw, aI ca 5 w), (he, aI ca 5 ea)] := hD.sub [1, 2, 3, 0] (by decide) rfl
  refine lv_aload_n hx hb dX1_asBarren_18 rfl (lv_at hl 2 rfl) ?_
  refine va_get (D := g) (ci := 2) (v := .ref he) (C := RX2) (T := TX2) (N := 11) hx hb hts inF_X2 hown hK.1 hP 1 rfl rfl 1 (by decide) lk_f50 (fun _ h9 => h9) rfl dX1_asBarren_19 ?_
  refine lv_iload_n hx hb dX1_asBarren_22 rfl (lv_at hl 1 rfl) ?_
  refine ra_ild hx hb hK hP 3 rfl dX1_asBarren_23 ⟨by omega, by omega⟩ (by omega) ?_
  refine ri_sub hx hb dX1_asBarren_24 (fun z24 e24 => ?_)
  refine zr_I hx hb hr hlk hQ (tr1_15) hP hD hS dX1_asBarren_25 (Nat.le_of_ble_eq_true rfl) (Nat.le_of_ble_eq_true rfl) ?_
  show z24 = w o - ea o ∧ tr1_15 = tr + 101
  omega
set_option maxHeartbeats 4000000 in
set_option maxRecDepth 100000 in
theorem k_X1_asTwin (l : Launch) (g : va_G) (ca : Nat → ClassId) (hz : Nat) (tr : Int) (hL : Nat) (hw : Nat) (he : Nat) (hdn : Nat) (hdw : Nat) (w : Int → Int) (du : Int) (hv : Int) (mo : Int) (oft : Int) (la : Int) (pA : Int) (pB : Int) (o : Int) (ho : 0 ≤ o ∧ o ≤ 4) : zI (S := Int) l yX1_asTwin wsX1_asTwin ({ frames := 2, cells := 0, slots := 0, locals := 44 } : Room) g ca [.ref hz, vI o, .ref hL] [(hz, oB 1 [vJ tr]), (hL, oB 2 [.ref hw, .ref he, .ref hdn, .ref hdw, vI du, vI hv, vI mo, vI oft, vI la, vI pA, vI pB]), (hw, aI ca 5 w)] (fun (z : Int) (u : Int) => z = 2 * (w o + mo) ∧ u = tr + 1011) (fun (u : Int) => [(hz, oB 1 [vJ u]), (hL, oB 2 [.ref hw, .ref he, .ref hdn, .ref hdw, vI du, vI hv, vI mo, vI oft, vI la, vI pA, vI pB]), (hw, aI ca 5 w)]) 0 0 := by
  refine zm_I (cc := cX1_asTwin) (maxL := 3) (ret := some .int) (by decide) rfl (Nat.le_of_ble_eq_true rfl) ?_
  intro p e s m below meth c A ls R args Q hR hargs hQ hx hb hml hr hts hown hlk hnm hK hP hD hA hS hl
  have hown : s.vm.findClass RX1 = some m.cls := hown
  have hl : lv_has ls 3 [(0, .ref hz), (1, vI o), (2, .ref hL)] := hl
  have lk_f32 : (Cond.fieldLink RX1 32 "DripRings$Kinds" "trace" "J").before args s = true := hts _ (by decide +kernel)
  have inF_X1 : ∀ w ∈ wsX10, w ∈ wsX1_asTwin := by decide +kernel
  have lk_c53 : (Cond.constantLong RX1 53 (1000)).before args s = true := hts _ (by decide +kernel)
  refine lv_aload_n hx hb dX1_asTwin_0 rfl (lv_at hl 0 rfl) ?_
  refine lv_dup hx hb dX1_asTwin_1 rfl ?_
  refine va_get (D := g) (ci := 1) (v := vJ tr) (C := RX1) (T := TX1) (N := 1) hx hb hts inF_X1 hown hK.1 hP 0 rfl rfl 0 (by decide) lk_f32 (fun _ h9 => h9) rfl dX1_asTwin_2 ?_
  refine rj_ldc (z := 1000) hx hb hown lk_c53 dX1_asTwin_5 (by decide) ?_
  refine rj_add hx hb dX1_asTwin_8 (fun z8 e8 => ?_)
  refine va_put (D := g) (ci := 1) (v := vJ z8) (ty := .long) (C := RX1) (T := TX1) (N := 1) hx hb hts inF_X1 tyX1 tyX1_ok nmX1 hown hK.1 hP hD hS 0 rfl rfl 0 (by decide) lk_f32 (fun _ h9 => h9) rfl (by decide +kernel) rfl rfl (Nat.le_of_ble_eq_true rfl) dX1_asTwin_9 (fun H locs hP hD hS => ?_)
  have hP : va_P g vwCl [(hz, oB 1 [vJ z8]), (hL, oB 2 [.ref hw, .ref he, .ref hdn, .ref hdw, vI du, vI hv, vI mo, vI oft, vI la, vI pA, vI pB]), (hw, aI ca 5 w)] H := hP
  have hD : va_D A [(hz, oB 1 [vJ z8]), (hL, oB 2 [.ref hw, .ref he, .ref hdn, .ref hdw, vI du, vI hv, vI mo, vI oft, vI la, vI pA, vI pB]), (hw, aI ca 5 w)] := hD
  refine lv_iconst (v := Int32.ofInt 2) hx hb dX1_asTwin_12 rfl ?_
  refine lv_aload_n hx hb dX1_asTwin_13 rfl (lv_at hl 0 rfl) ?_
  refine lv_iload_n hx hb dX1_asTwin_14 rfl (lv_at hl 1 rfl) ?_
  refine lv_aload_n hx hb dX1_asTwin_15 rfl (lv_at hl 2 rfl) ?_
  refine zc_VI (As := [vI o, .ref hL]) (rest := [vI 2]) (wc := [(hz, oB 1 [vJ z8]), (hL, oB 2 [.ref hw, .ref he, .ref hdn, .ref hdw, vI du, vI hv, vI mo, vI oft, vI la, vI pA, vI pB]), (hw, aI ca 5 w)]) (wr := []) (k_X1_asBroken l g ca hz z8 hL hw he hdn hdw w du hv mo oft la pA pB o (by first | assumption | omega)) dX1_asTwin_16 (cwV 2 hts gX1_asTwin_X1_asBroken rfl rfl rfl (by decide +kernel) (by rw [hR]; exact ⟨Nat.le_of_ble_eq_true rfl, Nat.le_of_ble_eq_true rfl⟩)) ⟨hx, hb, hml, hown, hts⟩ hl.1 hK hP hD hS hA 0 rfl rfl rfl [0, 1, 2] [] rfl (by decide) rfl (by decide) (by decide) rfl rfl (Nat.le_of_ble_eq_true rfl) (by rw [hR]; exact ⟨Nat.le_of_ble_eq_true rfl, Nat.le_of_ble_eq_true rfl⟩) (fun z16 u H locs q16 hP hD hS => ?_)
  obtain ⟨tr1_16, rfl⟩ : ∃ q, q = u := ⟨_, rfl⟩
  have q16 : z16 = w o + mo ∧ tr1_16 = z8 + 11 := q16
  obtain ⟨q16_0, q16_1⟩ := q16
  have hP : va_P g vwCl [(hz, oB 1 [vJ tr1_16]), (hL, oB 2 [.ref hw, .ref he, .ref hdn, .ref hdw, vI du, vI hv, vI mo, vI oft, vI la, vI pA, vI pB]), (hw, aI ca 5 w)] H := hP.sub [0, 1, 2] rfl
  have hD : va_D A [(hz, oB 1 [vJ tr1_16]), (hL, oB 2 [.ref hw, .ref he, .ref hdn, .ref hdw, vI du, vI hv, vI mo, vI oft, vI la, vI pA, vI pB]), (hw, aI ca 5 w)] := hD.sub [0, 1, 2] (by decide) rfl
  refine ri_mul hx hb dX1_asTwin_19 (fun z19 e19 => ?_)
  refine zr_I hx hb hr hlk hQ (tr1_16) hP hD hS dX1_asTwin_20 (Nat.le_of_ble_eq_true rfl) (Nat.le_of_ble_eq_true rfl) ?_
  show z19 = 2 * (w o + mo) ∧ tr1_16 = tr + 1011
  omega
set_option maxHeartbeats 4000000 in
set_option maxRecDepth 100000 in
theorem k_X1_asDust (l : Launch) (g : va_G) (ca : Nat → ClassId) (hz : Nat) (tr : Int) (hL : Nat) (hw : Nat) (he : Nat) (hdn : Nat) (hdw : Nat) (w : Int → Int) (ea : Int → Int) (du : Int) (hv : Int) (mo : Int) (oft : Int) (la : Int) (pA : Int) (pB : Int) (o : Int) (ho : 0 ≤ o ∧ o ≤ 4) : zI (S := Int) l yX1_asDust wsX1_asDust ({ frames := 2, cells := 0, slots := 0, locals := 44 } : Room) g ca [.ref hz, vI o, .ref hL] [(hz, oB 1 [vJ tr]), (hL, oB 2 [.ref hw, .ref he, .ref hdn, .ref hdw, vI du, vI hv, vI mo, vI oft, vI la, vI pA, vI pB]), (hw, aI ca 5 w), (he, aI ca 5 ea)] (fun (z : Int) (u : Int) => z = w o - ea o + o ∧ u = tr + 10101) (fun (u : Int) => [(hz, oB 1 [vJ u]), (hL, oB 2 [.ref hw, .ref he, .ref hdn, .ref hdw, vI du, vI hv, vI mo, vI oft, vI la, vI pA, vI pB]), (hw, aI ca 5 w), (he, aI ca 5 ea)]) 0 0 := by
  refine zm_I (cc := cX1_asDust) (maxL := 3) (ret := some .int) (by decide) rfl (Nat.le_of_ble_eq_true rfl) ?_
  intro p e s m below meth c A ls R args Q hR hargs hQ hx hb hml hr hts hown hlk hnm hK hP hD hA hS hl
  have hown : s.vm.findClass RX1 = some m.cls := hown
  have hl : lv_has ls 3 [(0, .ref hz), (1, vI o), (2, .ref hL)] := hl
  have lk_f32 : (Cond.fieldLink RX1 32 "DripRings$Kinds" "trace" "J").before args s = true := hts _ (by decide +kernel)
  have inF_X1 : ∀ w ∈ wsX10, w ∈ wsX1_asDust := by decide +kernel
  have lk_c55 : (Cond.constantLong RX1 55 (10000)).before args s = true := hts _ (by decide +kernel)
  refine lv_aload_n hx hb dX1_asDust_0 rfl (lv_at hl 0 rfl) ?_
  refine lv_dup hx hb dX1_asDust_1 rfl ?_
  refine va_get (D := g) (ci := 1) (v := vJ tr) (C := RX1) (T := TX1) (N := 1) hx hb hts inF_X1 hown hK.1 hP 0 rfl rfl 0 (by decide) lk_f32 (fun _ h9 => h9) rfl dX1_asDust_2 ?_
  refine rj_ldc (z := 10000) hx hb hown lk_c55 dX1_asDust_5 (by decide) ?_
  refine rj_add hx hb dX1_asDust_8 (fun z8 e8 => ?_)
  refine va_put (D := g) (ci := 1) (v := vJ z8) (ty := .long) (C := RX1) (T := TX1) (N := 1) hx hb hts inF_X1 tyX1 tyX1_ok nmX1 hown hK.1 hP hD hS 0 rfl rfl 0 (by decide) lk_f32 (fun _ h9 => h9) rfl (by decide +kernel) rfl rfl (Nat.le_of_ble_eq_true rfl) dX1_asDust_9 (fun H locs hP hD hS => ?_)
  have hP : va_P g vwCl [(hz, oB 1 [vJ z8]), (hL, oB 2 [.ref hw, .ref he, .ref hdn, .ref hdw, vI du, vI hv, vI mo, vI oft, vI la, vI pA, vI pB]), (hw, aI ca 5 w), (he, aI ca 5 ea)] H := hP
  have hD : va_D A [(hz, oB 1 [vJ z8]), (hL, oB 2 [.ref hw, .ref he, .ref hdn, .ref hdw, vI du, vI hv, vI mo, vI oft, vI la, vI pA, vI pB]), (hw, aI ca 5 w), (he, aI ca 5 ea)] := hD
  refine lv_aload_n hx hb dX1_asDust_12 rfl (lv_at hl 0 rfl) ?_
  refine lv_iload_n hx hb dX1_asDust_13 rfl (lv_at hl 1 rfl) ?_
  refine lv_aload_n hx hb dX1_asDust_14 rfl (lv_at hl 2 rfl) ?_
  refine zc_VI (As := [vI o, .ref hL]) (rest := []) (wc := [(hz, oB 1 [vJ z8]), (hL, oB 2 [.ref hw, .ref he, .ref hdn, .ref hdw, vI du, vI hv, vI mo, vI oft, vI la, vI pA, vI pB]), (hw, aI ca 5 w), (he, aI ca 5 ea)]) (wr := []) (k_X1_asBarren l g ca hz z8 hL hw he hdn hdw w ea du hv mo oft la pA pB o (by first | assumption | omega)) dX1_asDust_15 (cwV 2 hts gX1_asDust_X1_asBarren rfl rfl rfl (by decide +kernel) (by rw [hR]; exact ⟨Nat.le_of_ble_eq_true rfl, Nat.le_of_ble_eq_true rfl⟩)) ⟨hx, hb, hml, hown, hts⟩ hl.1 hK hP hD hS hA 0 rfl rfl rfl [0, 1, 2, 3] [] rfl (by decide) rfl (by decide) (by decide) rfl rfl (Nat.le_of_ble_eq_true rfl) (by rw [hR]; exact ⟨Nat.le_of_ble_eq_true rfl, Nat.le_of_ble_eq_true rfl⟩) (fun z15 u H locs q15 hP hD hS => ?_)
  obtain ⟨tr1_15, rfl⟩ : ∃ q, q = u := ⟨_, rfl⟩
  have q15 : z15 = w o - ea o ∧ tr1_15 = z8 + 101 := q15
  obtain ⟨q15_0, q15_1⟩ := q15
  have hP : va_P g vwCl [(hz, oB 1 [vJ tr1_15]), (hL, oB 2 [.ref hw, .ref he, .ref hdn, .ref hdw, vI du, vI hv, vI mo, vI oft, vI la, vI pA, vI pB]), (hw, aI ca 5 w), (he, aI ca 5 ea)] H := hP.sub [0, 1, 2, 3] rfl
  have hD : va_D A [(hz, oB 1 [vJ tr1_15]), (hL, oB 2 [.ref hw, .ref he, .ref hdn, .ref hdw, vI du, vI hv, vI mo, vI oft, vI la, vI pA, vI pB]), (hw, aI ca 5 w), (he, aI ca 5 ea)] := hD.sub [0, 1, 2, 3] (by decide) rfl
  refine lv_iload_n hx hb dX1_asDust_18 rfl (lv_at hl 1 rfl) ?_
  refine ri_add hx hb dX1_asDust_19 (fun z19 e19 => ?_)
  refine zr_I hx hb hr hlk hQ (tr1_15) hP hD hS dX1_asDust_20 (Nat.le_of_ble_eq_true rfl) (Nat.le_of_ble_eq_true rfl) ?_
  show z19 = w o - ea o + o ∧ tr1_15 = tr + 10101
  omega
set_option maxHeartbeats 4000000 in
set_option maxRecDepth 100000 in
theorem k_X1_asPledged (l : Launch) (g : va_G) (ca : Nat → ClassId) (hz : Nat) (tr : Int) (hL : Nat) (hw : Nat) (he : Nat) (hdn : Nat) (hdw : Nat) (w : Int → Int) (du : Int) (hv : Int) (mo : Int) (oft : Int) (la : Int) (pA : Int) (pB : Int) (o : Int) (n : Int) (ho : 0 ≤ o ∧ o ≤ 4) : zI (S := Int) l yX1_asPledged wsX1_asPledged ({ frames := 1, cells := 0, slots := 0, locals := 22 } : Room) g ca [.ref hz, vI o, .ref hL, vI n] [(hz, oB 1 [vJ tr]), (hL, oB 2 [.ref hw, .ref he, .ref hdn, .ref hdw, vI du, vI hv, vI mo, vI oft, vI la, vI pA, vI pB]), (hw, aI ca 5 w)] (fun (z : Int) (u : Int) => z = w o + n ∧ u = tr + 100001) (fun (u : Int) => [(hz, oB 1 [vJ u]), (hL, oB 2 [.ref hw, .ref he, .ref hdn, .ref hdw, vI du, vI hv, vI mo, vI oft, vI la, vI pA, vI pB]), (hw, aI ca 5 w)]) 0 0 := by
  refine zm_I (cc := cX1_asPledged) (maxL := 4) (ret := some .int) (by decide) rfl (Nat.le_of_ble_eq_true rfl) ?_
  intro p e s m below meth c A ls R args Q hR hargs hQ hx hb hml hr hts hown hlk hnm hK hP hD hA hS hl
  have hown : s.vm.findClass RX1 = some m.cls := hown
  have hl : lv_has ls 4 [(0, .ref hz), (1, vI o), (2, .ref hL), (3, vI n)] := hl
  have lk_f32 : (Cond.fieldLink RX1 32 "DripRings$Kinds" "trace" "J").before args s = true := hts _ (by decide +kernel)
  have inF_X1 : ∀ w ∈ wsX10, w ∈ wsX1_asPledged := by decide +kernel
  have lk_c57 : (Cond.constantLong RX1 57 (100000)).before args s = true := hts _ (by decide +kernel)
  refine lv_aload_n hx hb dX1_asPledged_0 rfl (lv_at hl 0 rfl) ?_
  refine lv_dup hx hb dX1_asPledged_1 rfl ?_
  refine va_get (D := g) (ci := 1) (v := vJ tr) (C := RX1) (T := TX1) (N := 1) hx hb hts inF_X1 hown hK.1 hP 0 rfl rfl 0 (by decide) lk_f32 (fun _ h9 => h9) rfl dX1_asPledged_2 ?_
  refine rj_ldc (z := 100000) hx hb hown lk_c57 dX1_asPledged_5 (by decide) ?_
  refine rj_add hx hb dX1_asPledged_8 (fun z8 e8 => ?_)
  refine va_put (D := g) (ci := 1) (v := vJ z8) (ty := .long) (C := RX1) (T := TX1) (N := 1) hx hb hts inF_X1 tyX1 tyX1_ok nmX1 hown hK.1 hP hD hS 0 rfl rfl 0 (by decide) lk_f32 (fun _ h9 => h9) rfl (by decide +kernel) rfl rfl (Nat.le_of_ble_eq_true rfl) dX1_asPledged_9 (fun H locs hP hD hS => ?_)
  have hP : va_P g vwCl [(hz, oB 1 [vJ z8]), (hL, oB 2 [.ref hw, .ref he, .ref hdn, .ref hdw, vI du, vI hv, vI mo, vI oft, vI la, vI pA, vI pB]), (hw, aI ca 5 w)] H := hP
  have hD : va_D A [(hz, oB 1 [vJ z8]), (hL, oB 2 [.ref hw, .ref he, .ref hdn, .ref hdw, vI du, vI hv, vI mo, vI oft, vI la, vI pA, vI pB]), (hw, aI ca 5 w)] := hD
  refine lv_aload_n hx hb dX1_asPledged_12 rfl (lv_at hl 0 rfl) ?_
  refine lv_iload_n hx hb dX1_asPledged_13 rfl (lv_at hl 1 rfl) ?_
  refine lv_aload_n hx hb dX1_asPledged_14 rfl (lv_at hl 2 rfl) ?_
  refine zc_VI (As := [vI o, .ref hL]) (rest := []) (wc := [(hz, oB 1 [vJ z8]), (hL, oB 2 [.ref hw, .ref he, .ref hdn, .ref hdw, vI du, vI hv, vI mo, vI oft, vI la, vI pA, vI pB]), (hw, aI ca 5 w)]) (wr := []) (k_X1_asRing l g ca hz z8 hL hw he hdn hdw w du hv mo oft la pA pB o (by first | assumption | omega)) dX1_asPledged_15 (cwV 2 hts gX1_asPledged_X1_asRing rfl rfl rfl (by decide +kernel) (by rw [hR]; exact ⟨Nat.le_of_ble_eq_true rfl, Nat.le_of_ble_eq_true rfl⟩)) ⟨hx, hb, hml, hown, hts⟩ hl.1 hK hP hD hS hA 0 rfl rfl rfl [0, 1, 2] [] rfl (by decide) rfl (by decide) (by decide) rfl rfl (Nat.le_of_ble_eq_true rfl) (by rw [hR]; exact ⟨Nat.le_of_ble_eq_true rfl, Nat.le_of_ble_eq_true rfl⟩) (fun z15 u H locs q15 hP hD hS => ?_)
  obtain ⟨tr1_15, rfl⟩ : ∃ q, q = u := ⟨_, rfl⟩
  have q15 : z15 = w o ∧ tr1_15 = z8 + 1 := q15
  obtain ⟨q15_0, q15_1⟩ := q15
  have hP : va_P g vwCl [(hz, oB 1 [vJ tr1_15]), (hL, oB 2 [.ref hw, .ref he, .ref hdn, .ref hdw, vI du, vI hv, vI mo, vI oft, vI la, vI pA, vI pB]), (hw, aI ca 5 w)] H := hP.sub [0, 1, 2] rfl
  have hD : va_D A [(hz, oB 1 [vJ tr1_15]), (hL, oB 2 [.ref hw, .ref he, .ref hdn, .ref hdw, vI du, vI hv, vI mo, vI oft, vI la, vI pA, vI pB]), (hw, aI ca 5 w)] := hD.sub [0, 1, 2] (by decide) rfl
  refine lv_iload_n hx hb dX1_asPledged_18 rfl (lv_at hl 3 rfl) ?_
  refine ri_add hx hb dX1_asPledged_19 (fun z19 e19 => ?_)
  refine zr_I hx hb hr hlk hQ (tr1_15) hP hD hS dX1_asPledged_20 (Nat.le_of_ble_eq_true rfl) (Nat.le_of_ble_eq_true rfl) ?_
  show z19 = w o + n ∧ tr1_15 = tr + 100001
  omega
set_option maxHeartbeats 4000000 in
set_option maxRecDepth 100000 in
theorem k_X1_rateAs (l : Launch) (g : va_G) (ca : Nat → ClassId) (hz : Nat) (tr : Int) (hL : Nat) (hw : Nat) (he : Nat) (hdn : Nat) (hdw : Nat) (w : Int → Int) (ea : Int → Int) (du : Int) (hv : Int) (mo : Int) (oft : Int) (la : Int) (pA : Int) (pB : Int) (kd : Int) (o : Int) (n : Int) (ho : 0 ≤ o ∧ o ≤ 4) (hkd : in32 kd) : zI (S := Int) l yX1_rateAs wsX1_rateAs ({ frames := 3, cells := 0, slots := 0, locals := 66 } : Room) g ca [.ref hz, vI kd, vI o, .ref hL, vI n] [(hz, oB 1 [vJ tr]), (hL, oB 2 [.ref hw, .ref he, .ref hdn, .ref hdw, vI du, vI hv, vI mo, vI oft, vI la, vI pA, vI pB]), (hw, aI ca 5 w), (he, aI ca 5 ea)] (fun (z : Int) (u : Int) => z = rtv kd w ea mo n o ∧ u = tr + rtt kd) (fun (u : Int) => [(hz, oB 1 [vJ u]), (hL, oB 2 [.ref hw, .ref he, .ref hdn, .ref hdw, vI du, vI hv, vI mo, vI oft, vI la, vI pA, vI pB]), (hw, aI ca 5 w), (he, aI ca 5 ea)]) 0 0 := by
  refine zm_I (cc := cX1_rateAs) (maxL := 5) (ret := some .int) (by decide) rfl (Nat.le_of_ble_eq_true rfl) ?_
  intro p e s m below meth c A ls R args Q hR hargs hQ hx hb hml hr hts hown hlk hnm hK hP hD hA hS hl
  have hown : s.vm.findClass RX1 = some m.cls := hown
  have hl : lv_has ls 5 [(0, .ref hz), (1, vI kd), (2, vI o), (3, .ref hL), (4, vI n)] := hl
  have lk_c31 : (Cond.constant RX1 31 (-1000000)).before args s = true := hts _ (by decide +kernel)
  refine lv_iload_n hx hb dX1_rateAs_0 rfl (lv_at hl 1 rfl) ?_
  by_cases c1 : kd = 0
  · skip
    refine ri_to c1 ?_
    refine lv_tableIn (tgt := 40) hx hb dX1_rateAs_1 (by rw [xi_to ⟨by omega, by omega⟩]; omega) (by rw [xi_to ⟨by omega, by omega⟩]; omega) (off := 39) (by rw [xi_to ⟨by omega, by omega⟩]; rfl) (by decide) ?_
    refine lv_aload_n hx hb dX1_rateAs_40 rfl (lv_at hl 0 rfl) ?_
    refine lv_iload_n hx hb dX1_rateAs_41 rfl (lv_at hl 2 rfl) ?_
    refine lv_aload_n hx hb dX1_rateAs_42 rfl (lv_at hl 3 rfl) ?_
    refine zc_VI (As := [vI o, .ref hL]) (rest := []) (wc := [(hz, oB 1 [vJ tr]), (hL, oB 2 [.ref hw, .ref he, .ref hdn, .ref hdw, vI du, vI hv, vI mo, vI oft, vI la, vI pA, vI pB]), (hw, aI ca 5 w)]) (wr := [(he, aI ca 5 ea)]) (k_X1_asRing l g ca hz tr hL hw he hdn hdw w du hv mo oft la pA pB o (by first | assumption | omega)) dX1_rateAs_43 (cwV 2 hts gX1_rateAs_X1_asRing rfl rfl rfl (by decide +kernel) (by rw [hR]; exact ⟨Nat.le_of_ble_eq_true rfl, Nat.le_of_ble_eq_true rfl⟩)) ⟨hx, hb, hml, hown, hts⟩ hl.1 hK hP hD hS hA 0 rfl rfl rfl [0, 1, 2] [3] rfl (by decide) rfl (by decide) (by decide) rfl rfl (Nat.le_of_ble_eq_true rfl) (by rw [hR]; exact ⟨Nat.le_of_ble_eq_true rfl, Nat.le_of_ble_eq_true rfl⟩) (fun z43 u H locs q43 hP hD hS => ?_)
    obtain ⟨tr1_43, rfl⟩ : ∃ q, q = u := ⟨_, rfl⟩
    have q43 : z43 = w o ∧ tr1_43 = tr + 1 := q43
    obtain ⟨q43_0, q43_1⟩ := q43
    have hP : va_P g vwCl [(hz, oB 1 [vJ tr1_43]), (hL, oB 2 [.ref hw, .ref he, .ref hdn, .ref hdw, vI du, vI hv, vI mo, vI oft, vI la, vI pA, vI pB]), (hw, aI ca 5 w), (he, aI ca 5 ea)] H := hP.sub [1, 2, 3, 0] rfl
    have hD : va_D A [(hz, oB 1 [vJ tr1_43]), (hL, oB 2 [.ref hw, .ref he, .ref hdn, .ref hdw, vI du, vI hv, vI mo, vI oft, vI la, vI pA, vI pB]), (hw, aI ca 5 w), (he, aI ca 5 ea)] := hD.sub [1, 2, 3, 0] (by decide) rfl
    refine zr_I hx hb hr hlk hQ (tr1_43) hP hD hS dX1_rateAs_46 (Nat.le_of_ble_eq_true rfl) (Nat.le_of_ble_eq_true rfl) ?_
    show z43 = rtv kd w ea mo n o ∧ tr1_43 = tr + rtt kd
    unfold rtv rtt
    refine ⟨?_, ?_⟩ <;> (repeat' split) <;> omega
  by_cases c1_2 : kd = 1
  · skip
    refine ri_to c1_2 ?_
    refine lv_tableIn (tgt := 47) hx hb dX1_rateAs_1 (by rw [xi_to ⟨by omega, by omega⟩]; omega) (by rw [xi_to ⟨by omega, by omega⟩]; omega) (off := 46) (by rw [xi_to ⟨by omega, by omega⟩]; rfl) (by decide) ?_
    refine lv_aload_n hx hb dX1_rateAs_47 rfl (lv_at hl 0 rfl) ?_
    refine lv_iload_n hx hb dX1_rateAs_48 rfl (lv_at hl 2 rfl) ?_
    refine lv_aload_n hx hb dX1_rateAs_49 rfl (lv_at hl 3 rfl) ?_
    refine zc_VI (As := [vI o, .ref hL]) (rest := []) (wc := [(hz, oB 1 [vJ tr]), (hL, oB 2 [.ref hw, .ref he, .ref hdn, .ref hdw, vI du, vI hv, vI mo, vI oft, vI la, vI pA, vI pB]), (hw, aI ca 5 w)]) (wr := [(he, aI ca 5 ea)]) (k_X1_asBroken l g ca hz tr hL hw he hdn hdw w du hv mo oft la pA pB o (by first | assumption | omega)) dX1_rateAs_50 (cwV 2 hts gX1_rateAs_X1_asBroken rfl rfl rfl (by decide +kernel) (by rw [hR]; exact ⟨Nat.le_of_ble_eq_true rfl, Nat.le_of_ble_eq_true rfl⟩)) ⟨hx, hb, hml, hown, hts⟩ hl.1 hK hP hD hS hA 0 rfl rfl rfl [0, 1, 2] [3] rfl (by decide) rfl (by decide) (by decide) rfl rfl (Nat.le_of_ble_eq_true rfl) (by rw [hR]; exact ⟨Nat.le_of_ble_eq_true rfl, Nat.le_of_ble_eq_true rfl⟩) (fun z50 u H locs q50 hP hD hS => ?_)
    obtain ⟨tr1_50, rfl⟩ : ∃ q, q = u := ⟨_, rfl⟩
    have q50 : z50 = w o + mo ∧ tr1_50 = tr + 11 := q50
    obtain ⟨q50_0, q50_1⟩ := q50
    have hP : va_P g vwCl [(hz, oB 1 [vJ tr1_50]), (hL, oB 2 [.ref hw, .ref he, .ref hdn, .ref hdw, vI du, vI hv, vI mo, vI oft, vI la, vI pA, vI pB]), (hw, aI ca 5 w), (he, aI ca 5 ea)] H := hP.sub [1, 2, 3, 0] rfl
    have hD : va_D A [(hz, oB 1 [vJ tr1_50]), (hL, oB 2 [.ref hw, .ref he, .ref hdn, .ref hdw, vI du, vI hv, vI mo, vI oft, vI la, vI pA, vI pB]), (hw, aI ca 5 w), (he, aI ca 5 ea)] := hD.sub [1, 2, 3, 0] (by decide) rfl
    refine zr_I hx hb hr hlk hQ (tr1_50) hP hD hS dX1_rateAs_53 (Nat.le_of_ble_eq_true rfl) (Nat.le_of_ble_eq_true rfl) ?_
    show z50 = rtv kd w ea mo n o ∧ tr1_50 = tr + rtt kd
    unfold rtv rtt
    refine ⟨?_, ?_⟩ <;> (repeat' split) <;> omega
  by_cases c1_3 : kd = 2
  · skip
    refine ri_to c1_3 ?_
    refine lv_tableIn (tgt := 54) hx hb dX1_rateAs_1 (by rw [xi_to ⟨by omega, by omega⟩]; omega) (by rw [xi_to ⟨by omega, by omega⟩]; omega) (off := 53) (by rw [xi_to ⟨by omega, by omega⟩]; rfl) (by decide) ?_
    refine lv_aload_n hx hb dX1_rateAs_54 rfl (lv_at hl 0 rfl) ?_
    refine lv_iload_n hx hb dX1_rateAs_55 rfl (lv_at hl 2 rfl) ?_
    refine lv_aload_n hx hb dX1_rateAs_56 rfl (lv_at hl 3 rfl) ?_
    refine zc_VI (As := [vI o, .ref hL]) (rest := []) (wc := [(hz, oB 1 [vJ tr]), (hL, oB 2 [.ref hw, .ref he, .ref hdn, .ref hdw, vI du, vI hv, vI mo, vI oft, vI la, vI pA, vI pB]), (hw, aI ca 5 w), (he, aI ca 5 ea)]) (wr := []) (k_X1_asBarren l g ca hz tr hL hw he hdn hdw w ea du hv mo oft la pA pB o (by first | assumption | omega)) dX1_rateAs_57 (cwV 2 hts gX1_rateAs_X1_asBarren rfl rfl rfl (by decide +kernel) (by rw [hR]; exact ⟨Nat.le_of_ble_eq_true rfl, Nat.le_of_ble_eq_true rfl⟩)) ⟨hx, hb, hml, hown, hts⟩ hl.1 hK hP hD hS hA 0 rfl rfl rfl [0, 1, 2, 3] [] rfl (by decide) rfl (by decide) (by decide) rfl rfl (Nat.le_of_ble_eq_true rfl) (by rw [hR]; exact ⟨Nat.le_of_ble_eq_true rfl, Nat.le_of_ble_eq_true rfl⟩) (fun z57 u H locs q57 hP hD hS => ?_)
    obtain ⟨tr1_57, rfl⟩ : ∃ q, q = u := ⟨_, rfl⟩
    have q57 : z57 = w o - ea o ∧ tr1_57 = tr + 101 := q57
    obtain ⟨q57_0, q57_1⟩ := q57
    have hP : va_P g vwCl [(hz, oB 1 [vJ tr1_57]), (hL, oB 2 [.ref hw, .ref he, .ref hdn, .ref hdw, vI du, vI hv, vI mo, vI oft, vI la, vI pA, vI pB]), (hw, aI ca 5 w), (he, aI ca 5 ea)] H := hP.sub [0, 1, 2, 3] rfl
    have hD : va_D A [(hz, oB 1 [vJ tr1_57]), (hL, oB 2 [.ref hw, .ref he, .ref hdn, .ref hdw, vI du, vI hv, vI mo, vI oft, vI la, vI pA, vI pB]), (hw, aI ca 5 w), (he, aI ca 5 ea)] := hD.sub [0, 1, 2, 3] (by decide) rfl
    refine zr_I hx hb hr hlk hQ (tr1_57) hP hD hS dX1_rateAs_60 (Nat.le_of_ble_eq_true rfl) (Nat.le_of_ble_eq_true rfl) ?_
    show z57 = rtv kd w ea mo n o ∧ tr1_57 = tr + rtt kd
    unfold rtv rtt
    refine ⟨?_, ?_⟩ <;> (repeat' split) <;> omega
  by_cases c1_4 : kd = 3
  · skip
    refine ri_to c1_4 ?_
    refine lv_tableIn (tgt := 61) hx hb dX1_rateAs_1 (by rw [xi_to ⟨by omega, by omega⟩]; omega) (by rw [xi_to ⟨by omega, by omega⟩]; omega) (off := 60) (by rw [xi_to ⟨by omega, by omega⟩]; rfl) (by decide) ?_
    refine lv_aload_n hx hb dX1_rateAs_61 rfl (lv_at hl 0 rfl) ?_
    refine lv_iload_n hx hb dX1_rateAs_62 rfl (lv_at hl 2 rfl) ?_
    refine lv_aload_n hx hb dX1_rateAs_63 rfl (lv_at hl 3 rfl) ?_
    refine zc_VI (As := [vI o, .ref hL]) (rest := []) (wc := [(hz, oB 1 [vJ tr]), (hL, oB 2 [.ref hw, .ref he, .ref hdn, .ref hdw, vI du, vI hv, vI mo, vI oft, vI la, vI pA, vI pB]), (hw, aI ca 5 w)]) (wr := [(he, aI ca 5 ea)]) (k_X1_asTwin l g ca hz tr hL hw he hdn hdw w du hv mo oft la pA pB o (by first | assumption | omega)) dX1_rateAs_64 (cwV 2 hts gX1_rateAs_X1_asTwin rfl rfl rfl (by decide +kernel) (by rw [hR]; exact ⟨Nat.le_of_ble_eq_true rfl, Nat.le_of_ble_eq_true rfl⟩)) ⟨hx, hb, hml, hown, hts⟩ hl.1 hK hP hD hS hA 0 rfl rfl rfl [0, 1, 2] [3] rfl (by decide) rfl (by decide) (by decide) rfl rfl (Nat.le_of_ble_eq_true rfl) (by rw [hR]; exact ⟨Nat.le_of_ble_eq_true rfl, Nat.le_of_ble_eq_true rfl⟩) (fun z64 u H locs q64 hP hD hS => ?_)
    obtain ⟨tr1_64, rfl⟩ : ∃ q, q = u := ⟨_, rfl⟩
    have q64 : z64 = 2 * (w o + mo) ∧ tr1_64 = tr + 1011 := q64
    obtain ⟨q64_0, q64_1⟩ := q64
    have hP : va_P g vwCl [(hz, oB 1 [vJ tr1_64]), (hL, oB 2 [.ref hw, .ref he, .ref hdn, .ref hdw, vI du, vI hv, vI mo, vI oft, vI la, vI pA, vI pB]), (hw, aI ca 5 w), (he, aI ca 5 ea)] H := hP.sub [1, 2, 3, 0] rfl
    have hD : va_D A [(hz, oB 1 [vJ tr1_64]), (hL, oB 2 [.ref hw, .ref he, .ref hdn, .ref hdw, vI du, vI hv, vI mo, vI oft, vI la, vI pA, vI pB]), (hw, aI ca 5 w), (he, aI ca 5 ea)] := hD.sub [1, 2, 3, 0] (by decide) rfl
    refine zr_I hx hb hr hlk hQ (tr1_64) hP hD hS dX1_rateAs_67 (Nat.le_of_ble_eq_true rfl) (Nat.le_of_ble_eq_true rfl) ?_
    show z64 = rtv kd w ea mo n o ∧ tr1_64 = tr + rtt kd
    unfold rtv rtt
    refine ⟨?_, ?_⟩ <;> (repeat' split) <;> omega
  by_cases c1_5 : kd = 4
  · skip
    refine ri_to c1_5 ?_
    refine lv_tableIn (tgt := 68) hx hb dX1_rateAs_1 (by rw [xi_to ⟨by omega, by omega⟩]; omega) (by rw [xi_to ⟨by omega, by omega⟩]; omega) (off := 67) (by rw [xi_to ⟨by omega, by omega⟩]; rfl) (by decide) ?_
    refine lv_aload_n hx hb dX1_rateAs_68 rfl (lv_at hl 0 rfl) ?_
    refine lv_iload_n hx hb dX1_rateAs_69 rfl (lv_at hl 2 rfl) ?_
    refine lv_aload_n hx hb dX1_rateAs_70 rfl (lv_at hl 3 rfl) ?_
    refine zc_VI (As := [vI o, .ref hL]) (rest := []) (wc := [(hz, oB 1 [vJ tr]), (hL, oB 2 [.ref hw, .ref he, .ref hdn, .ref hdw, vI du, vI hv, vI mo, vI oft, vI la, vI pA, vI pB]), (hw, aI ca 5 w), (he, aI ca 5 ea)]) (wr := []) (k_X1_asDust l g ca hz tr hL hw he hdn hdw w ea du hv mo oft la pA pB o (by first | assumption | omega)) dX1_rateAs_71 (cwV 2 hts gX1_rateAs_X1_asDust rfl rfl rfl (by decide +kernel) (by rw [hR]; exact ⟨Nat.le_of_ble_eq_true rfl, Nat.le_of_ble_eq_true rfl⟩)) ⟨hx, hb, hml, hown, hts⟩ hl.1 hK hP hD hS hA 0 rfl rfl rfl [0, 1, 2, 3] [] rfl (by decide) rfl (by decide) (by decide) rfl rfl (Nat.le_of_ble_eq_true rfl) (by rw [hR]; exact ⟨Nat.le_of_ble_eq_true rfl, Nat.le_of_ble_eq_true rfl⟩) (fun z71 u H locs q71 hP hD hS => ?_)
    obtain ⟨tr1_71, rfl⟩ : ∃ q, q = u := ⟨_, rfl⟩
    have q71 : z71 = w o - ea o + o ∧ tr1_71 = tr + 10101 := q71
    obtain ⟨q71_0, q71_1⟩ := q71
    have hP : va_P g vwCl [(hz, oB 1 [vJ tr1_71]), (hL, oB 2 [.ref hw, .ref he, .ref hdn, .ref hdw, vI du, vI hv, vI mo, vI oft, vI la, vI pA, vI pB]), (hw, aI ca 5 w), (he, aI ca 5 ea)] H := hP.sub [0, 1, 2, 3] rfl
    have hD : va_D A [(hz, oB 1 [vJ tr1_71]), (hL, oB 2 [.ref hw, .ref he, .ref hdn, .ref hdw, vI du, vI hv, vI mo, vI oft, vI la, vI pA, vI pB]), (hw, aI ca 5 w), (he, aI ca 5 ea)] := hD.sub [0, 1, 2, 3] (by decide) rfl
    refine zr_I hx hb hr hlk hQ (tr1_71) hP hD hS dX1_rateAs_74 (Nat.le_of_ble_eq_true rfl) (Nat.le_of_ble_eq_true rfl) ?_
    show z71 = rtv kd w ea mo n o ∧ tr1_71 = tr + rtt kd
    unfold rtv rtt
    refine ⟨?_, ?_⟩ <;> (repeat' split) <;> omega
  by_cases c1_6 : kd = 5
  · skip
    refine ri_to c1_6 ?_
    refine lv_tableIn (tgt := 75) hx hb dX1_rateAs_1 (by rw [xi_to ⟨by omega, by omega⟩]; omega) (by rw [xi_to ⟨by omega, by omega⟩]; omega) (off := 74) (by rw [xi_to ⟨by omega, by omega⟩]; rfl) (by decide) ?_
    refine lv_aload_n hx hb dX1_rateAs_75 rfl (lv_at hl 0 rfl) ?_
    refine lv_iload_n hx hb dX1_rateAs_76 rfl (lv_at hl 2 rfl) ?_
    refine lv_aload_n hx hb dX1_rateAs_77 rfl (lv_at hl 3 rfl) ?_
    refine lv_iload hx hb dX1_rateAs_78 (lv_at hl 4 rfl) ?_
    refine zc_VI (As := [vI o, .ref hL, vI n]) (rest := []) (wc := [(hz, oB 1 [vJ tr]), (hL, oB 2 [.ref hw, .ref he, .ref hdn, .ref hdw, vI du, vI hv, vI mo, vI oft, vI la, vI pA, vI pB]), (hw, aI ca 5 w)]) (wr := [(he, aI ca 5 ea)]) (k_X1_asPledged l g ca hz tr hL hw he hdn hdw w du hv mo oft la pA pB o n (by first | assumption | omega)) dX1_rateAs_80 (cwV 3 hts gX1_rateAs_X1_asPledged rfl rfl rfl (by decide +kernel) (by rw [hR]; exact ⟨Nat.le_of_ble_eq_true rfl, Nat.le_of_ble_eq_true rfl⟩)) ⟨hx, hb, hml, hown, hts⟩ hl.1 hK hP hD hS hA 0 rfl rfl rfl [0, 1, 2] [3] rfl (by decide) rfl (by decide) (by decide) rfl rfl (Nat.le_of_ble_eq_true rfl) (by rw [hR]; exact ⟨Nat.le_of_ble_eq_true rfl, Nat.le_of_ble_eq_true rfl⟩) (fun z80 u H locs q80 hP hD hS => ?_)
    obtain ⟨tr1_80, rfl⟩ : ∃ q, q = u := ⟨_, rfl⟩
    have q80 : z80 = w o + n ∧ tr1_80 = tr + 100001 := q80
    obtain ⟨q80_0, q80_1⟩ := q80
    have hP : va_P g vwCl [(hz, oB 1 [vJ tr1_80]), (hL, oB 2 [.ref hw, .ref he, .ref hdn, .ref hdw, vI du, vI hv, vI mo, vI oft, vI la, vI pA, vI pB]), (hw, aI ca 5 w), (he, aI ca 5 ea)] H := hP.sub [1, 2, 3, 0] rfl
    have hD : va_D A [(hz, oB 1 [vJ tr1_80]), (hL, oB 2 [.ref hw, .ref he, .ref hdn, .ref hdw, vI du, vI hv, vI mo, vI oft, vI la, vI pA, vI pB]), (hw, aI ca 5 w), (he, aI ca 5 ea)] := hD.sub [1, 2, 3, 0] (by decide) rfl
    refine zr_I hx hb hr hlk hQ (tr1_80) hP hD hS dX1_rateAs_83 (Nat.le_of_ble_eq_true rfl) (Nat.le_of_ble_eq_true rfl) ?_
    show z80 = rtv kd w ea mo n o ∧ tr1_80 = tr + rtt kd
    unfold rtv rtt
    refine ⟨?_, ?_⟩ <;> (repeat' split) <;> omega
  refine lv_tableOut (tgt := 84) hx hb dX1_rateAs_1 (by rw [xi_to hkd]; omega) (by decide) ?_
  refine ri_ldc (z := (-1000000)) hx hb hown lk_c31 dX1_rateAs_84 (by decide) ?_
  refine zr_I hx hb hr hlk hQ (tr) hP hD hS dX1_rateAs_86 (Nat.le_of_ble_eq_true rfl) (Nat.le_of_ble_eq_true rfl) ?_
  show (-1000000) = rtv kd w ea mo n o ∧ tr = tr + rtt kd
  unfold rtv rtt
  refine ⟨?_, ?_⟩ <;> (repeat' split) <;> omega
set_option maxHeartbeats 4000000 in
set_option maxRecDepth 100000 in
theorem k_X4_canWeigh (l : Launch) (g : va_G) (ca : Nat → ClassId) (hq : Nat) (hf : Nat) (hk : Nat) (rw : Nat → Option Nat) (ra : Nat → Nat) (F : Int → Int → Int) (wt : Int) (o : Int) (s0 : Int) (hrw : ∀ k : Nat, k < 5 → rw k = some (ra k)) (hF : FRok F) (ho : -1 ≤ o ∧ o ≤ 4) (hs0 : 0 ≤ s0 ∧ s0 ≤ 298) : zI (S := Unit) l yX4_canWeigh wsX4_canWeigh ({ frames := 0, cells := 0, slots := 0, locals := 0 } : Room) g ca [.ref hq, vI o, vI s0] [(hq, oB 4 [.ref hf, .ref hk, vI wt]), (hf, aQ ca 5 rw), (ra 0, aI ca 299 (F 0)), (ra 1, aI ca 299 (F 1)), (ra 2, aI ca 299 (F 2)), (ra 3, aI ca 299 (F 3)), (ra 4, aI ca 299 (F 4))] (fun (z : Int) (u : Unit) => (z = 1 ∧ cwp F o s0) ∨ (z = 0 ∧ ¬ cwp F o s0)) (fun (u : Unit) => [(hq, oB 4 [.ref hf, .ref hk, vI wt]), (hf, aQ ca 5 rw), (ra 0, aI ca 299 (F 0)), (ra 1, aI ca 299 (F 1)), (ra 2, aI ca 299 (F 2)), (ra 3, aI ca 299 (F 3)), (ra 4, aI ca 299 (F 4))]) 0 0 := by
  refine zm_I (cc := cX4_canWeigh) (maxL := 3) (ret := some .boolean) (by decide) rfl (Nat.le_of_ble_eq_true rfl) ?_
  intro p e s m below meth c A ls R args Q hR hargs hQ hx hb hml hr hts hown hlk hnm hK hP hD hA hS hl
  have hown : s.vm.findClass RX4 = some m.cls := hown
  have hl : lv_has ls 3 [(0, .ref hq), (1, vI o), (2, vI s0)] := hl
  have lk_f13 : (Cond.fieldLink RX4 13 "DripRings$Payment" "fewest" "[[I").before args s = true := hts _ (by decide +kernel)
  have inF_X4 : ∀ w ∈ wsX40, w ∈ wsX4_canWeigh := by decide +kernel
  refine lv_iload_n hx hb dX4_canWeigh_0 rfl (lv_at hl 1 rfl) ?_
  refine ri_if_ge (tgt := 16) hx hb dX4_canWeigh_1 (by decide) ⟨by omega, by omega⟩ (fun c1 => ?_) (fun c1 => ?_)
  · skip
    refine lv_aload_n hx hb dX4_canWeigh_16 rfl (lv_at hl 0 rfl) ?_
    refine va_get (D := g) (ci := 4) (v := .ref hf) (C := RX4) (T := TX4) (N := 3) hx hb hts inF_X4 hown hK.1 hP 0 rfl rfl 0 (by decide) lk_f13 (fun _ h9 => h9) rfl dX4_canWeigh_17 ?_
    refine lv_iload_n hx hb dX4_canWeigh_20 rfl (lv_at hl 1 rfl) ?_
    refine ra_qld hx hb hK hP 1 rfl dX4_canWeigh_21 ⟨by omega, by omega⟩ (by omega) (x := ra o.toNat) (hrw o.toNat (by omega)) ?_
    refine lv_iload_n hx hb dX4_canWeigh_22 rfl (lv_at hl 2 rfl) ?_
    refine ra_ild hx hb hK hP (2 + (o).toNat) (n := 299) (f := F o) (zf_get ⟨by omega, by omega⟩) dX4_canWeigh_23 ⟨by omega, by omega⟩ (by omega) ?_
    have hF24 := hF o s0 (by omega) (by omega) (by omega) (by omega)
    refine ri_if_lt (tgt := 31) hx hb dX4_canWeigh_24 (by decide) ⟨by omega, by omega⟩ (fun c24 => ?_) (fun c24 => ?_)
    · skip
      refine lv_iconst (v := Int32.ofInt 0) hx hb dX4_canWeigh_31 rfl ?_
      refine zr_Z hx hb hr hlk hQ () hP hD hS dX4_canWeigh_32 (Nat.le_of_ble_eq_true rfl) (Nat.le_of_ble_eq_true rfl) (Or.inl rfl) ?_
      show (0 = 1 ∧ cwp F o s0) ∨ (0 = 0 ∧ ¬ cwp F o s0)
      unfold cwp
      first | (rw [if_pos (by omega)]; omega) | (rw [if_neg (by omega)]; omega)
    · skip
      refine lv_iconst (v := Int32.ofInt 1) hx hb dX4_canWeigh_27 rfl ?_
      refine lv_goto (tgt := 32) hx hb dX4_canWeigh_28 (by decide) ?_
      refine zr_Z hx hb hr hlk hQ () hP hD hS dX4_canWeigh_32 (Nat.le_of_ble_eq_true rfl) (Nat.le_of_ble_eq_true rfl) (Or.inr rfl) ?_
      show (1 = 1 ∧ cwp F o s0) ∨ (1 = 0 ∧ ¬ cwp F o s0)
      unfold cwp
      first | (rw [if_pos (by omega)]; omega) | (rw [if_neg (by omega)]; omega)
  · skip
    refine lv_iload_n hx hb dX4_canWeigh_4 rfl (lv_at hl 2 rfl) ?_
    refine ri_if_ne (tgt := 12) hx hb dX4_canWeigh_5 (by decide) ⟨by omega, by omega⟩ (fun c5 => ?_) (fun c5 => ?_)
    · skip
      refine lv_iconst (v := Int32.ofInt 0) hx hb dX4_canWeigh_12 rfl ?_
      refine lv_goto (tgt := 32) hx hb dX4_canWeigh_13 (by decide) ?_
      refine zr_Z hx hb hr hlk hQ () hP hD hS dX4_canWeigh_32 (Nat.le_of_ble_eq_true rfl) (Nat.le_of_ble_eq_true rfl) (Or.inl rfl) ?_
      show (0 = 1 ∧ cwp F o s0) ∨ (0 = 0 ∧ ¬ cwp F o s0)
      unfold cwp
      first | (rw [if_pos (by omega)]; omega) | (rw [if_neg (by omega)]; omega)
    · skip
      refine lv_iconst (v := Int32.ofInt 1) hx hb dX4_canWeigh_8 rfl ?_
      refine lv_goto (tgt := 32) hx hb dX4_canWeigh_9 (by decide) ?_
      refine zr_Z hx hb hr hlk hQ () hP hD hS dX4_canWeigh_32 (Nat.le_of_ble_eq_true rfl) (Nat.le_of_ble_eq_true rfl) (Or.inr rfl) ?_
      show (1 = 1 ∧ cwp F o s0) ∨ (1 = 0 ∧ ¬ cwp F o s0)
      unfold cwp
      first | (rw [if_pos (by omega)]; omega) | (rw [if_neg (by omega)]; omega)
