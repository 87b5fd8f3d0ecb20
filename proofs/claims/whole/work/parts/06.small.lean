set_option maxHeartbeats 4000000 in
set_option maxRecDepth 100000 in
theorem k_X2_becomeAsAtFirst (l : Launch) (g : va_G) (ca : Nat → ClassId) (hL : Nat) (hw : Nat) (he : Nat) (hdn : Nat) (hdw : Nat) (du : Int) (hv : Int) (mo : Int) (oft : Int) (la : Int) (pA : Int) (pB : Int)  : zV (S := Unit) l yX2_becomeAsAtFirst wsX2_becomeAsAtFirst ({ frames := 0, cells := 0, slots := 0, locals := 0 } : Room) g ca [.ref hL] [(hL, oB 2 [.ref hw, .ref he, .ref hdn, .ref hdw, vI du, vI hv, vI mo, vI oft, vI la, vI pA, vI pB])] (fun (u : Unit) => True) (fun (u : Unit) => [(hL, oB 2 [.ref hw, .ref he, .ref hdn, .ref hdw, vI 0, vI 81, vI 8, vI 9, vI 0, vI 1, vI 3])]) 0 0 := by
  refine zm_V (cc := cX2_becomeAsAtFirst) (maxL := 1) (ret := none) (by decide) rfl (Nat.le_of_ble_eq_true rfl) ?_
  intro p e s m below meth c A ls R args Q hR hargs hQ hx hb hml hr hts hown hlk hnm hK hP hD hA hS hl
  have hown : s.vm.findClass RX2 = some m.cls := hown
  have hl : lv_has ls 1 [(0, .ref hL)] := hl
  have lk_f30 : (Cond.fieldLink RX2 30 "DripRings$Law" "heaviest" "I").before args s = true := hts _ (by decide +kernel)
  have inF_X2 : ∀ w ∈ wsX20, w ∈ wsX2_becomeAsAtFirst := by decide +kernel
  have lk_f34 : (Cond.fieldLink RX2 34 "DripRings$Law" "more" "I").before args s = true := hts _ (by decide +kernel)
  have lk_f37 : (Cond.fieldLink RX2 37 "DripRings$Law" "often" "I").before args s = true := hts _ (by decide +kernel)
  have lk_f40 : (Cond.fieldLink RX2 40 "DripRings$Law" "later" "I").before args s = true := hts _ (by decide +kernel)
  have lk_f43 : (Cond.fieldLink RX2 43 "DripRings$Law" "partA" "I").before args s = true := hts _ (by decide +kernel)
  have lk_f46 : (Cond.fieldLink RX2 46 "DripRings$Law" "partB" "I").before args s = true := hts _ (by decide +kernel)
  have lk_f49 : (Cond.fieldLink RX2 49 "DripRings$Law" "dues" "I").before args s = true := hts _ (by decide +kernel)
  refine lv_aload_n hx hb dX2_becomeAsAtFirst_0 rfl (lv_at hl 0 rfl) ?_
  refine lv_bipush (v := Int32.ofInt 81) hx hb dX2_becomeAsAtFirst_1 (by decide) ?_
  refine va_put (D := g) (ci := 2) (v := vI 81) (ty := .int) (C := RX2) (T := TX2) (N := 11) hx hb hts inF_X2 tyX2 tyX2_ok nmX2 hown hK.1 hP hD hS 0 rfl rfl 5 (by decide) lk_f30 (fun _ h9 => h9) rfl (by decide +kernel) rfl rfl (Nat.le_of_ble_eq_true rfl) dX2_becomeAsAtFirst_3 (fun H locs hP hD hS => ?_)
  have hP : va_P g vwCl [(hL, oB 2 [.ref hw, .ref he, .ref hdn, .ref hdw, vI du, vI 81, vI mo, vI oft, vI la, vI pA, vI pB])] H := hP
  have hD : va_D A [(hL, oB 2 [.ref hw, .ref he, .ref hdn, .ref hdw, vI du, vI 81, vI mo, vI oft, vI la, vI pA, vI pB])] := hD
  refine lv_aload_n hx hb dX2_becomeAsAtFirst_6 rfl (lv_at hl 0 rfl) ?_
  refine lv_bipush (v := Int32.ofInt 8) hx hb dX2_becomeAsAtFirst_7 (by decide) ?_
  refine va_put (D := g) (ci := 2) (v := vI 8) (ty := .int) (C := RX2) (T := TX2) (N := 11) hx hb hts inF_X2 tyX2 tyX2_ok nmX2 hown hK.1 hP hD hS 0 rfl rfl 6 (by decide) lk_f34 (fun _ h9 => h9) rfl (by decide +kernel) rfl rfl (Nat.le_of_ble_eq_true rfl) dX2_becomeAsAtFirst_9 (fun H locs hP hD hS => ?_)
  have hP : va_P g vwCl [(hL, oB 2 [.ref hw, .ref he, .ref hdn, .ref hdw, vI du, vI 81, vI 8, vI oft, vI la, vI pA, vI pB])] H := hP
  have hD : va_D A [(hL, oB 2 [.ref hw, .ref he, .ref hdn, .ref hdw, vI du, vI 81, vI 8, vI oft, vI la, vI pA, vI pB])] := hD
  refine lv_aload_n hx hb dX2_becomeAsAtFirst_12 rfl (lv_at hl 0 rfl) ?_
  refine lv_bipush (v := Int32.ofInt 9) hx hb dX2_becomeAsAtFirst_13 (by decide) ?_
  refine va_put (D := g) (ci := 2) (v := vI 9) (ty := .int) (C := RX2) (T := TX2) (N := 11) hx hb hts inF_X2 tyX2 tyX2_ok nmX2 hown hK.1 hP hD hS 0 rfl rfl 7 (by decide) lk_f37 (fun _ h9 => h9) rfl (by decide +kernel) rfl rfl (Nat.le_of_ble_eq_true rfl) dX2_becomeAsAtFirst_15 (fun H locs hP hD hS => ?_)
  have hP : va_P g vwCl [(hL, oB 2 [.ref hw, .ref he, .ref hdn, .ref hdw, vI du, vI 81, vI 8, vI 9, vI la, vI pA, vI pB])] H := hP
  have hD : va_D A [(hL, oB 2 [.ref hw, .ref he, .ref hdn, .ref hdw, vI du, vI 81, vI 8, vI 9, vI la, vI pA, vI pB])] := hD
  refine lv_aload_n hx hb dX2_becomeAsAtFirst_18 rfl (lv_at hl 0 rfl) ?_
  refine lv_iconst (v := Int32.ofInt 0) hx hb dX2_becomeAsAtFirst_19 rfl ?_
  refine va_put (D := g) (ci := 2) (v := vI 0) (ty := .int) (C := RX2) (T := TX2) (N := 11) hx hb hts inF_X2 tyX2 tyX2_ok nmX2 hown hK.1 hP hD hS 0 rfl rfl 8 (by decide) lk_f40 (fun _ h9 => h9) rfl (by decide +kernel) rfl rfl (Nat.le_of_ble_eq_true rfl) dX2_becomeAsAtFirst_20 (fun H locs hP hD hS => ?_)
  have hP : va_P g vwCl [(hL, oB 2 [.ref hw, .ref he, .ref hdn, .ref hdw, vI du, vI 81, vI 8, vI 9, vI 0, vI pA, vI pB])] H := hP
  have hD : va_D A [(hL, oB 2 [.ref hw, .ref he, .ref hdn, .ref hdw, vI du, vI 81, vI 8, vI 9, vI 0, vI pA, vI pB])] := hD
  refine lv_aload_n hx hb dX2_becomeAsAtFirst_23 rfl (lv_at hl 0 rfl) ?_
  refine lv_iconst (v := Int32.ofInt 1) hx hb dX2_becomeAsAtFirst_24 rfl ?_
  refine va_put (D := g) (ci := 2) (v := vI 1) (ty := .int) (C := RX2) (T := TX2) (N := 11) hx hb hts inF_X2 tyX2 tyX2_ok nmX2 hown hK.1 hP hD hS 0 rfl rfl 9 (by decide) lk_f43 (fun _ h9 => h9) rfl (by decide +kernel) rfl rfl (Nat.le_of_ble_eq_true rfl) dX2_becomeAsAtFirst_25 (fun H locs hP hD hS => ?_)
  have hP : va_P g vwCl [(hL, oB 2 [.ref hw, .ref he, .ref hdn, .ref hdw, vI du, vI 81, vI 8, vI 9, vI 0, vI 1, vI pB])] H := hP
  have hD : va_D A [(hL, oB 2 [.ref hw, .ref he, .ref hdn, .ref hdw, vI du, vI 81, vI 8, vI 9, vI 0, vI 1, vI pB])] := hD
  refine lv_aload_n hx hb dX2_becomeAsAtFirst_28 rfl (lv_at hl 0 rfl) ?_
  refine lv_iconst (v := Int32.ofInt 3) hx hb dX2_becomeAsAtFirst_29 rfl ?_
  refine va_put (D := g) (ci := 2) (v := vI 3) (ty := .int) (C := RX2) (T := TX2) (N := 11) hx hb hts inF_X2 tyX2 tyX2_ok nmX2 hown hK.1 hP hD hS 0 rfl rfl 10 (by decide) lk_f46 (fun _ h9 => h9) rfl (by decide +kernel) rfl rfl (Nat.le_of_ble_eq_true rfl) dX2_becomeAsAtFirst_30 (fun H locs hP hD hS => ?_)
  have hP : va_P g vwCl [(hL, oB 2 [.ref hw, .ref he, .ref hdn, .ref hdw, vI du, vI 81, vI 8, vI 9, vI 0, vI 1, vI 3])] H := hP
  have hD : va_D A [(hL, oB 2 [.ref hw, .ref he, .ref hdn, .ref hdw, vI du, vI 81, vI 8, vI 9, vI 0, vI 1, vI 3])] := hD
  refine lv_aload_n hx hb dX2_becomeAsAtFirst_33 rfl (lv_at hl 0 rfl) ?_
  refine lv_iconst (v := Int32.ofInt 0) hx hb dX2_becomeAsAtFirst_34 rfl ?_
  refine va_put (D := g) (ci := 2) (v := vI 0) (ty := .int) (C := RX2) (T := TX2) (N := 11) hx hb hts inF_X2 tyX2 tyX2_ok nmX2 hown hK.1 hP hD hS 0 rfl rfl 4 (by decide) lk_f49 (fun _ h9 => h9) rfl (by decide +kernel) rfl rfl (Nat.le_of_ble_eq_true rfl) dX2_becomeAsAtFirst_35 (fun H locs hP hD hS => ?_)
  have hP : va_P g vwCl [(hL, oB 2 [.ref hw, .ref he, .ref hdn, .ref hdw, vI 0, vI 81, vI 8, vI 9, vI 0, vI 1, vI 3])] H := hP
  have hD : va_D A [(hL, oB 2 [.ref hw, .ref he, .ref hdn, .ref hdw, vI 0, vI 81, vI 8, vI 9, vI 0, vI 1, vI 3])] := hD
  refine zr_V hx hb hr hlk hQ () hP hD hS dX2_becomeAsAtFirst_38 (Nat.le_of_ble_eq_true rfl) (Nat.le_of_ble_eq_true rfl) ?_
  show True
  first | trivial | omega | assumption
set_option maxHeartbeats 4000000 in
set_option maxRecDepth 100000 in
theorem k_X2_workOut (l : Launch) (g : va_G) (ca : Nat → ClassId) (hL : Nat) (hw : Nat) (he : Nat) (hdn : Nat) (hdw : Nat) (du : Int) (hv : Int) (mo : Int) (oft : Int) (la : Int) (pA : Int) (pB : Int) (w : Int → Int) (ea : Int → Int) (hok : LAWok hv mo oft la pA pB) : zV (S := Unit) l yX2_workOut wsX2_workOut ({ frames := 0, cells := 0, slots := 0, locals := 0 } : Room) g ca [.ref hL] [(hL, oB 2 [.ref hw, .ref he, .ref hdn, .ref hdw, vI du, vI hv, vI mo, vI oft, vI la, vI pA, vI pB]), (hw, aI ca 5 w), (he, aI ca 5 ea)] (fun (u : Unit) => True) (fun (u : Unit) => [(hL, oB 2 [.ref hw, .ref he, .ref hdn, .ref hdw, vI du, vI hv, vI mo, vI oft, vI la, vI pA, vI pB]), (hw, aI ca 5 (wf hv pA pB)), (he, aI ca 5 (ef oft la))]) 0 0 := by
  refine zm_V (cc := cX2_workOut) (maxL := 3) (ret := none) (by decide) rfl (Nat.le_of_ble_eq_true rfl) ?_
  intro p e s m below meth c A ls R args Q hR hargs hQ hx hb hml hr hts hown hlk hnm hK hP hD hA hS hl
  have hown : s.vm.findClass RX2 = some m.cls := hown
  have hl : lv_has ls 3 [(0, .ref hL)] := hl
  have lk_f30 : (Cond.fieldLink RX2 30 "DripRings$Law" "heaviest" "I").before args s = true := hts _ (by decide +kernel)
  have inF_X2 : ∀ w ∈ wsX20, w ∈ wsX2_workOut := by decide +kernel
  have lk_f9 : (Cond.fieldLink RX2 9 "DripRings$Law" "weights" "[I").before args s = true := hts _ (by decide +kernel)
  have lk_f15 : (Cond.fieldLink RX2 15 "DripRings$Law" "each" "[I").before args s = true := hts _ (by decide +kernel)
  have lk_f37 : (Cond.fieldLink RX2 37 "DripRings$Law" "often" "I").before args s = true := hts _ (by decide +kernel)
  have lk_f40 : (Cond.fieldLink RX2 40 "DripRings$Law" "later" "I").before args s = true := hts _ (by decide +kernel)
  have lk_f46 : (Cond.fieldLink RX2 46 "DripRings$Law" "partB" "I").before args s = true := hts _ (by decide +kernel)
  have lk_f43 : (Cond.fieldLink RX2 43 "DripRings$Law" "partA" "I").before args s = true := hts _ (by decide +kernel)
  obtain ⟨hk1, hk2, hk3, hk4, hk5, hk6, hk7⟩ := hok
  refine lv_aload_n hx hb dX2_workOut_0 rfl (lv_at hl 0 rfl) ?_
  refine va_get (D := g) (ci := 2) (v := vI hv) (C := RX2) (T := TX2) (N := 11) hx hb hts inF_X2 hown hK.1 hP 0 rfl rfl 5 (by decide) lk_f30 (fun _ h9 => h9) rfl dX2_workOut_1 ?_
  refine lv_istore_n (lv' := [(1, vI hv), (0, .ref hL)]) hx hb dX2_workOut_4 rfl hl (by decide) rfl (fun ls hl => ?_)
  refine lv_iconst (v := Int32.ofInt 0) hx hb dX2_workOut_5 rfl ?_
  refine lv_istore_n (lv' := [(2, vI 0), (1, vI hv), (0, .ref hL)]) hx hb dX2_workOut_6 rfl hl (by decide) rfl (fun ls hl => ?_)
  have L7 : ∀ (N7 : Nat) (o : Int) (x : Int) (f : Int → Int) (e2 : Int → Int) (hi : 0 ≤ o ∧ o ≤ 5) (hx0 : x = wk hv pA pB o.toNat) (hf : ∀ j : Int, 0 ≤ j → j < o → f j = wf hv pA pB j) (he2 : ∀ j : Int, 0 ≤ j → j < o → e2 j = ef oft la j) (hμ : (5 - o).toNat < N7) (H : Heap) (locs : List Loc) (hP : va_P g vwCl [(hL, oB 2 [.ref hw, .ref he, .ref hdn, .ref hdw, vI du, vI hv, vI mo, vI oft, vI la, vI pA, vI pB]), (hw, aI ca 5 f), (he, aI ca 5 e2)] H) (hD : va_D A [(hL, oB 2 [.ref hw, .ref he, .ref hdn, .ref hdw, vI du, vI hv, vI mo, vI oft, vI la, vI pA, vI pB]), (hw, aI ca 5 f), (he, aI ca 5 e2)]) (hS : va_S A s.heap H locs) (ls : Array Slot) (hl : lv_has ls 3 [(2, vI o), (1, vI x), (0, .ref hL)]), W p l e R s m args below meth c H locs 0 0 Q (F0 m 7 ls []) := by
    intro N7; induction N7 with
    | zero => intro o x f e2 hi hx0 hf he2 hμ; exact absurd hμ (Nat.not_lt_zero _)
    | succ N7 ih7 =>
      intro o x f e2 hi hx0 hf he2 hμ H locs hP hD hS ls hl
      refine lv_iload_n hx hb dX2_workOut_7 rfl (lv_at hl 0 rfl) ?_
      refine lv_iconst (v := Int32.ofInt 5) hx hb dX2_workOut_8 rfl ?_
      refine ri_icmp_ge (tgt := 65) hx hb dX2_workOut_9 (by decide) ⟨by omega, by omega⟩ ⟨by omega, by omega⟩ (fun c9 => ?_) (fun c9 => ?_)
      · skip
        have hP := za_extI hP 1 rfl (wf hv pA pB) (fun j hj0 hj1 => (by exact hf j hj0 (by omega)))
        have hD := hD.set (e := aI ca 5 (wf hv pA pB)) (show ([(hL, oB 2 [.ref hw, .ref he, .ref hdn, .ref hdw, vI du, vI hv, vI mo, vI oft, vI la, vI pA, vI pB]), (hw, aI ca 5 f), (he, aI ca 5 e2)] : va_W)[1]? = some _ from rfl)
        have hP : va_P g vwCl [(hL, oB 2 [.ref hw, .ref he, .ref hdn, .ref hdw, vI du, vI hv, vI mo, vI oft, vI la, vI pA, vI pB]), (hw, aI ca 5 (wf hv pA pB)), (he, aI ca 5 e2)] H := hP
        have hD : va_D A [(hL, oB 2 [.ref hw, .ref he, .ref hdn, .ref hdw, vI du, vI hv, vI mo, vI oft, vI la, vI pA, vI pB]), (hw, aI ca 5 (wf hv pA pB)), (he, aI ca 5 e2)] := hD
        have hP := za_extI hP 2 rfl (ef oft la) (fun j hj0 hj1 => (by exact he2 j hj0 (by omega)))
        have hD := hD.set (e := aI ca 5 (ef oft la)) (show ([(hL, oB 2 [.ref hw, .ref he, .ref hdn, .ref hdw, vI du, vI hv, vI mo, vI oft, vI la, vI pA, vI pB]), (hw, aI ca 5 (wf hv pA pB)), (he, aI ca 5 e2)] : va_W)[2]? = some _ from rfl)
        have hP : va_P g vwCl [(hL, oB 2 [.ref hw, .ref he, .ref hdn, .ref hdw, vI du, vI hv, vI mo, vI oft, vI la, vI pA, vI pB]), (hw, aI ca 5 (wf hv pA pB)), (he, aI ca 5 (ef oft la))] H := hP
        have hD : va_D A [(hL, oB 2 [.ref hw, .ref he, .ref hdn, .ref hdw, vI du, vI hv, vI mo, vI oft, vI la, vI pA, vI pB]), (hw, aI ca 5 (wf hv pA pB)), (he, aI ca 5 (ef oft la))] := hD
        refine zr_V hx hb hr hlk hQ () hP hD hS dX2_workOut_65 (Nat.le_of_ble_eq_true rfl) (Nat.le_of_ble_eq_true rfl) ?_
        show True
        trivial
      · skip
        refine lv_aload_n hx hb dX2_workOut_12 rfl (lv_at hl 2 rfl) ?_
        refine va_get (D := g) (ci := 2) (v := .ref hw) (C := RX2) (T := TX2) (N := 11) hx hb hts inF_X2 hown hK.1 hP 0 rfl rfl 0 (by decide) lk_f9 (fun _ h9 => h9) rfl dX2_workOut_13 ?_
        refine lv_iload_n hx hb dX2_workOut_16 rfl (lv_at hl 0 rfl) ?_
        refine lv_iload_n hx hb dX2_workOut_17 rfl (lv_at hl 1 rfl) ?_
        refine ra_ist hx hb hK hP hD hS 1 rfl dX2_workOut_18 ⟨by omega, by omega⟩ (by omega) (fun H locs hP hD hS => ?_)
        have hP : va_P g vwCl [(hL, oB 2 [.ref hw, .ref he, .ref hdn, .ref hdw, vI du, vI hv, vI mo, vI oft, vI la, vI pA, vI pB]), (hw, aI ca 5 (zu f o x)), (he, aI ca 5 e2)] H := hP
        have hD : va_D A [(hL, oB 2 [.ref hw, .ref he, .ref hdn, .ref hdw, vI du, vI hv, vI mo, vI oft, vI la, vI pA, vI pB]), (hw, aI ca 5 (zu f o x)), (he, aI ca 5 e2)] := hD
        refine lv_aload_n hx hb dX2_workOut_19 rfl (lv_at hl 2 rfl) ?_
        refine va_get (D := g) (ci := 2) (v := .ref he) (C := RX2) (T := TX2) (N := 11) hx hb hts inF_X2 hown hK.1 hP 0 rfl rfl 1 (by decide) lk_f15 (fun _ h9 => h9) rfl dX2_workOut_20 ?_
        refine lv_iload_n hx hb dX2_workOut_23 rfl (lv_at hl 0 rfl) ?_
        refine lv_aload_n hx hb dX2_workOut_24 rfl (lv_at hl 2 rfl) ?_
        refine va_get (D := g) (ci := 2) (v := vI oft) (C := RX2) (T := TX2) (N := 11) hx hb hts inF_X2 hown hK.1 hP 0 rfl rfl 7 (by decide) lk_f37 (fun _ h9 => h9) rfl dX2_workOut_25 ?_
        refine lv_iload_n hx hb dX2_workOut_28 rfl (lv_at hl 0 rfl) ?_
        refine lv_aload_n hx hb dX2_workOut_29 rfl (lv_at hl 2 rfl) ?_
        refine va_get (D := g) (ci := 2) (v := vI la) (C := RX2) (T := TX2) (N := 11) hx hb hts inF_X2 hown hK.1 hP 0 rfl rfl 8 (by decide) lk_f40 (fun _ h9 => h9) rfl dX2_workOut_30 ?_
        refine ri_mul hx hb dX2_workOut_33 (fun z33 e33 => ?_)
        refine ri_add hx hb dX2_workOut_34 (fun z34 e34 => ?_)
        refine ra_ist hx hb hK hP hD hS 2 rfl dX2_workOut_35 ⟨by omega, by omega⟩ (by omega) (fun H locs hP hD hS => ?_)
        have hP : va_P g vwCl [(hL, oB 2 [.ref hw, .ref he, .ref hdn, .ref hdw, vI du, vI hv, vI mo, vI oft, vI la, vI pA, vI pB]), (hw, aI ca 5 (zu f o x)), (he, aI ca 5 (zu e2 o z34))] H := hP
        have hD : va_D A [(hL, oB 2 [.ref hw, .ref he, .ref hdn, .ref hdw, vI du, vI hv, vI mo, vI oft, vI la, vI pA, vI pB]), (hw, aI ca 5 (zu f o x)), (he, aI ca 5 (zu e2 o z34))] := hD
        refine lv_aload_n hx hb dX2_workOut_36 rfl (lv_at hl 2 rfl) ?_
        refine va_get (D := g) (ci := 2) (v := vI pB) (C := RX2) (T := TX2) (N := 11) hx hb hts inF_X2 hown hK.1 hP 0 rfl rfl 10 (by decide) lk_f46 (fun _ h9 => h9) rfl dX2_workOut_37 ?_
        refine ri_if_le (tgt := 57) hx hb dX2_workOut_40 (by decide) ⟨by omega, by omega⟩ (fun c40 => ?_) (fun c40 => ?_)
        · exfalso; omega
        · skip
          have hxb := wk_bd ⟨by omega, hk1.2⟩ hk5.1 hk6 o.toNat
          rw [← hx0] at hxb
          have hmb := mul_rng hxb (⟨by omega, hk5.2⟩ : 0 ≤ pA ∧ pA ≤ 8)
          refine lv_iload_n hx hb dX2_workOut_43 rfl (lv_at hl 1 rfl) ?_
          refine lv_aload_n hx hb dX2_workOut_44 rfl (lv_at hl 2 rfl) ?_
          refine va_get (D := g) (ci := 2) (v := vI pA) (C := RX2) (T := TX2) (N := 11) hx hb hts inF_X2 hown hK.1 hP 0 rfl rfl 9 (by decide) lk_f43 (fun _ h9 => h9) rfl dX2_workOut_45 ?_
          refine ri_mul hx hb dX2_workOut_48 (fun z48 e48 => ?_)
          refine lv_aload_n hx hb dX2_workOut_49 rfl (lv_at hl 2 rfl) ?_
          refine va_get (D := g) (ci := 2) (v := vI pB) (C := RX2) (T := TX2) (N := 11) hx hb hts inF_X2 hown hK.1 hP 0 rfl rfl 10 (by decide) lk_f46 (fun _ h9 => h9) rfl dX2_workOut_50 ?_
          refine ri_div hx hb dX2_workOut_53 ⟨by omega, by omega⟩ ⟨by omega, by omega⟩ (fun z53 e53 => ?_)
          refine lv_goto (tgt := 58) hx hb dX2_workOut_54 (by decide) ?_
          refine lv_istore_n (lv' := [(1, vI z53), (2, vI o), (0, .ref hL)]) hx hb dX2_workOut_58 rfl hl (by decide) rfl (fun ls hl => ?_)
          obtain ⟨z59, e59⟩ : ∃ q : Int, q = o + 1 := ⟨_, rfl⟩
          refine ri_inc (lv' := [(2, vI z59), (1, vI z53), (0, .ref hL)]) hx hb dX2_workOut_59 hl (k := 1) rfl (by decide) z59 e59 rfl (fun ls hl => ?_)
          refine lv_goto (tgt := 7) hx hb dX2_workOut_62 (by decide) ?_
          exact ih7 z59 z53 (zu f o x) (zu e2 o z34) (by first | assumption | omega) (by rw [e59, wk_s _ _ _ (by omega), ← hx0, e53, e48]) (by
                intro j h1 h2
                rw [zu_e]
                split
                · rename_i hj
                  rw [hx0, hj]; rfl
                · exact hf j h1 (by omega)) (by
                intro j h1 h2
                rw [zu_e]
                split
                · rename_i hj
                  rw [e34, e33, hj]; rfl
                · exact he2 j h1 (by omega)) (by omega) _ _ hP hD hS ls (lv_sub hl [0, 1, 2] rfl)
  exact L7 _ 0 hv w ea (by first | assumption | omega) (by rfl) (by intro j h1 h2; omega) (by intro j h1 h2; omega) (Nat.lt_succ_self _) _ _ hP hD hS ls (lv_sub hl [0, 1, 2] rfl)
set_option maxHeartbeats 4000000 in
set_option maxRecDepth 100000 in
theorem k_X2_addDue (l : Launch) (g : va_G) (ca : Nat → ClassId) (hL : Nat) (hw : Nat) (he : Nat) (hdn : Nat) (hdw : Nat) (du : Int) (hv : Int) (mo : Int) (oft : Int) (la : Int) (pA : Int) (pB : Int) (dn : Int → Int) (dw : Int → Int) (x : Int) (y : Int) (hdu : 0 ≤ du ∧ du ≤ 6) : zV (S := Int × (Int → Int) × (Int → Int)) l yX2_addDue wsX2_addDue ({ frames := 0, cells := 0, slots := 0, locals := 0 } : Room) g ca [.ref hL, vI x, vI y] [(hL, oB 2 [.ref hw, .ref he, .ref hdn, .ref hdw, vI du, vI hv, vI mo, vI oft, vI la, vI pA, vI pB]), (hdn, aI ca 6 dn), (hdw, aI ca 6 dw)] (fun (u : Int × (Int → Int) × (Int → Int)) => (du < 6 ∧ u.1 = du + 1 ∧ u.2.1 = zu dn du x ∧ u.2.2 = zu dw du y) ∨ (du = 6 ∧ u.1 = du ∧ u.2.1 = dn ∧ u.2.2 = dw)) (fun (u : Int × (Int → Int) × (Int → Int)) => [(hL, oB 2 [.ref hw, .ref he, .ref hdn, .ref hdw, vI u.1, vI hv, vI mo, vI oft, vI la, vI pA, vI pB]), (hdn, aI ca 6 u.2.1), (hdw, aI ca 6 u.2.2)]) 0 0 := by
  refine zm_V (cc := cX2_addDue) (maxL := 3) (ret := none) (by decide) rfl (Nat.le_of_ble_eq_true rfl) ?_
  intro p e s m below meth c A ls R args Q hR hargs hQ hx hb hml hr hts hown hlk hnm hK hP hD hA hS hl
  have hown : s.vm.findClass RX2 = some m.cls := hown
  have hl : lv_has ls 3 [(0, .ref hL), (1, vI x), (2, vI y)] := hl
  have lk_f49 : (Cond.fieldLink RX2 49 "DripRings$Law" "dues" "I").before args s = true := hts _ (by decide +kernel)
  have inF_X2 : ∀ w ∈ wsX20, w ∈ wsX2_addDue := by decide +kernel
  have lk_f18 : (Cond.fieldLink RX2 18 "DripRings$Law" "dueNights" "[I").before args s = true := hts _ (by decide +kernel)
  have lk_f21 : (Cond.fieldLink RX2 21 "DripRings$Law" "dueWeights" "[I").before args s = true := hts _ (by decide +kernel)
  refine lv_aload_n hx hb dX2_addDue_0 rfl (lv_at hl 0 rfl) ?_
  refine va_get (D := g) (ci := 2) (v := vI du) (C := RX2) (T := TX2) (N := 11) hx hb hts inF_X2 hown hK.1 hP 0 rfl rfl 4 (by decide) lk_f49 (fun _ h9 => h9) rfl dX2_addDue_1 ?_
  refine lv_bipush (v := Int32.ofInt 6) hx hb dX2_addDue_4 (by decide) ?_
  refine ri_icmp_ge (tgt := 39) hx hb dX2_addDue_6 (by decide) ⟨by omega, by omega⟩ ⟨by omega, by omega⟩ (fun c6 => ?_) (fun c6 => ?_)
  · skip
    refine zr_V hx hb hr hlk hQ (du, dn, dw) hP hD hS dX2_addDue_39 (Nat.le_of_ble_eq_true rfl) (Nat.le_of_ble_eq_true rfl) ?_
    show (du < 6 ∧ du = du + 1 ∧ dn = zu dn du x ∧ dw = zu dw du y) ∨ (du = 6 ∧ du = du ∧ dn = dn ∧ dw = dw)
    first | exact Or.inl ⟨by omega, e35, rfl, rfl⟩ | exact Or.inr ⟨by omega, rfl, rfl, rfl⟩
  · skip
    refine lv_aload_n hx hb dX2_addDue_9 rfl (lv_at hl 0 rfl) ?_
    refine va_get (D := g) (ci := 2) (v := .ref hdn) (C := RX2) (T := TX2) (N := 11) hx hb hts inF_X2 hown hK.1 hP 0 rfl rfl 2 (by decide) lk_f18 (fun _ h9 => h9) rfl dX2_addDue_10 ?_
    refine lv_aload_n hx hb dX2_addDue_13 rfl (lv_at hl 0 rfl) ?_
    refine va_get (D := g) (ci := 2) (v := vI du) (C := RX2) (T := TX2) (N := 11) hx hb hts inF_X2 hown hK.1 hP 0 rfl rfl 4 (by decide) lk_f49 (fun _ h9 => h9) rfl dX2_addDue_14 ?_
    refine lv_iload_n hx hb dX2_addDue_17 rfl (lv_at hl 1 rfl) ?_
    refine ra_ist hx hb hK hP hD hS 1 rfl dX2_addDue_18 ⟨by omega, by omega⟩ (by omega) (fun H locs hP hD hS => ?_)
    have hP : va_P g vwCl [(hL, oB 2 [.ref hw, .ref he, .ref hdn, .ref hdw, vI du, vI hv, vI mo, vI oft, vI la, vI pA, vI pB]), (hdn, aI ca 6 (zu dn du x)), (hdw, aI ca 6 dw)] H := hP
    have hD : va_D A [(hL, oB 2 [.ref hw, .ref he, .ref hdn, .ref hdw, vI du, vI hv, vI mo, vI oft, vI la, vI pA, vI pB]), (hdn, aI ca 6 (zu dn du x)), (hdw, aI ca 6 dw)] := hD
    refine lv_aload_n hx hb dX2_addDue_19 rfl (lv_at hl 0 rfl) ?_
    refine va_get (D := g) (ci := 2) (v := .ref hdw) (C := RX2) (T := TX2) (N := 11) hx hb hts inF_X2 hown hK.1 hP 0 rfl rfl 3 (by decide) lk_f21 (fun _ h9 => h9) rfl dX2_addDue_20 ?_
    refine lv_aload_n hx hb dX2_addDue_23 rfl (lv_at hl 0 rfl) ?_
    refine va_get (D := g) (ci := 2) (v := vI du) (C := RX2) (T := TX2) (N := 11) hx hb hts inF_X2 hown hK.1 hP 0 rfl rfl 4 (by decide) lk_f49 (fun _ h9 => h9) rfl dX2_addDue_24 ?_
    refine lv_iload_n hx hb dX2_addDue_27 rfl (lv_at hl 2 rfl) ?_
    refine ra_ist hx hb hK hP hD hS 2 rfl dX2_addDue_28 ⟨by omega, by omega⟩ (by omega) (fun H locs hP hD hS => ?_)
    have hP : va_P g vwCl [(hL, oB 2 [.ref hw, .ref he, .ref hdn, .ref hdw, vI du, vI hv, vI mo, vI oft, vI la, vI pA, vI pB]), (hdn, aI ca 6 (zu dn du x)), (hdw, aI ca 6 (zu dw du y))] H := hP
    have hD : va_D A [(hL, oB 2 [.ref hw, .ref he, .ref hdn, .ref hdw, vI du, vI hv, vI mo, vI oft, vI la, vI pA, vI pB]), (hdn, aI ca 6 (zu dn du x)), (hdw, aI ca 6 (zu dw du y))] := hD
    refine lv_aload_n hx hb dX2_addDue_29 rfl (lv_at hl 0 rfl) ?_
    refine lv_dup hx hb dX2_addDue_30 rfl ?_
    refine va_get (D := g) (ci := 2) (v := vI du) (C := RX2) (T := TX2) (N := 11) hx hb hts inF_X2 hown hK.1 hP 0 rfl rfl 4 (by decide) lk_f49 (fun _ h9 => h9) rfl dX2_addDue_31 ?_
    refine lv_iconst (v := Int32.ofInt 1) hx hb dX2_addDue_34 rfl ?_
    refine ri_add hx hb dX2_addDue_35 (fun z35 e35 => ?_)
    refine va_put (D := g) (ci := 2) (v := vI z35) (ty := .int) (C := RX2) (T := TX2) (N := 11) hx hb hts inF_X2 tyX2 tyX2_ok nmX2 hown hK.1 hP hD hS 0 rfl rfl 4 (by decide) lk_f49 (fun _ h9 => h9) rfl (by decide +kernel) rfl rfl (Nat.le_of_ble_eq_true rfl) dX2_addDue_36 (fun H locs hP hD hS => ?_)
    have hP : va_P g vwCl [(hL, oB 2 [.ref hw, .ref he, .ref hdn, .ref hdw, vI z35, vI hv, vI mo, vI oft, vI la, vI pA, vI pB]), (hdn, aI ca 6 (zu dn du x)), (hdw, aI ca 6 (zu dw du y))] H := hP
    have hD : va_D A [(hL, oB 2 [.ref hw, .ref he, .ref hdn, .ref hdw, vI z35, vI hv, vI mo, vI oft, vI la, vI pA, vI pB]), (hdn, aI ca 6 (zu dn du x)), (hdw, aI ca 6 (zu dw du y))] := hD
    refine zr_V hx hb hr hlk hQ (z35, zu dn du x, zu dw du y) hP hD hS dX2_addDue_39 (Nat.le_of_ble_eq_true rfl) (Nat.le_of_ble_eq_true rfl) ?_
    show (du < 6 ∧ z35 = du + 1 ∧ (zu dn du x) = zu dn du x ∧ (zu dw du y) = zu dw du y) ∨ (du = 6 ∧ z35 = du ∧ (zu dn du x) = dn ∧ (zu dw du y) = dw)
    first | exact Or.inl ⟨by omega, e35, rfl, rfl⟩ | exact Or.inr ⟨by omega, rfl, rfl, rfl⟩
set_option maxHeartbeats 4000000 in
set_option maxRecDepth 100000 in
theorem k_X2_lastDueNight (l : Launch) (g : va_G) (ca : Nat → ClassId) (hL : Nat) (hw : Nat) (he : Nat) (hdn : Nat) (hdw : Nat) (du : Int) (hv : Int) (mo : Int) (oft : Int) (la : Int) (pA : Int) (pB : Int) (dn : Int → Int) (dw : Int → Int) (now : Int) (hD0 : DUok dn dw du) (hnow : 0 ≤ now ∧ now ≤ 120) : zI (S := Unit) l yX2_lastDueNight wsX2_lastDueNight ({ frames := 1, cells := 0, slots := 0, locals := 23 } : Room) g ca [.ref hL, vI now] [(hL, oB 2 [.ref hw, .ref he, .ref hdn, .ref hdw, vI du, vI hv, vI mo, vI oft, vI la, vI pA, vI pB]), (hdn, aI ca 6 dn)] (fun (z : Int) (u : Unit) => z = ld dn now du.toNat ∧ now ≤ z ∧ z ≤ 120) (fun (u : Unit) => [(hL, oB 2 [.ref hw, .ref he, .ref hdn, .ref hdw, vI du, vI hv, vI mo, vI oft, vI la, vI pA, vI pB]), (hdn, aI ca 6 dn)]) 0 0 := by
  refine zm_I (cc := cX2_lastDueNight) (maxL := 4) (ret := some .int) (by decide) rfl (Nat.le_of_ble_eq_true rfl) ?_
  intro p e s m below meth c A ls R args Q hR hargs hQ hx hb hml hr hts hown hlk hnm hK hP hD hA hS hl
  have hown : s.vm.findClass RX2 = some m.cls := hown
  have hl : lv_has ls 4 [(0, .ref hL), (1, vI now)] := hl
  have lk_f49 : (Cond.fieldLink RX2 49 "DripRings$Law" "dues" "I").before args s = true := hts _ (by decide +kernel)
  have inF_X2 : ∀ w ∈ wsX20, w ∈ wsX2_lastDueNight := by decide +kernel
  have lk_f18 : (Cond.fieldLink RX2 18 "DripRings$Law" "dueNights" "[I").before args s = true := hts _ (by decide +kernel)
  have lk_max52 : (Cond.methodLink RX2 52 Lib.Math.max.name).before args s = true := hts _ (by decide +kernel)
  have lk_maxs : (Cond.static Lib.Math.max.name).before args s = true := hts _ (by decide +kernel)
  have lk_mathz : (Cond.initialized "java/lang/Math").before args s = true := hts _ (by decide +kernel)
  have lk_maxc : (Cond.code Lib.Math.max.name Lib.Math.max.code 2 (some .int)).before args s = true := hts _ (by decide +kernel)
  have hdu := hD0.1
  refine lv_iload_n hx hb dX2_lastDueNight_0 rfl (lv_at hl 1 rfl) ?_
  refine lv_istore_n (lv' := [(2, vI now), (0, .ref hL), (1, vI now)]) hx hb dX2_lastDueNight_1 rfl hl (by decide) rfl (fun ls hl => ?_)
  refine lv_iconst (v := Int32.ofInt 0) hx hb dX2_lastDueNight_2 rfl ?_
  refine lv_istore_n (lv' := [(3, vI 0), (2, vI now), (0, .ref hL), (1, vI now)]) hx hb dX2_lastDueNight_3 rfl hl (by decide) rfl (fun ls hl => ?_)
  have L4 : ∀ (N4 : Nat) (i : Int) (x : Int) (hi : 0 ≤ i ∧ i ≤ du) (hx0 : x = ld dn now i.toNat) (hx1 : now ≤ x ∧ x ≤ 120) (hμ : (du - i).toNat < N4) (H : Heap) (locs : List Loc) (hP : va_P g vwCl [(hL, oB 2 [.ref hw, .ref he, .ref hdn, .ref hdw, vI du, vI hv, vI mo, vI oft, vI la, vI pA, vI pB]), (hdn, aI ca 6 dn)] H) (hD : va_D A [(hL, oB 2 [.ref hw, .ref he, .ref hdn, .ref hdw, vI du, vI hv, vI mo, vI oft, vI la, vI pA, vI pB]), (hdn, aI ca 6 dn)]) (hS : va_S A s.heap H locs) (ls : Array Slot) (hl : lv_has ls 4 [(3, vI i), (2, vI x), (0, .ref hL), (1, vI now)]), W p l e R s m args below meth c H locs 0 0 Q (F0 m 4 ls []) := by
    intro N4; induction N4 with
    | zero => intro i x hi hx0 hx1 hμ; exact absurd hμ (Nat.not_lt_zero _)
    | succ N4 ih4 =>
      intro i x hi hx0 hx1 hμ H locs hP hD hS ls hl
      refine lv_iload_n hx hb dX2_lastDueNight_4 rfl (lv_at hl 0 rfl) ?_
      refine lv_aload_n hx hb dX2_lastDueNight_5 rfl (lv_at hl 2 rfl) ?_
      refine va_get (D := g) (ci := 2) (v := vI du) (C := RX2) (T := TX2) (N := 11) hx hb hts inF_X2 hown hK.1 hP 0 rfl rfl 4 (by decide) lk_f49 (fun _ h9 => h9) rfl dX2_lastDueNight_6 ?_
      refine ri_icmp_ge (tgt := 29) hx hb dX2_lastDueNight_9 (by decide) ⟨by omega, by omega⟩ ⟨by omega, by omega⟩ (fun c9 => ?_) (fun c9 => ?_)
      · skip
        refine lv_iload_n hx hb dX2_lastDueNight_29 rfl (lv_at hl 1 rfl) ?_
        refine zr_I hx hb hr hlk hQ () hP hD hS dX2_lastDueNight_30 (Nat.le_of_ble_eq_true rfl) (Nat.le_of_ble_eq_true rfl) ?_
        show x = ld dn now du.toNat ∧ now ≤ x ∧ x ≤ 120
        exact ⟨by rw [hx0, show i = du by omega], hx1.1, hx1.2⟩
      · skip
        refine lv_iload_n hx hb dX2_lastDueNight_12 rfl (lv_at hl 1 rfl) ?_
        refine lv_aload_n hx hb dX2_lastDueNight_13 rfl (lv_at hl 2 rfl) ?_
        refine va_get (D := g) (ci := 2) (v := .ref hdn) (C := RX2) (T := TX2) (N := 11) hx hb hts inF_X2 hown hK.1 hP 0 rfl rfl 2 (by decide) lk_f18 (fun _ h9 => h9) rfl dX2_lastDueNight_14 ?_
        refine lv_iload_n hx hb dX2_lastDueNight_17 rfl (lv_at hl 0 rfl) ?_
        have hd18 := hD0.2 i (by omega) (by omega)
        refine ra_ild hx hb hK hP 1 rfl dX2_lastDueNight_18 ⟨by omega, by omega⟩ (by omega) ?_
        refine ri_max hx hb (by rw [hml]; exact hl.1.symm) hown lk_max52 lk_maxs lk_mathz lk_maxc (by rw [hR]; exact Nat.le_of_ble_eq_true rfl) (by rw [hR]; exact Nat.le_of_ble_eq_true rfl) (by rw [hR]; exact Nat.le_of_ble_eq_true rfl) (by rw [hR]; exact Nat.le_of_ble_eq_true rfl) ⟨by omega, by omega⟩ ⟨by omega, by omega⟩ dX2_lastDueNight_19 (fun z19 e19 => ?_)
        refine lv_istore_n (lv' := [(2, vI z19), (3, vI i), (0, .ref hL), (1, vI now)]) hx hb dX2_lastDueNight_22 rfl hl (by decide) rfl (fun ls hl => ?_)
        obtain ⟨z23, e23⟩ : ∃ q : Int, q = i + 1 := ⟨_, rfl⟩
        refine ri_inc (lv' := [(3, vI z23), (2, vI z19), (0, .ref hL), (1, vI now)]) hx hb dX2_lastDueNight_23 hl (k := 1) rfl (by decide) z23 e23 rfl (fun ls hl => ?_)
        refine lv_goto (tgt := 4) hx hb dX2_lastDueNight_26 (by decide) ?_
        exact ih4 z23 z19 (by first | assumption | omega) (by rw [e23, ld_s _ _ (by omega), ← hx0, e19]) (by rw [e19]; split <;> omega) (by omega) _ _ hP hD hS ls (lv_sub hl [0, 1, 2, 3] rfl)
  exact L4 _ 0 now (by first | assumption | omega) (by rfl) (by first | assumption | omega) (Nat.lt_succ_self _) _ _ hP hD hS ls (lv_sub hl [0, 1, 2, 3] rfl)
set_option maxHeartbeats 4000000 in
set_option maxRecDepth 100000 in
theorem k_X2_init (l : Launch) (g : va_G) (ca : Nat → ClassId) (hL : Nat)  : zV (S := Nat × Nat × Nat × Nat) l yX2_init wsX2_init ({ frames := 1, cells := 4, slots := 22, locals := 22 } : Room) g ca [.ref hL] [(hL, oB 2 [.null, .null, .null, .null, vI 0, vI 0, vI 0, vI 0, vI 0, vI 0, vI 0])] (fun (u : Nat × Nat × Nat × Nat) => True) (fun (u : Nat × Nat × Nat × Nat) => [(hL, oB 2 [.ref u.1, .ref u.2.1, .ref u.2.2.1, .ref u.2.2.2, vI 0, vI 81, vI 8, vI 9, vI 0, vI 1, vI 3]), (u.1, aI ca 5 (wf 81 1 3)), (u.2.1, aI ca 5 (ef 9 0)), (u.2.2.1, aI ca 6 (fun _ => 0)), (u.2.2.2, aI ca 6 (fun _ => 0))]) 4 22 := by
  refine zm_V (cc := cX2_init) (maxL := 1) (ret := none) (by decide) rfl (Nat.le_of_ble_eq_true rfl) ?_
  intro p e s m below meth c A ls R args Q hR hargs hQ hx hb hml hr hts hown hlk hnm hK hP hD hA hS hl
  have hown : s.vm.findClass RX2 = some m.cls := hown
  have hl : lv_has ls 1 [(0, .ref hL)] := hl
  have lk_oi1 : (Cond.methodLink RX2 3 objectInit).before args s = true := hts _ (by decide +kernel)
  have lk_oi2 : (Cond.instanceMethod objectInit).before args s = true := hts _ (by decide +kernel)
  have lk_oi3 : (Cond.code objectInit ⟨#[0xb1]⟩ 1 none).before args s = true := hts _ (by decide +kernel)
  have lk_aint : (Cond.arrayClass .int).before args s = true := hts _ (by decide +kernel)
  have lk_f9 : (Cond.fieldLink RX2 9 "DripRings$Law" "weights" "[I").before args s = true := hts _ (by decide +kernel)
  have inF_X2 : ∀ w ∈ wsX20, w ∈ wsX2_init := by decide +kernel
  have lk_f15 : (Cond.fieldLink RX2 15 "DripRings$Law" "each" "[I").before args s = true := hts _ (by decide +kernel)
  have lk_f18 : (Cond.fieldLink RX2 18 "DripRings$Law" "dueNights" "[I").before args s = true := hts _ (by decide +kernel)
  have lk_f21 : (Cond.fieldLink RX2 21 "DripRings$Law" "dueWeights" "[I").before args s = true := hts _ (by decide +kernel)
  refine lv_aload_n hx hb dX2_init_0 rfl (lv_at hl 0 rfl) ?_
  refine W.objInit hx hb hown lk_oi1 lk_oi2 lk_oi3 rfl (by rw [hml]; exact hl.1) rfl dX2_init_1 (by rw [hR]; exact Nat.le_of_ble_eq_true rfl) (by rw [hR]; exact Nat.le_of_ble_eq_true rfl) ?_
  refine W.eq (g2 := F0 m 4 ls []) rfl ?_
  refine lv_aload_n hx hb dX2_init_4 rfl (lv_at hl 0 rfl) ?_
  refine lv_iconst (v := Int32.ofInt 5) hx hb dX2_init_5 rfl ?_
  refine ra_newI (N := 5) hx hb lk_aint hK hP hD hS hA dX2_init_6 rfl (Nat.le_of_ble_eq_true rfl) (by rw [hR]; exact Nat.le_of_ble_eq_true rfl) (by rw [hR]; exact Nat.le_of_ble_eq_true rfl) (fun h6 H hP hD hS => ?_)
  have hP : va_P g vwCl [(hL, oB 2 [.null, .null, .null, .null, vI 0, vI 0, vI 0, vI 0, vI 0, vI 0, vI 0]), (h6, aI ca 5 (fun _ => 0))] H := hP
  have hD : va_D A [(hL, oB 2 [.null, .null, .null, .null, vI 0, vI 0, vI 0, vI 0, vI 0, vI 0, vI 0]), (h6, aI ca 5 (fun _ => 0))] := hD
  refine W.widen (k := 1) (n := 5) (Nat.le_of_ble_eq_true rfl) (Nat.le_of_ble_eq_true rfl) ?_
  refine va_putF (D := g) (ci := 2) (v := .ref h6) (ty := .array .int) (C := RX2) (T := TX2) (N := 11) hx hb hts inF_X2 tyX2 tyX2_ok nmX2 hown hK.1 hP hD hS 0 rfl rfl 0 (by decide) lk_f9 (fun _ h9 => h9) rfl hnm rfl (by decide +kernel) rfl rfl (Nat.le_of_ble_eq_true rfl) dX2_init_8 (fun H locs hP hD hS => ?_)
  have hP : va_P g vwCl [(hL, oB 2 [.ref h6, .null, .null, .null, vI 0, vI 0, vI 0, vI 0, vI 0, vI 0, vI 0]), (h6, aI ca 5 (fun _ => 0))] H := hP
  have hD : va_D A [(hL, oB 2 [.ref h6, .null, .null, .null, vI 0, vI 0, vI 0, vI 0, vI 0, vI 0, vI 0]), (h6, aI ca 5 (fun _ => 0))] := hD
  refine lv_aload_n hx hb dX2_init_11 rfl (lv_at hl 0 rfl) ?_
  refine lv_iconst (v := Int32.ofInt 5) hx hb dX2_init_12 rfl ?_
  refine ra_newI (N := 5) hx hb lk_aint hK hP hD hS hA dX2_init_13 rfl (Nat.le_of_ble_eq_true rfl) (by rw [hR]; exact Nat.le_of_ble_eq_true rfl) (by rw [hR]; exact Nat.le_of_ble_eq_true rfl) (fun h13 H hP hD hS => ?_)
  have hP : va_P g vwCl [(hL, oB 2 [.ref h6, .null, .null, .null, vI 0, vI 0, vI 0, vI 0, vI 0, vI 0, vI 0]), (h6, aI ca 5 (fun _ => 0)), (h13, aI ca 5 (fun _ => 0))] H := hP
  have hD : va_D A [(hL, oB 2 [.ref h6, .null, .null, .null, vI 0, vI 0, vI 0, vI 0, vI 0, vI 0, vI 0]), (h6, aI ca 5 (fun _ => 0)), (h13, aI ca 5 (fun _ => 0))] := hD
  refine W.widen (k := 2) (n := 10) (Nat.le_of_ble_eq_true rfl) (Nat.le_of_ble_eq_true rfl) ?_
  refine va_putF (D := g) (ci := 2) (v := .ref h13) (ty := .array .int) (C := RX2) (T := TX2) (N := 11) hx hb hts inF_X2 tyX2 tyX2_ok nmX2 hown hK.1 hP hD hS 0 rfl rfl 1 (by decide) lk_f15 (fun _ h9 => h9) rfl hnm rfl (by decide +kernel) rfl rfl (Nat.le_of_ble_eq_true rfl) dX2_init_15 (fun H locs hP hD hS => ?_)
  have hP : va_P g vwCl [(hL, oB 2 [.ref h6, .ref h13, .null, .null, vI 0, vI 0, vI 0, vI 0, vI 0, vI 0, vI 0]), (h6, aI ca 5 (fun _ => 0)), (h13, aI ca 5 (fun _ => 0))] H := hP
  have hD : va_D A [(hL, oB 2 [.ref h6, .ref h13, .null, .null, vI 0, vI 0, vI 0, vI 0, vI 0, vI 0, vI 0]), (h6, aI ca 5 (fun _ => 0)), (h13, aI ca 5 (fun _ => 0))] := hD
  refine lv_aload_n hx hb dX2_init_18 rfl (lv_at hl 0 rfl) ?_
  refine lv_bipush (v := Int32.ofInt 6) hx hb dX2_init_19 (by decide) ?_
  refine ra_newI (N := 6) hx hb lk_aint hK hP hD hS hA dX2_init_21 rfl (Nat.le_of_ble_eq_true rfl) (by rw [hR]; exact Nat.le_of_ble_eq_true rfl) (by rw [hR]; exact Nat.le_of_ble_eq_true rfl) (fun h21 H hP hD hS => ?_)
  have hP : va_P g vwCl [(hL, oB 2 [.ref h6, .ref h13, .null, .null, vI 0, vI 0, vI 0, vI 0, vI 0, vI 0, vI 0]), (h6, aI ca 5 (fun _ => 0)), (h13, aI ca 5 (fun _ => 0)), (h21, aI ca 6 (fun _ => 0))] H := hP
  have hD : va_D A [(hL, oB 2 [.ref h6, .ref h13, .null, .null, vI 0, vI 0, vI 0, vI 0, vI 0, vI 0, vI 0]), (h6, aI ca 5 (fun _ => 0)), (h13, aI ca 5 (fun _ => 0)), (h21, aI ca 6 (fun _ => 0))] := hD
  refine W.widen (k := 3) (n := 16) (Nat.le_of_ble_eq_true rfl) (Nat.le_of_ble_eq_true rfl) ?_
  refine va_putF (D := g) (ci := 2) (v := .ref h21) (ty := .array .int) (C := RX2) (T := TX2) (N := 11) hx hb hts inF_X2 tyX2 tyX2_ok nmX2 hown hK.1 hP hD hS 0 rfl rfl 2 (by decide) lk_f18 (fun _ h9 => h9) rfl hnm rfl (by decide +kernel) rfl rfl (Nat.le_of_ble_eq_true rfl) dX2_init_23 (fun H locs hP hD hS => ?_)
  have hP : va_P g vwCl [(hL, oB 2 [.ref h6, .ref h13, .ref h21, .null, vI 0, vI 0, vI 0, vI 0, vI 0, vI 0, vI 0]), (h6, aI ca 5 (fun _ => 0)), (h13, aI ca 5 (fun _ => 0)), (h21, aI ca 6 (fun _ => 0))] H := hP
  have hD : va_D A [(hL, oB 2 [.ref h6, .ref h13, .ref h21, .null, vI 0, vI 0, vI 0, vI 0, vI 0, vI 0, vI 0]), (h6, aI ca 5 (fun _ => 0)), (h13, aI ca 5 (fun _ => 0)), (h21, aI ca 6 (fun _ => 0))] := hD
  refine lv_aload_n hx hb dX2_init_26 rfl (lv_at hl 0 rfl) ?_
  refine lv_bipush (v := Int32.ofInt 6) hx hb dX2_init_27 (by decide) ?_
  refine ra_newI (N := 6) hx hb lk_aint hK hP hD hS hA dX2_init_29 rfl (Nat.le_of_ble_eq_true rfl) (by rw [hR]; exact Nat.le_of_ble_eq_true rfl) (by rw [hR]; exact Nat.le_of_ble_eq_true rfl) (fun h29 H hP hD hS => ?_)
  have hP : va_P g vwCl [(hL, oB 2 [.ref h6, .ref h13, .ref h21, .null, vI 0, vI 0, vI 0, vI 0, vI 0, vI 0, vI 0]), (h6, aI ca 5 (fun _ => 0)), (h13, aI ca 5 (fun _ => 0)), (h21, aI ca 6 (fun _ => 0)), (h29, aI ca 6 (fun _ => 0))] H := hP
  have hD : va_D A [(hL, oB 2 [.ref h6, .ref h13, .ref h21, .null, vI 0, vI 0, vI 0, vI 0, vI 0, vI 0, vI 0]), (h6, aI ca 5 (fun _ => 0)), (h13, aI ca 5 (fun _ => 0)), (h21, aI ca 6 (fun _ => 0)), (h29, aI ca 6 (fun _ => 0))] := hD
  refine W.widen (k := 4) (n := 22) (Nat.le_of_ble_eq_true rfl) (Nat.le_of_ble_eq_true rfl) ?_
  refine va_putF (D := g) (ci := 2) (v := .ref h29) (ty := .array .int) (C := RX2) (T := TX2) (N := 11) hx hb hts inF_X2 tyX2 tyX2_ok nmX2 hown hK.1 hP hD hS 0 rfl rfl 3 (by decide) lk_f21 (fun _ h9 => h9) rfl hnm rfl (by decide +kernel) rfl rfl (Nat.le_of_ble_eq_true rfl) dX2_init_31 (fun H locs hP hD hS => ?_)
  have hP : va_P g vwCl [(hL, oB 2 [.ref h6, .ref h13, .ref h21, .ref h29, vI 0, vI 0, vI 0, vI 0, vI 0, vI 0, vI 0]), (h6, aI ca 5 (fun _ => 0)), (h13, aI ca 5 (fun _ => 0)), (h21, aI ca 6 (fun _ => 0)), (h29, aI ca 6 (fun _ => 0))] H := hP
  have hD : va_D A [(hL, oB 2 [.ref h6, .ref h13, .ref h21, .ref h29, vI 0, vI 0, vI 0, vI 0, vI 0, vI 0, vI 0]), (h6, aI ca 5 (fun _ => 0)), (h13, aI ca 5 (fun _ => 0)), (h21, aI ca 6 (fun _ => 0)), (h29, aI ca 6 (fun _ => 0))] := hD
  refine lv_aload_n hx hb dX2_init_34 rfl (lv_at hl 0 rfl) ?_
  refine zc_VV (As := []) (rest := []) (wc := [(hL, oB 2 [.ref h6, .ref h13, .ref h21, .ref h29, vI 0, vI 0, vI 0, vI 0, vI 0, vI 0, vI 0])]) (wr := [(h6, aI ca 5 (fun _ => 0)), (h13, aI ca 5 (fun _ => 0)), (h21, aI ca 6 (fun _ => 0)), (h29, aI ca 6 (fun _ => 0))]) (k_X2_becomeAsAtFirst l g ca hL h6 h13 h21 h29 0 0 0 0 0 0 0 ) dX2_init_35 (cwV 0 hts gX2_init_X2_becomeAsAtFirst rfl rfl rfl (by decide +kernel) (by rw [hR]; exact ⟨Nat.le_of_ble_eq_true rfl, Nat.le_of_ble_eq_true rfl⟩)) ⟨hx, hb, hml, hown, hts⟩ hl.1 hK hP hD hS hA 0 rfl rfl rfl [0] [1, 2, 3, 4] rfl (by decide) rfl (by decide) (by decide) rfl rfl (Nat.le_of_ble_eq_true rfl) (by rw [hR]; exact ⟨Nat.le_of_ble_eq_true rfl, Nat.le_of_ble_eq_true rfl⟩) (fun u H locs q35 hP hD hS => ?_)
  have hP : va_P g vwCl [(hL, oB 2 [.ref h6, .ref h13, .ref h21, .ref h29, vI 0, vI 81, vI 8, vI 9, vI 0, vI 1, vI 3]), (h6, aI ca 5 (fun _ => 0)), (h13, aI ca 5 (fun _ => 0)), (h21, aI ca 6 (fun _ => 0)), (h29, aI ca 6 (fun _ => 0))] H := hP.sub [4, 0, 1, 2, 3] rfl
  have hD : va_D A [(hL, oB 2 [.ref h6, .ref h13, .ref h21, .ref h29, vI 0, vI 81, vI 8, vI 9, vI 0, vI 1, vI 3]), (h6, aI ca 5 (fun _ => 0)), (h13, aI ca 5 (fun _ => 0)), (h21, aI ca 6 (fun _ => 0)), (h29, aI ca 6 (fun _ => 0))] := hD.sub [4, 0, 1, 2, 3] (by decide) rfl
  refine lv_aload_n hx hb dX2_init_38 rfl (lv_at hl 0 rfl) ?_
  refine zc_VV (As := []) (rest := []) (wc := [(hL, oB 2 [.ref h6, .ref h13, .ref h21, .ref h29, vI 0, vI 81, vI 8, vI 9, vI 0, vI 1, vI 3]), (h6, aI ca 5 (fun _ => 0)), (h13, aI ca 5 (fun _ => 0))]) (wr := [(h21, aI ca 6 (fun _ => 0)), (h29, aI ca 6 (fun _ => 0))]) (k_X2_workOut l g ca hL h6 h13 h21 h29 0 81 8 9 0 1 3 (fun _ => 0) (fun _ => 0) (by unfold LAWok; decide)) dX2_init_39 (cwV 0 hts gX2_init_X2_workOut rfl rfl rfl (by decide +kernel) (by rw [hR]; exact ⟨Nat.le_of_ble_eq_true rfl, Nat.le_of_ble_eq_true rfl⟩)) ⟨hx, hb, hml, hown, hts⟩ hl.1 hK hP hD hS hA 0 rfl rfl rfl [0, 1, 2] [3, 4] rfl (by decide) rfl (by decide) (by decide) rfl rfl (Nat.le_of_ble_eq_true rfl) (by rw [hR]; exact ⟨Nat.le_of_ble_eq_true rfl, Nat.le_of_ble_eq_true rfl⟩) (fun u H locs q39 hP hD hS => ?_)
  have hP : va_P g vwCl [(hL, oB 2 [.ref h6, .ref h13, .ref h21, .ref h29, vI 0, vI 81, vI 8, vI 9, vI 0, vI 1, vI 3]), (h6, aI ca 5 (wf 81 1 3)), (h13, aI ca 5 (ef 9 0)), (h21, aI ca 6 (fun _ => 0)), (h29, aI ca 6 (fun _ => 0))] H := hP.sub [2, 3, 4, 0, 1] rfl
  have hD : va_D A [(hL, oB 2 [.ref h6, .ref h13, .ref h21, .ref h29, vI 0, vI 81, vI 8, vI 9, vI 0, vI 1, vI 3]), (h6, aI ca 5 (wf 81 1 3)), (h13, aI ca 5 (ef 9 0)), (h21, aI ca 6 (fun _ => 0)), (h29, aI ca 6 (fun _ => 0))] := hD.sub [2, 3, 4, 0, 1] (by decide) rfl
  refine zr_V hx hb hr hlk hQ (h6, h13, h21, h29) hP hD hS dX2_init_42 (Nat.le_of_ble_eq_true rfl) (Nat.le_of_ble_eq_true rfl) ?_
  show True
  first | trivial | omega | assumption
set_option maxHeartbeats 4000000 in
set_option maxRecDepth 100000 in
theorem k_X6_init (l : Launch) (g : va_G) (ca : Nat → ClassId) (h0 : Nat)  : zV (S := Nat) l yX6_init wsX6_init ({ frames := 2, cells := 1, slots := 605, locals := 44 } : Room) g ca [.ref h0] [(h0, oB 6 [.null, vI 0, vJ 0])] (fun (u : Nat) => True) (fun (u : Nat) => [(h0, oB 6 [.ref u, vI 0, vJ 0]), (u, aJ ca 605 (zu (fun _ => 0) 0 1))]) 1 605 := by
  refine zm_V (cc := cX6_init) (maxL := 1) (ret := none) (by decide) rfl (Nat.le_of_ble_eq_true rfl) ?_
  intro p e s m below meth c A ls R args Q hR hargs hQ hx hb hml hr hts hown hlk hnm hK hP hD hA hS hl
  have hown : s.vm.findClass RX6 = some m.cls := hown
  have hl : lv_has ls 1 [(0, .ref h0)] := hl
  have lk_oi1 : (Cond.methodLink RX6 3 objectInit).before args s = true := hts _ (by decide +kernel)
  have lk_oi2 : (Cond.instanceMethod objectInit).before args s = true := hts _ (by decide +kernel)
  have lk_oi3 : (Cond.code objectInit ⟨#[0xb1]⟩ 1 none).before args s = true := hts _ (by decide +kernel)
  have lk_along : (Cond.arrayClass .long).before args s = true := hts _ (by decide +kernel)
  have lk_f9 : (Cond.fieldLink RX6 9 "DripRings$Rings" "born" "[J").before args s = true := hts _ (by decide +kernel)
  have inF_X6 : ∀ w ∈ wsX60, w ∈ wsX6_init := by decide +kernel
  refine lv_aload_n hx hb dX6_init_0 rfl (lv_at hl 0 rfl) ?_
  refine W.objInit hx hb hown lk_oi1 lk_oi2 lk_oi3 rfl (by rw [hml]; exact hl.1) rfl dX6_init_1 (by rw [hR]; exact Nat.le_of_ble_eq_true rfl) (by rw [hR]; exact Nat.le_of_ble_eq_true rfl) ?_
  refine W.eq (g2 := F0 m 4 ls []) rfl ?_
  refine lv_aload_n hx hb dX6_init_4 rfl (lv_at hl 0 rfl) ?_
  refine lv_sipush (v := Int32.ofInt 605) hx hb dX6_init_5 (by decide) ?_
  refine ra_newJ (N := 605) hx hb lk_along hK hP hD hS hA dX6_init_8 rfl (Nat.le_of_ble_eq_true rfl) (by rw [hR]; exact Nat.le_of_ble_eq_true rfl) (by rw [hR]; exact Nat.le_of_ble_eq_true rfl) (fun h8 H hP hD hS => ?_)
  have hP : va_P g vwCl [(h0, oB 6 [.null, vI 0, vJ 0]), (h8, aJ ca 605 (fun _ => 0))] H := hP
  have hD : va_D A [(h0, oB 6 [.null, vI 0, vJ 0]), (h8, aJ ca 605 (fun _ => 0))] := hD
  refine W.widen (k := 1) (n := 605) (Nat.le_of_ble_eq_true rfl) (Nat.le_of_ble_eq_true rfl) ?_
  refine va_putF (D := g) (ci := 6) (v := .ref h8) (ty := .array .long) (C := RX6) (T := TX6) (N := 3) hx hb hts inF_X6 tyX6 tyX6_ok nmX6 hown hK.1 hP hD hS 0 rfl rfl 0 (by decide) lk_f9 (fun _ h9 => h9) rfl hnm rfl (by decide +kernel) rfl rfl (Nat.le_of_ble_eq_true rfl) dX6_init_10 (fun H locs hP hD hS => ?_)
  have hP : va_P g vwCl [(h0, oB 6 [.ref h8, vI 0, vJ 0]), (h8, aJ ca 605 (fun _ => 0))] H := hP
  have hD : va_D A [(h0, oB 6 [.ref h8, vI 0, vJ 0]), (h8, aJ ca 605 (fun _ => 0))] := hD
  refine lv_aload_n hx hb dX6_init_13 rfl (lv_at hl 0 rfl) ?_
  refine zc_VV (As := []) (rest := []) (wc := [(h0, oB 6 [.ref h8, vI 0, vJ 0]), (h8, aJ ca 605 (fun _ => 0))]) (wr := []) (k_X6_startAnew l g ca h0 h8 (fun _ => 0) 0 0 ) dX6_init_14 (cwV 0 hts gX6_init_X6_startAnew rfl rfl rfl (by decide +kernel) (by rw [hR]; exact ⟨Nat.le_of_ble_eq_true rfl, Nat.le_of_ble_eq_true rfl⟩)) ⟨hx, hb, hml, hown, hts⟩ hl.1 hK hP hD hS hA 0 rfl rfl rfl [0, 1] [] rfl (by decide) rfl (by decide) (by decide) rfl rfl (Nat.le_of_ble_eq_true rfl) (by rw [hR]; exact ⟨Nat.le_of_ble_eq_true rfl, Nat.le_of_ble_eq_true rfl⟩) (fun u H locs q14 hP hD hS => ?_)
  have hP : va_P g vwCl [(h0, oB 6 [.ref h8, vI 0, vJ 0]), (h8, aJ ca 605 (zu (fun _ => 0) 0 1))] H := hP.sub [0, 1] rfl
  have hD : va_D A [(h0, oB 6 [.ref h8, vI 0, vJ 0]), (h8, aJ ca 605 (zu (fun _ => 0) 0 1))] := hD.sub [0, 1] (by decide) rfl
  refine zr_V hx hb hr hlk hQ (h8) hP hD hS dX6_init_17 (Nat.le_of_ble_eq_true rfl) (Nat.le_of_ble_eq_true rfl) ?_
  show True
  first | trivial | omega | assumption
set_option maxHeartbeats 4000000 in
set_option maxRecDepth 100000 in
theorem k_X0_init (l : Launch) (g : va_G) (ca : Nat → ClassId) (hg : Nat)  : zV (S := Nat × Nat) l yX0_init wsX0_init ({ frames := 1, cells := 2, slots := 10, locals := 12 } : Room) g ca [.ref hg] [(hg, oB 0 [.null, .null, vI 0])] (fun (u : Nat × Nat) => True) (fun (u : Nat × Nat) => [(hg, oB 0 [.ref u.1, .ref u.2, vI 0]), (u.1, aI ca 5 (fun _ => 0)), (u.2, aI ca 5 (fun _ => 0))]) 2 10 := by
  refine zm_V (cc := cX0_init) (maxL := 1) (ret := none) (by decide) rfl (Nat.le_of_ble_eq_true rfl) ?_
  intro p e s m below meth c A ls R args Q hR hargs hQ hx hb hml hr hts hown hlk hnm hK hP hD hA hS hl
  have hown : s.vm.findClass RX0 = some m.cls := hown
  have hl : lv_has ls 1 [(0, .ref hg)] := hl
  have lk_oi1 : (Cond.methodLink RX0 1 objectInit).before args s = true := hts _ (by decide +kernel)
  have lk_oi2 : (Cond.instanceMethod objectInit).before args s = true := hts _ (by decide +kernel)
  have lk_oi3 : (Cond.code objectInit ⟨#[0xb1]⟩ 1 none).before args s = true := hts _ (by decide +kernel)
  have lk_aint : (Cond.arrayClass .int).before args s = true := hts _ (by decide +kernel)
  have lk_f9 : (Cond.fieldLink RX0 9 "DripRings$Grave" "orders" "[I").before args s = true := hts _ (by decide +kernel)
  have inF_X0 : ∀ w ∈ wsX00, w ∈ wsX0_init := by decide +kernel
  have lk_f13 : (Cond.fieldLink RX0 13 "DripRings$Grave" "numbers" "[I").before args s = true := hts _ (by decide +kernel)
  refine lv_aload_n hx hb dX0_init_0 rfl (lv_at hl 0 rfl) ?_
  refine W.objInit hx hb hown lk_oi1 lk_oi2 lk_oi3 rfl (by rw [hml]; exact hl.1) rfl dX0_init_1 (by rw [hR]; exact Nat.le_of_ble_eq_true rfl) (by rw [hR]; exact Nat.le_of_ble_eq_true rfl) ?_
  refine W.eq (g2 := F0 m 4 ls []) rfl ?_
  refine lv_aload_n hx hb dX0_init_4 rfl (lv_at hl 0 rfl) ?_
  refine lv_iconst (v := Int32.ofInt 5) hx hb dX0_init_5 rfl ?_
  refine ra_newI (N := 5) hx hb lk_aint hK hP hD hS hA dX0_init_6 rfl (Nat.le_of_ble_eq_true rfl) (by rw [hR]; exact Nat.le_of_ble_eq_true rfl) (by rw [hR]; exact Nat.le_of_ble_eq_true rfl) (fun h6 H hP hD hS => ?_)
  have hP : va_P g vwCl [(hg, oB 0 [.null, .null, vI 0]), (h6, aI ca 5 (fun _ => 0))] H := hP
  have hD : va_D A [(hg, oB 0 [.null, .null, vI 0]), (h6, aI ca 5 (fun _ => 0))] := hD
  refine W.widen (k := 1) (n := 5) (Nat.le_of_ble_eq_true rfl) (Nat.le_of_ble_eq_true rfl) ?_
  refine va_putF (D := g) (ci := 0) (v := .ref h6) (ty := .array .int) (C := RX0) (T := TX0) (N := 3) hx hb hts inF_X0 tyX0 tyX0_ok nmX0 hown hK.1 hP hD hS 0 rfl rfl 0 (by decide) lk_f9 (fun _ h9 => h9) rfl hnm rfl (by decide +kernel) rfl rfl (Nat.le_of_ble_eq_true rfl) dX0_init_8 (fun H locs hP hD hS => ?_)
  have hP : va_P g vwCl [(hg, oB 0 [.ref h6, .null, vI 0]), (h6, aI ca 5 (fun _ => 0))] H := hP
  have hD : va_D A [(hg, oB 0 [.ref h6, .null, vI 0]), (h6, aI ca 5 (fun _ => 0))] := hD
  refine lv_aload_n hx hb dX0_init_11 rfl (lv_at hl 0 rfl) ?_
  refine lv_iconst (v := Int32.ofInt 5) hx hb dX0_init_12 rfl ?_
  refine ra_newI (N := 5) hx hb lk_aint hK hP hD hS hA dX0_init_13 rfl (Nat.le_of_ble_eq_true rfl) (by rw [hR]; exact Nat.le_of_ble_eq_true rfl) (by rw [hR]; exact Nat.le_of_ble_eq_true rfl) (fun h13 H hP hD hS => ?_)
  have hP : va_P g vwCl [(hg, oB 0 [.ref h6, .null, vI 0]), (h6, aI ca 5 (fun _ => 0)), (h13, aI ca 5 (fun _ => 0))] H := hP
  have hD : va_D A [(hg, oB 0 [.ref h6, .null, vI 0]), (h6, aI ca 5 (fun _ => 0)), (h13, aI ca 5 (fun _ => 0))] := hD
  refine W.widen (k := 2) (n := 10) (Nat.le_of_ble_eq_true rfl) (Nat.le_of_ble_eq_true rfl) ?_
  refine va_putF (D := g) (ci := 0) (v := .ref h13) (ty := .array .int) (C := RX0) (T := TX0) (N := 3) hx hb hts inF_X0 tyX0 tyX0_ok nmX0 hown hK.1 hP hD hS 0 rfl rfl 1 (by decide) lk_f13 (fun _ h9 => h9) rfl hnm rfl (by decide +kernel) rfl rfl (Nat.le_of_ble_eq_true rfl) dX0_init_15 (fun H locs hP hD hS => ?_)
  have hP : va_P g vwCl [(hg, oB 0 [.ref h6, .ref h13, vI 0]), (h6, aI ca 5 (fun _ => 0)), (h13, aI ca 5 (fun _ => 0))] H := hP
  have hD : va_D A [(hg, oB 0 [.ref h6, .ref h13, vI 0]), (h6, aI ca 5 (fun _ => 0)), (h13, aI ca 5 (fun _ => 0))] := hD
  refine zr_V hx hb hr hlk hQ (h6, h13) hP hD hS dX0_init_18 (Nat.le_of_ble_eq_true rfl) (Nat.le_of_ble_eq_true rfl) ?_
  show True
  first | trivial | omega | assumption
set_option maxHeartbeats 4000000 in
set_option maxRecDepth 100000 in
theorem k_X0_add (l : Launch) (g : va_G) (ca : Nat → ClassId) (hg : Nat) (hgo : Nat) (hgn : Nat) (go : Int → Int) (gn : Int → Int) (to : Int) (x : Int) (y : Int) (hto : 0 ≤ to ∧ to ≤ 5) : zI (S := (Int → Int) × (Int → Int) × Int) l yX0_add wsX0_add ({ frames := 0, cells := 0, slots := 0, locals := 0 } : Room) g ca [.ref hg, vI x, vI y] [(hg, oB 0 [.ref hgo, .ref hgn, vI to]), (hgo, aI ca 5 go), (hgn, aI ca 5 gn)] (fun (z : Int) (u : (Int → Int) × (Int → Int) × Int) => (to < 5 ∧ z = 1 ∧ u.1 = zu go to x ∧ u.2.1 = zu gn to y ∧ u.2.2 = to + 1) ∨ (to = 5 ∧ z = 0 ∧ u.1 = go ∧ u.2.1 = gn ∧ u.2.2 = to)) (fun (u : (Int → Int) × (Int → Int) × Int) => [(hg, oB 0 [.ref hgo, .ref hgn, vI u.2.2]), (hgo, aI ca 5 u.1), (hgn, aI ca 5 u.2.1)]) 0 0 := by
  refine zm_I (cc := cX0_add) (maxL := 3) (ret := some .boolean) (by decide) rfl (Nat.le_of_ble_eq_true rfl) ?_
  intro p e s m below meth c A ls R args Q hR hargs hQ hx hb hml hr hts hown hlk hnm hK hP hD hA hS hl
  have hown : s.vm.findClass RX0 = some m.cls := hown
  have hl : lv_has ls 3 [(0, .ref hg), (1, vI x), (2, vI y)] := hl
  have lk_f16 : (Cond.fieldLink RX0 16 "DripRings$Grave" "told" "I").before args s = true := hts _ (by decide +kernel)
  have inF_X0 : ∀ w ∈ wsX00, w ∈ wsX0_add := by decide +kernel
  have lk_f9 : (Cond.fieldLink RX0 9 "DripRings$Grave" "orders" "[I").before args s = true := hts _ (by decide +kernel)
  have lk_f13 : (Cond.fieldLink RX0 13 "DripRings$Grave" "numbers" "[I").before args s = true := hts _ (by decide +kernel)
  refine lv_aload_n hx hb dX0_add_0 rfl (lv_at hl 0 rfl) ?_
  refine va_get (D := g) (ci := 0) (v := vI to) (C := RX0) (T := TX0) (N := 3) hx hb hts inF_X0 hown hK.1 hP 0 rfl rfl 2 (by decide) lk_f16 (fun _ h9 => h9) rfl dX0_add_1 ?_
  refine lv_iconst (v := Int32.ofInt 5) hx hb dX0_add_4 rfl ?_
  refine ri_icmp_lt (tgt := 10) hx hb dX0_add_5 (by decide) ⟨by omega, by omega⟩ ⟨by omega, by omega⟩ (fun c5 => ?_) (fun c5 => ?_)
  · skip
    refine lv_aload_n hx hb dX0_add_10 rfl (lv_at hl 0 rfl) ?_
    refine va_get (D := g) (ci := 0) (v := .ref hgo) (C := RX0) (T := TX0) (N := 3) hx hb hts inF_X0 hown hK.1 hP 0 rfl rfl 0 (by decide) lk_f9 (fun _ h9 => h9) rfl dX0_add_11 ?_
    refine lv_aload_n hx hb dX0_add_14 rfl (lv_at hl 0 rfl) ?_
    refine va_get (D := g) (ci := 0) (v := vI to) (C := RX0) (T := TX0) (N := 3) hx hb hts inF_X0 hown hK.1 hP 0 rfl rfl 2 (by decide) lk_f16 (fun _ h9 => h9) rfl dX0_add_15 ?_
    refine lv_iload_n hx hb dX0_add_18 rfl (lv_at hl 1 rfl) ?_
    refine ra_ist hx hb hK hP hD hS 1 rfl dX0_add_19 ⟨by omega, by omega⟩ (by omega) (fun H locs hP hD hS => ?_)
    have hP : va_P g vwCl [(hg, oB 0 [.ref hgo, .ref hgn, vI to]), (hgo, aI ca 5 (zu go to x)), (hgn, aI ca 5 gn)] H := hP
    have hD : va_D A [(hg, oB 0 [.ref hgo, .ref hgn, vI to]), (hgo, aI ca 5 (zu go to x)), (hgn, aI ca 5 gn)] := hD
    refine lv_aload_n hx hb dX0_add_20 rfl (lv_at hl 0 rfl) ?_
    refine va_get (D := g) (ci := 0) (v := .ref hgn) (C := RX0) (T := TX0) (N := 3) hx hb hts inF_X0 hown hK.1 hP 0 rfl rfl 1 (by decide) lk_f13 (fun _ h9 => h9) rfl dX0_add_21 ?_
    refine lv_aload_n hx hb dX0_add_24 rfl (lv_at hl 0 rfl) ?_
    refine va_get (D := g) (ci := 0) (v := vI to) (C := RX0) (T := TX0) (N := 3) hx hb hts inF_X0 hown hK.1 hP 0 rfl rfl 2 (by decide) lk_f16 (fun _ h9 => h9) rfl dX0_add_25 ?_
    refine lv_iload_n hx hb dX0_add_28 rfl (lv_at hl 2 rfl) ?_
    refine ra_ist hx hb hK hP hD hS 2 rfl dX0_add_29 ⟨by omega, by omega⟩ (by omega) (fun H locs hP hD hS => ?_)
    have hP : va_P g vwCl [(hg, oB 0 [.ref hgo, .ref hgn, vI to]), (hgo, aI ca 5 (zu go to x)), (hgn, aI ca 5 (zu gn to y))] H := hP
    have hD : va_D A [(hg, oB 0 [.ref hgo, .ref hgn, vI to]), (hgo, aI ca 5 (zu go to x)), (hgn, aI ca 5 (zu gn to y))] := hD
    refine lv_aload_n hx hb dX0_add_30 rfl (lv_at hl 0 rfl) ?_
    refine lv_dup hx hb dX0_add_31 rfl ?_
    refine va_get (D := g) (ci := 0) (v := vI to) (C := RX0) (T := TX0) (N := 3) hx hb hts inF_X0 hown hK.1 hP 0 rfl rfl 2 (by decide) lk_f16 (fun _ h9 => h9) rfl dX0_add_32 ?_
    refine lv_iconst (v := Int32.ofInt 1) hx hb dX0_add_35 rfl ?_
    refine ri_add hx hb dX0_add_36 (fun z36 e36 => ?_)
    refine va_put (D := g) (ci := 0) (v := vI z36) (ty := .int) (C := RX0) (T := TX0) (N := 3) hx hb hts inF_X0 tyX0 tyX0_ok nmX0 hown hK.1 hP hD hS 0 rfl rfl 2 (by decide) lk_f16 (fun _ h9 => h9) rfl (by decide +kernel) rfl rfl (Nat.le_of_ble_eq_true rfl) dX0_add_37 (fun H locs hP hD hS => ?_)
    have hP : va_P g vwCl [(hg, oB 0 [.ref hgo, .ref hgn, vI z36]), (hgo, aI ca 5 (zu go to x)), (hgn, aI ca 5 (zu gn to y))] H := hP
    have hD : va_D A [(hg, oB 0 [.ref hgo, .ref hgn, vI z36]), (hgo, aI ca 5 (zu go to x)), (hgn, aI ca 5 (zu gn to y))] := hD
    refine lv_iconst (v := Int32.ofInt 1) hx hb dX0_add_40 rfl ?_
    refine zr_Z hx hb hr hlk hQ (zu go to x, zu gn to y, z36) hP hD hS dX0_add_41 (Nat.le_of_ble_eq_true rfl) (Nat.le_of_ble_eq_true rfl) (Or.inr rfl) ?_
    show (to < 5 ∧ 1 = 1 ∧ (zu go to x) = zu go to x ∧ (zu gn to y) = zu gn to y ∧ z36 = to + 1) ∨ (to = 5 ∧ 1 = 0 ∧ (zu go to x) = go ∧ (zu gn to y) = gn ∧ z36 = to)
    first | exact Or.inl ⟨by omega, rfl, rfl, rfl, e36⟩ | exact Or.inr ⟨by omega, rfl, rfl, rfl, rfl⟩
  · skip
    refine lv_iconst (v := Int32.ofInt 0) hx hb dX0_add_8 rfl ?_
    refine zr_Z hx hb hr hlk hQ (go, gn, to) hP hD hS dX0_add_9 (Nat.le_of_ble_eq_true rfl) (Nat.le_of_ble_eq_true rfl) (Or.inl rfl) ?_
    show (to < 5 ∧ 0 = 1 ∧ go = zu go to x ∧ gn = zu gn to y ∧ to = to + 1) ∨ (to = 5 ∧ 0 = 0 ∧ go = go ∧ gn = gn ∧ to = to)
    first | exact Or.inl ⟨by omega, rfl, rfl, rfl, e36⟩ | exact Or.inr ⟨by omega, rfl, rfl, rfl, rfl⟩
set_option maxHeartbeats 4000000 in
set_option maxRecDepth 100000 in
theorem k_X0_wipe (l : Launch) (g : va_G) (ca : Nat → ClassId) (hg : Nat) (hgo : Nat) (hgn : Nat) (to : Int)  : zI (S := Unit) l yX0_wipe wsX0_wipe ({ frames := 0, cells := 0, slots := 0, locals := 0 } : Room) g ca [.ref hg] [(hg, oB 0 [.ref hgo, .ref hgn, vI to])] (fun (z : Int) (u : Unit) => z = to) (fun (u : Unit) => [(hg, oB 0 [.ref hgo, .ref hgn, vI 0])]) 0 0 := by
  refine zm_I (cc := cX0_wipe) (maxL := 2) (ret := some .int) (by decide) rfl (Nat.le_of_ble_eq_true rfl) ?_
  intro p e s m below meth c A ls R args Q hR hargs hQ hx hb hml hr hts hown hlk hnm hK hP hD hA hS hl
  have hown : s.vm.findClass RX0 = some m.cls := hown
  have hl : lv_has ls 2 [(0, .ref hg)] := hl
  have lk_f16 : (Cond.fieldLink RX0 16 "DripRings$Grave" "told" "I").before args s = true := hts _ (by decide +kernel)
  have inF_X0 : ∀ w ∈ wsX00, w ∈ wsX0_wipe := by decide +kernel
  refine lv_aload_n hx hb dX0_wipe_0 rfl (lv_at hl 0 rfl) ?_
  refine va_get (D := g) (ci := 0) (v := vI to) (C := RX0) (T := TX0) (N := 3) hx hb hts inF_X0 hown hK.1 hP 0 rfl rfl 2 (by decide) lk_f16 (fun _ h9 => h9) rfl dX0_wipe_1 ?_
  refine lv_istore_n (lv' := [(1, vI to), (0, .ref hg)]) hx hb dX0_wipe_4 rfl hl (by decide) rfl (fun ls hl => ?_)
  refine lv_aload_n hx hb dX0_wipe_5 rfl (lv_at hl 1 rfl) ?_
  refine lv_iconst (v := Int32.ofInt 0) hx hb dX0_wipe_6 rfl ?_
  refine va_put (D := g) (ci := 0) (v := vI 0) (ty := .int) (C := RX0) (T := TX0) (N := 3) hx hb hts inF_X0 tyX0 tyX0_ok nmX0 hown hK.1 hP hD hS 0 rfl rfl 2 (by decide) lk_f16 (fun _ h9 => h9) rfl (by decide +kernel) rfl rfl (Nat.le_of_ble_eq_true rfl) dX0_wipe_7 (fun H locs hP hD hS => ?_)
  have hP : va_P g vwCl [(hg, oB 0 [.ref hgo, .ref hgn, vI 0])] H := hP
  have hD : va_D A [(hg, oB 0 [.ref hgo, .ref hgn, vI 0])] := hD
  refine lv_iload_n hx hb dX0_wipe_10 rfl (lv_at hl 0 rfl) ?_
  refine zr_I hx hb hr hlk hQ () hP hD hS dX0_wipe_11 (Nat.le_of_ble_eq_true rfl) (Nat.le_of_ble_eq_true rfl) ?_
  show to = to
  rfl
set_option maxHeartbeats 4000000 in
set_option maxRecDepth 100000 in
theorem k_X0_fits (l : Launch) (g : va_G) (ca : Nat → ClassId) (hg : Nat) (hgo : Nat) (hgn : Nat) (go : Int → Int) (gn : Int → Int) (to : Int) (h0 : Nat) (h1 : Nat) (b : Int → Int) (n : Int) (lm : Int) (hG : GRok go gn to) (hB : GB b n) : zI (S := Unit) l yX0_fits wsX0_fits ({ frames := 1, cells := 0, slots := 0, locals := 24 } : Room) g ca [.ref hg, .ref h0] [(hg, oB 0 [.ref hgo, .ref hgn, vI to]), (hgo, aI ca 5 go), (hgn, aI ca 5 gn), (h0, oB 6 [.ref h1, vI n, vJ lm]), (h1, aJ ca 605 b)] (fun (z : Int) (u : Unit) => (z = 1 ∧ grk b n go gn to) ∨ (z = 0 ∧ ¬ grk b n go gn to)) (fun (u : Unit) => [(hg, oB 0 [.ref hgo, .ref hgn, vI to]), (hgo, aI ca 5 go), (hgn, aI ca 5 gn), (h0, oB 6 [.ref h1, vI n, vJ lm]), (h1, aJ ca 605 b)]) 0 0 := by
  refine zm_I (cc := cX0_fits) (maxL := 3) (ret := some .boolean) (by decide) rfl (Nat.le_of_ble_eq_true rfl) ?_
  intro p e s m below meth c A ls R args Q hR hargs hQ hx hb hml hr hts hown hlk hnm hK hP hD hA hS hl
  have hown : s.vm.findClass RX0 = some m.cls := hown
  have hl : lv_has ls 3 [(0, .ref hg), (1, .ref h0)] := hl
  have lk_f16 : (Cond.fieldLink RX0 16 "DripRings$Grave" "told" "I").before args s = true := hts _ (by decide +kernel)
  have inF_X0 : ∀ w ∈ wsX00, w ∈ wsX0_fits := by decide +kernel
  have lk_f9 : (Cond.fieldLink RX0 9 "DripRings$Grave" "orders" "[I").before args s = true := hts _ (by decide +kernel)
  have lk_f13 : (Cond.fieldLink RX0 13 "DripRings$Grave" "numbers" "[I").before args s = true := hts _ (by decide +kernel)
  have hn := hB.1
  have hto := hG.1
  refine lv_iconst (v := Int32.ofInt 0) hx hb dX0_fits_0 rfl ?_
  refine lv_istore_n (lv' := [(2, vI 0), (0, .ref hg), (1, .ref h0)]) hx hb dX0_fits_1 rfl hl (by decide) rfl (fun ls hl => ?_)
  have L2 : ∀ (N2 : Nat) (i : Int) (hi : 0 ≤ i ∧ i ≤ to) (ha : grk b n go gn i) (hμ : (to - i).toNat < N2) (H : Heap) (locs : List Loc) (hP : va_P g vwCl [(hg, oB 0 [.ref hgo, .ref hgn, vI to]), (hgo, aI ca 5 go), (hgn, aI ca 5 gn), (h0, oB 6 [.ref h1, vI n, vJ lm]), (h1, aJ ca 605 b)] H) (hD : va_D A [(hg, oB 0 [.ref hgo, .ref hgn, vI to]), (hgo, aI ca 5 go), (hgn, aI ca 5 gn), (h0, oB 6 [.ref h1, vI n, vJ lm]), (h1, aJ ca 605 b)]) (hS : va_S A s.heap H locs) (ls : Array Slot) (hl : lv_has ls 3 [(2, vI i), (0, .ref hg), (1, .ref h0)]), W p l e R s m args below meth c H locs 0 0 Q (F0 m 2 ls []) := by
    intro N2; induction N2 with
    | zero => intro i hi ha hμ; exact absurd hμ (Nat.not_lt_zero _)
    | succ N2 ih2 =>
      intro i hi ha hμ H locs hP hD hS ls hl
      refine lv_iload_n hx hb dX0_fits_2 rfl (lv_at hl 0 rfl) ?_
      refine lv_aload_n hx hb dX0_fits_3 rfl (lv_at hl 1 rfl) ?_
      refine va_get (D := g) (ci := 0) (v := vI to) (C := RX0) (T := TX0) (N := 3) hx hb hts inF_X0 hown hK.1 hP 0 rfl rfl 2 (by decide) lk_f16 (fun _ h9 => h9) rfl dX0_fits_4 ?_
      refine ri_icmp_ge (tgt := 39) hx hb dX0_fits_7 (by decide) ⟨by omega, by omega⟩ ⟨by omega, by omega⟩ (fun c7 => ?_) (fun c7 => ?_)
      · skip
        refine lv_iconst (v := Int32.ofInt 1) hx hb dX0_fits_39 rfl ?_
        refine zr_Z hx hb hr hlk hQ () hP hD hS dX0_fits_40 (Nat.le_of_ble_eq_true rfl) (Nat.le_of_ble_eq_true rfl) (Or.inr rfl) ?_
        show (1 = 1 ∧ grk b n go gn to) ∨ (1 = 0 ∧ ¬ grk b n go gn to)
        exact Or.inl ⟨rfl, by rw [show to = i by omega]; exact ha⟩
      · skip
        have hg10 := hG.2 i (by omega) (by omega)
        refine lv_aload_n hx hb dX0_fits_10 rfl (lv_at hl 2 rfl) ?_
        refine lv_aload_n hx hb dX0_fits_11 rfl (lv_at hl 1 rfl) ?_
        refine va_get (D := g) (ci := 0) (v := .ref hgo) (C := RX0) (T := TX0) (N := 3) hx hb hts inF_X0 hown hK.1 hP 0 rfl rfl 0 (by decide) lk_f9 (fun _ h9 => h9) rfl dX0_fits_12 ?_
        refine lv_iload_n hx hb dX0_fits_15 rfl (lv_at hl 0 rfl) ?_
        refine ra_ild hx hb hK hP 1 rfl dX0_fits_16 ⟨by omega, by omega⟩ (by omega) ?_
        refine zc_VJ (As := [vI (go i)]) (rest := []) (wc := [(h0, oB 6 [.ref h1, vI n, vJ lm]), (h1, aJ ca 605 b)]) (wr := [(hg, oB 0 [.ref hgo, .ref hgn, vI to]), (hgo, aI ca 5 go), (hgn, aI ca 5 gn)]) (k_X6_ofOrder l g ca h0 h1 b n lm (go i) (by first | assumption | omega) (by first | assumption | omega)) dX0_fits_17 (cwV 1 hts gX0_fits_X6_ofOrder rfl rfl rfl (by decide +kernel) (by rw [hR]; exact ⟨Nat.le_of_ble_eq_true rfl, Nat.le_of_ble_eq_true rfl⟩)) ⟨hx, hb, hml, hown, hts⟩ hl.1 hK hP hD hS hA 3 rfl rfl rfl [3, 4] [0, 1, 2] rfl (by decide) rfl (by decide) (by decide) rfl rfl (Nat.le_of_ble_eq_true rfl) (by rw [hR]; exact ⟨Nat.le_of_ble_eq_true rfl, Nat.le_of_ble_eq_true rfl⟩) (fun z17 u H locs q17 hP hD hS => ?_)
        have q17 : z17 = cnt b n (go i) := q17
        have hP : va_P g vwCl [(hg, oB 0 [.ref hgo, .ref hgn, vI to]), (hgo, aI ca 5 go), (hgn, aI ca 5 gn), (h0, oB 6 [.ref h1, vI n, vJ lm]), (h1, aJ ca 605 b)] H := hP.sub [0, 1, 2, 3, 4] rfl
        have hD : va_D A [(hg, oB 0 [.ref hgo, .ref hgn, vI to]), (hgo, aI ca 5 go), (hgn, aI ca 5 gn), (h0, oB 6 [.ref h1, vI n, vJ lm]), (h1, aJ ca 605 b)] := hD.sub [0, 1, 2, 3, 4] (by decide) rfl
        refine lv_aload_n hx hb dX0_fits_20 rfl (lv_at hl 1 rfl) ?_
        refine va_get (D := g) (ci := 0) (v := .ref hgn) (C := RX0) (T := TX0) (N := 3) hx hb hts inF_X0 hown hK.1 hP 0 rfl rfl 1 (by decide) lk_f13 (fun _ h9 => h9) rfl dX0_fits_21 ?_
        refine lv_iload_n hx hb dX0_fits_24 rfl (lv_at hl 0 rfl) ?_
        refine ra_ild hx hb hK hP 2 rfl dX0_fits_25 ⟨by omega, by omega⟩ (by omega) ?_
        refine ri_l hx hb dX0_fits_26 ⟨by omega, by omega⟩ ?_
        have hc27 := cnt_bd hB hg10.1.1 hg10.1.2
        refine rj_cmp hx hb dX0_fits_27 ⟨by omega, by omega⟩ ⟨by omega, by omega⟩ (fun z27 e27 => ?_)
        refine ri_if_eq (tgt := 33) hx hb dX0_fits_28 (by decide) ⟨by omega, by omega⟩ (fun c28 => ?_) (fun c28 => ?_)
        · skip
          have c28 : z17 = (gn i) := by omega
          clear e27
          obtain ⟨z33, e33⟩ : ∃ q : Int, q = i + 1 := ⟨_, rfl⟩
          refine ri_inc (lv' := [(2, vI z33), (0, .ref hg), (1, .ref h0)]) hx hb dX0_fits_33 hl (k := 0) rfl (by decide) z33 e33 rfl (fun ls hl => ?_)
          refine lv_goto (tgt := 2) hx hb dX0_fits_36 (by decide) ?_
          exact ih2 z33 (by first | assumption | omega) (by
                intro j h1 h2
                by_cases q : j = i
                · rw [q]; omega
                · exact ha j h1 (by omega)) (by omega) _ _ hP hD hS ls (lv_sub hl [0, 1, 2] rfl)
        · skip
          have c28 : ¬ z17 = (gn i) := by omega
          clear e27
          refine lv_iconst (v := Int32.ofInt 0) hx hb dX0_fits_31 rfl ?_
          refine zr_Z hx hb hr hlk hQ () hP hD hS dX0_fits_32 (Nat.le_of_ble_eq_true rfl) (Nat.le_of_ble_eq_true rfl) (Or.inl rfl) ?_
          show (0 = 1 ∧ grk b n go gn to) ∨ (0 = 0 ∧ ¬ grk b n go gn to)
          exact Or.inr ⟨rfl, fun q => c28 (by rw [q17]; exact q i (by omega) (by omega))⟩
  exact L2 _ 0 (by first | assumption | omega) (by intro j h1 h2; omega) (Nat.lt_succ_self _) _ _ hP hD hS ls (lv_sub hl [0, 1, 2] rfl)
set_option maxHeartbeats 4000000 in
set_option maxRecDepth 100000 in
theorem k_X3_remember (l : Launch) (g : va_G) (ca : Nat → ClassId) (hp : Nat) (hr0 : Nat) (rf : Nat → Option Nat) (nx : Int) (kn : Int) (t0 : Nat) (t1 : Nat) (bt : Int → Int) (nt : Int) (lt : Int) (h0 : Nat) (h1 : Nat) (b : Int → Int) (n : Int) (lm : Int) (hnx : 0 ≤ nx ∧ nx ≤ 7) (hkn : 0 ≤ kn ∧ kn ≤ 8) (hrf : rf nx.toNat = some t0) : zV (S := Int × Int) l yX3_remember wsX3_remember ({ frames := 2, cells := 0, slots := 0, locals := 47 } : Room) g ca [.ref hp, .ref h0] [(hp, oB 3 [.ref hr0, vI nx, vI kn]), (hr0, aR ca 8 rf), (t0, oB 6 [.ref t1, vI nt, vJ lt]), (t1, aJ ca 605 bt), (h0, oB 6 [.ref h1, vI n, vJ lm]), (h1, aJ ca 605 b)] (fun (u : Int × Int) => u.1 = (if nx < 7 then nx + 1 else 0) ∧ u.2 = (if kn < 8 then kn + 1 else 8)) (fun (u : Int × Int) => [(hp, oB 3 [.ref hr0, vI u.1, vI u.2]), (hr0, aR ca 8 rf), (t0, oB 6 [.ref t1, vI n, vJ lm]), (t1, aJ ca 605 b), (h0, oB 6 [.ref h1, vI n, vJ lm]), (h1, aJ ca 605 b)]) 0 0 := by
  refine zm_V (cc := cX3_remember) (maxL := 2) (ret := none) (by decide) rfl (Nat.le_of_ble_eq_true rfl) ?_
  intro p e s m below meth c A ls R args Q hR hargs hQ hx hb hml hr hts hown hlk hnm hK hP hD hA hS hl
  have hown : s.vm.findClass RX3 = some m.cls := hown
  have hl : lv_has ls 2 [(0, .ref hp), (1, .ref h0)] := hl
  have lk_f11 : (Cond.fieldLink RX3 11 "DripRings$Past" "rounds" "[LDripRings$Rings;").before args s = true := hts _ (by decide +kernel)
  have inF_X3 : ∀ w ∈ wsX30, w ∈ wsX3_remember := by decide +kernel
  have lk_f16 : (Cond.fieldLink RX3 16 "DripRings$Past" "next" "I").before args s = true := hts _ (by decide +kernel)
  have lk_f24 : (Cond.fieldLink RX3 24 "DripRings$Past" "known" "I").before args s = true := hts _ (by decide +kernel)
  have lk_min27 : (Cond.methodLink RX3 27 Lib.Math.min.name).before args s = true := hts _ (by decide +kernel)
  have lk_mins : (Cond.static Lib.Math.min.name).before args s = true := hts _ (by decide +kernel)
  have lk_mathz : (Cond.initialized "java/lang/Math").before args s = true := hts _ (by decide +kernel)
  have lk_minc : (Cond.code Lib.Math.min.name Lib.Math.min.code 2 (some .int)).before args s = true := hts _ (by decide +kernel)
  refine lv_aload_n hx hb dX3_remember_0 rfl (lv_at hl 0 rfl) ?_
  refine va_get (D := g) (ci := 3) (v := .ref hr0) (C := RX3) (T := TX3) (N := 3) hx hb hts inF_X3 hown hK.1 hP 0 rfl rfl 0 (by decide) lk_f11 (fun _ h9 => h9) rfl dX3_remember_1 ?_
  refine lv_aload_n hx hb dX3_remember_4 rfl (lv_at hl 0 rfl) ?_
  refine va_get (D := g) (ci := 3) (v := vI nx) (C := RX3) (T := TX3) (N := 3) hx hb hts inF_X3 hown hK.1 hP 0 rfl rfl 1 (by decide) lk_f16 (fun _ h9 => h9) rfl dX3_remember_5 ?_
  refine ra_rld hx hb hK hP 1 rfl dX3_remember_8 ⟨by omega, by omega⟩ (by omega) (x := t0) (hrf) ?_
  refine lv_aload_n hx hb dX3_remember_9 rfl (lv_at hl 1 rfl) ?_
  refine zc_VV (As := [.ref h0]) (rest := []) (wc := [(t0, oB 6 [.ref t1, vI nt, vJ lt]), (t1, aJ ca 605 bt), (h0, oB 6 [.ref h1, vI n, vJ lm]), (h1, aJ ca 605 b)]) (wr := [(hp, oB 3 [.ref hr0, vI nx, vI kn]), (hr0, aR ca 8 rf)]) (k_X6_becomeLike l g ca t0 t1 bt nt lt h0 h1 b n lm ) dX3_remember_10 (cwV 1 hts gX3_remember_X6_becomeLike rfl rfl rfl (by decide +kernel) (by rw [hR]; exact ⟨Nat.le_of_ble_eq_true rfl, Nat.le_of_ble_eq_true rfl⟩)) ⟨hx, hb, hml, hown, hts⟩ hl.1 hK hP hD hS hA 2 rfl rfl rfl [2, 3, 4, 5] [0, 1] rfl (by decide) rfl (by decide) (by decide) rfl rfl (Nat.le_of_ble_eq_true rfl) (by rw [hR]; exact ⟨Nat.le_of_ble_eq_true rfl, Nat.le_of_ble_eq_true rfl⟩) (fun u H locs q10 hP hD hS => ?_)
  have hP : va_P g vwCl [(hp, oB 3 [.ref hr0, vI nx, vI kn]), (hr0, aR ca 8 rf), (t0, oB 6 [.ref t1, vI n, vJ lm]), (t1, aJ ca 605 b), (h0, oB 6 [.ref h1, vI n, vJ lm]), (h1, aJ ca 605 b)] H := hP.sub [0, 1, 2, 3, 4, 5] rfl
  have hD : va_D A [(hp, oB 3 [.ref hr0, vI nx, vI kn]), (hr0, aR ca 8 rf), (t0, oB 6 [.ref t1, vI n, vJ lm]), (t1, aJ ca 605 b), (h0, oB 6 [.ref h1, vI n, vJ lm]), (h1, aJ ca 605 b)] := hD.sub [0, 1, 2, 3, 4, 5] (by decide) rfl
  refine lv_aload_n hx hb dX3_remember_13 rfl (lv_at hl 0 rfl) ?_
  refine lv_aload_n hx hb dX3_remember_14 rfl (lv_at hl 0 rfl) ?_
  refine va_get (D := g) (ci := 3) (v := vI nx) (C := RX3) (T := TX3) (N := 3) hx hb hts inF_X3 hown hK.1 hP 0 rfl rfl 1 (by decide) lk_f16 (fun _ h9 => h9) rfl dX3_remember_15 ?_
  refine lv_iconst (v := Int32.ofInt 1) hx hb dX3_remember_18 rfl ?_
  refine ri_add hx hb dX3_remember_19 (fun z19 e19 => ?_)
  refine lv_bipush (v := Int32.ofInt 8) hx hb dX3_remember_20 (by decide) ?_
  refine ri_icmp_ge (tgt := 34) hx hb dX3_remember_22 (by decide) ⟨by omega, by omega⟩ ⟨by omega, by omega⟩ (fun c22 => ?_) (fun c22 => ?_)
  · skip
    refine lv_iconst (v := Int32.ofInt 0) hx hb dX3_remember_34 rfl ?_
    refine va_put (D := g) (ci := 3) (v := vI 0) (ty := .int) (C := RX3) (T := TX3) (N := 3) hx hb hts inF_X3 tyX3 tyX3_ok nmX3 hown hK.1 hP hD hS 0 rfl rfl 1 (by decide) lk_f16 (fun _ h9 => h9) rfl (by decide +kernel) rfl rfl (Nat.le_of_ble_eq_true rfl) dX3_remember_35 (fun H locs hP hD hS => ?_)
    have hP : va_P g vwCl [(hp, oB 3 [.ref hr0, vI 0, vI kn]), (hr0, aR ca 8 rf), (t0, oB 6 [.ref t1, vI n, vJ lm]), (t1, aJ ca 605 b), (h0, oB 6 [.ref h1, vI n, vJ lm]), (h1, aJ ca 605 b)] H := hP
    have hD : va_D A [(hp, oB 3 [.ref hr0, vI 0, vI kn]), (hr0, aR ca 8 rf), (t0, oB 6 [.ref t1, vI n, vJ lm]), (t1, aJ ca 605 b), (h0, oB 6 [.ref h1, vI n, vJ lm]), (h1, aJ ca 605 b)] := hD
    refine lv_aload_n hx hb dX3_remember_38 rfl (lv_at hl 0 rfl) ?_
    refine lv_aload_n hx hb dX3_remember_39 rfl (lv_at hl 0 rfl) ?_
    refine va_get (D := g) (ci := 3) (v := vI kn) (C := RX3) (T := TX3) (N := 3) hx hb hts inF_X3 hown hK.1 hP 0 rfl rfl 2 (by decide) lk_f24 (fun _ h9 => h9) rfl dX3_remember_40 ?_
    refine lv_iconst (v := Int32.ofInt 1) hx hb dX3_remember_43 rfl ?_
    refine ri_add hx hb dX3_remember_44 (fun z44 e44 => ?_)
    refine lv_bipush (v := Int32.ofInt 8) hx hb dX3_remember_45 (by decide) ?_
    refine ri_min hx hb (by rw [hml]; exact hl.1.symm) hown lk_min27 lk_mins lk_mathz lk_minc (by rw [hR]; exact Nat.le_of_ble_eq_true rfl) (by rw [hR]; exact Nat.le_of_ble_eq_true rfl) (by rw [hR]; exact Nat.le_of_ble_eq_true rfl) (by rw [hR]; exact Nat.le_of_ble_eq_true rfl) ⟨by omega, by omega⟩ ⟨by omega, by omega⟩ dX3_remember_47 (fun z47 e47 => ?_)
    refine va_put (D := g) (ci := 3) (v := vI z47) (ty := .int) (C := RX3) (T := TX3) (N := 3) hx hb hts inF_X3 tyX3 tyX3_ok nmX3 hown hK.1 hP hD hS 0 rfl rfl 2 (by decide) lk_f24 (fun _ h9 => h9) rfl (by decide +kernel) rfl rfl (Nat.le_of_ble_eq_true rfl) dX3_remember_50 (fun H locs hP hD hS => ?_)
    have hP : va_P g vwCl [(hp, oB 3 [.ref hr0, vI 0, vI z47]), (hr0, aR ca 8 rf), (t0, oB 6 [.ref t1, vI n, vJ lm]), (t1, aJ ca 605 b), (h0, oB 6 [.ref h1, vI n, vJ lm]), (h1, aJ ca 605 b)] H := hP
    have hD : va_D A [(hp, oB 3 [.ref hr0, vI 0, vI z47]), (hr0, aR ca 8 rf), (t0, oB 6 [.ref t1, vI n, vJ lm]), (t1, aJ ca 605 b), (h0, oB 6 [.ref h1, vI n, vJ lm]), (h1, aJ ca 605 b)] := hD
    refine zr_V hx hb hr hlk hQ (0, z47) hP hD hS dX3_remember_53 (Nat.le_of_ble_eq_true rfl) (Nat.le_of_ble_eq_true rfl) ?_
    show 0 = (if nx < 7 then nx + 1 else 0) ∧ z47 = (if kn < 8 then kn + 1 else 8)
    refine ⟨?_, ?_⟩
    · split <;> omega
    · rw [e47]; split <;> split <;> omega
  · skip
    refine lv_aload_n hx hb dX3_remember_25 rfl (lv_at hl 0 rfl) ?_
    refine va_get (D := g) (ci := 3) (v := vI nx) (C := RX3) (T := TX3) (N := 3) hx hb hts inF_X3 hown hK.1 hP 0 rfl rfl 1 (by decide) lk_f16 (fun _ h9 => h9) rfl dX3_remember_26 ?_
    refine lv_iconst (v := Int32.ofInt 1) hx hb dX3_remember_29 rfl ?_
    refine ri_add hx hb dX3_remember_30 (fun z30 e30 => ?_)
    refine lv_goto (tgt := 35) hx hb dX3_remember_31 (by decide) ?_
    refine va_put (D := g) (ci := 3) (v := vI z30) (ty := .int) (C := RX3) (T := TX3) (N := 3) hx hb hts inF_X3 tyX3 tyX3_ok nmX3 hown hK.1 hP hD hS 0 rfl rfl 1 (by decide) lk_f16 (fun _ h9 => h9) rfl (by decide +kernel) rfl rfl (Nat.le_of_ble_eq_true rfl) dX3_remember_35 (fun H locs hP hD hS => ?_)
    have hP : va_P g vwCl [(hp, oB 3 [.ref hr0, vI z30, vI kn]), (hr0, aR ca 8 rf), (t0, oB 6 [.ref t1, vI n, vJ lm]), (t1, aJ ca 605 b), (h0, oB 6 [.ref h1, vI n, vJ lm]), (h1, aJ ca 605 b)] H := hP
    have hD : va_D A [(hp, oB 3 [.ref hr0, vI z30, vI kn]), (hr0, aR ca 8 rf), (t0, oB 6 [.ref t1, vI n, vJ lm]), (t1, aJ ca 605 b), (h0, oB 6 [.ref h1, vI n, vJ lm]), (h1, aJ ca 605 b)] := hD
    refine lv_aload_n hx hb dX3_remember_38 rfl (lv_at hl 0 rfl) ?_
    refine lv_aload_n hx hb dX3_remember_39 rfl (lv_at hl 0 rfl) ?_
    refine va_get (D := g) (ci := 3) (v := vI kn) (C := RX3) (T := TX3) (N := 3) hx hb hts inF_X3 hown hK.1 hP 0 rfl rfl 2 (by decide) lk_f24 (fun _ h9 => h9) rfl dX3_remember_40 ?_
    refine lv_iconst (v := Int32.ofInt 1) hx hb dX3_remember_43 rfl ?_
    refine ri_add hx hb dX3_remember_44 (fun z44 e44 => ?_)
    refine lv_bipush (v := Int32.ofInt 8) hx hb dX3_remember_45 (by decide) ?_
    refine ri_min hx hb (by rw [hml]; exact hl.1.symm) hown lk_min27 lk_mins lk_mathz lk_minc (by rw [hR]; exact Nat.le_of_ble_eq_true rfl) (by rw [hR]; exact Nat.le_of_ble_eq_true rfl) (by rw [hR]; exact Nat.le_of_ble_eq_true rfl) (by rw [hR]; exact Nat.le_of_ble_eq_true rfl) ⟨by omega, by omega⟩ ⟨by omega, by omega⟩ dX3_remember_47 (fun z47 e47 => ?_)
    refine va_put (D := g) (ci := 3) (v := vI z47) (ty := .int) (C := RX3) (T := TX3) (N := 3) hx hb hts inF_X3 tyX3 tyX3_ok nmX3 hown hK.1 hP hD hS 0 rfl rfl 2 (by decide) lk_f24 (fun _ h9 => h9) rfl (by decide +kernel) rfl rfl (Nat.le_of_ble_eq_true rfl) dX3_remember_50 (fun H locs hP hD hS => ?_)
    have hP : va_P g vwCl [(hp, oB 3 [.ref hr0, vI z30, vI z47]), (hr0, aR ca 8 rf), (t0, oB 6 [.ref t1, vI n, vJ lm]), (t1, aJ ca 605 b), (h0, oB 6 [.ref h1, vI n, vJ lm]), (h1, aJ ca 605 b)] H := hP
    have hD : va_D A [(hp, oB 3 [.ref hr0, vI z30, vI z47]), (hr0, aR ca 8 rf), (t0, oB 6 [.ref t1, vI n, vJ lm]), (t1, aJ ca 605 b), (h0, oB 6 [.ref h1, vI n, vJ lm]), (h1, aJ ca 605 b)] := hD
    refine zr_V hx hb hr hlk hQ (z30, z47) hP hD hS dX3_remember_53 (Nat.le_of_ble_eq_true rfl) (Nat.le_of_ble_eq_true rfl) ?_
    show z30 = (if nx < 7 then nx + 1 else 0) ∧ z47 = (if kn < 8 then kn + 1 else 8)
    refine ⟨?_, ?_⟩
    · split <;> omega
    · rw [e47]; split <;> split <;> omega
set_option maxHeartbeats 4000000 in
set_option maxRecDepth 100000 in
theorem k_X3_restore0 (l : Launch) (g : va_G) (ca : Nat → ClassId) (hp : Nat) (hr0 : Nat) (nx : Int) (kn : Int) (h0 : Nat) (hkn : kn = 0) : zI (S := Unit) l yX3_restore wsX3_restore ({ frames := 2, cells := 0, slots := 0, locals := 47 } : Room) g ca [.ref hp, .ref h0] [(hp, oB 3 [.ref hr0, vI nx, vI kn])] (fun (z : Int) (u : Unit) => z = 0) (fun (u : Unit) => [(hp, oB 3 [.ref hr0, vI nx, vI kn])]) 0 0 := by
  refine zm_I (cc := cX3_restore) (maxL := 2) (ret := some .boolean) (by decide) rfl (Nat.le_of_ble_eq_true rfl) ?_
  intro p e s m below meth c A ls R args Q hR hargs hQ hx hb hml hr hts hown hlk hnm hK hP hD hA hS hl
  have hown : s.vm.findClass RX3 = some m.cls := hown
  have hl : lv_has ls 2 [(0, .ref hp), (1, .ref h0)] := hl
  have lk_f24 : (Cond.fieldLink RX3 24 "DripRings$Past" "known" "I").before args s = true := hts _ (by decide +kernel)
  have inF_X3 : ∀ w ∈ wsX30, w ∈ wsX3_restore := by decide +kernel
  refine lv_aload_n hx hb dX3_restore_0 rfl (lv_at hl 0 rfl) ?_
  refine va_get (D := g) (ci := 3) (v := vI kn) (C := RX3) (T := TX3) (N := 3) hx hb hts inF_X3 hown hK.1 hP 0 rfl rfl 2 (by decide) lk_f24 (fun _ h9 => h9) rfl dX3_restore_1 ?_
  refine ri_if_ne (tgt := 9) hx hb dX3_restore_4 (by decide) ⟨by omega, by omega⟩ (fun c4 => ?_) (fun c4 => ?_)
  · exfalso; omega
  · skip
    refine lv_iconst (v := Int32.ofInt 0) hx hb dX3_restore_7 rfl ?_
    refine zr_Z hx hb hr hlk hQ () hP hD hS dX3_restore_8 (Nat.le_of_ble_eq_true rfl) (Nat.le_of_ble_eq_true rfl) (Or.inl rfl) ?_
    show 0 = 0
    rfl
set_option maxHeartbeats 4000000 in
set_option maxRecDepth 100000 in
theorem k_X3_restore1 (l : Launch) (g : va_G) (ca : Nat → ClassId) (hp : Nat) (hr0 : Nat) (rf : Nat → Option Nat) (nx : Int) (kn : Int) (t0 : Nat) (t1 : Nat) (bt : Int → Int) (nt : Int) (lt : Int) (h0 : Nat) (h1 : Nat) (b : Int → Int) (n : Int) (lm : Int) (hnx : 0 ≤ nx ∧ nx ≤ 7) (hkn : 1 ≤ kn ∧ kn ≤ 8) (hrf : rf (if 0 < nx then nx - 1 else 7).toNat = some t0) : zI (S := Int × Int) l yX3_restore wsX3_restore ({ frames := 2, cells := 0, slots := 0, locals := 47 } : Room) g ca [.ref hp, .ref h0] [(hp, oB 3 [.ref hr0, vI nx, vI kn]), (hr0, aR ca 8 rf), (t0, oB 6 [.ref t1, vI nt, vJ lt]), (t1, aJ ca 605 bt), (h0, oB 6 [.ref h1, vI n, vJ lm]), (h1, aJ ca 605 b)] (fun (z : Int) (u : Int × Int) => z = 1 ∧ u.1 = (if 0 < nx then nx - 1 else 7) ∧ u.2 = kn - 1) (fun (u : Int × Int) => [(hp, oB 3 [.ref hr0, vI u.1, vI u.2]), (hr0, aR ca 8 rf), (t0, oB 6 [.ref t1, vI nt, vJ lt]), (t1, aJ ca 605 bt), (h0, oB 6 [.ref h1, vI nt, vJ lt]), (h1, aJ ca 605 bt)]) 0 0 := by
  refine zm_I (cc := cX3_restore) (maxL := 2) (ret := some .boolean) (by decide) rfl (Nat.le_of_ble_eq_true rfl) ?_
  intro p e s m below meth c A ls R args Q hR hargs hQ hx hb hml hr hts hown hlk hnm hK hP hD hA hS hl
  have hown : s.vm.findClass RX3 = some m.cls := hown
  have hl : lv_has ls 2 [(0, .ref hp), (1, .ref h0)] := hl
  have lk_f24 : (Cond.fieldLink RX3 24 "DripRings$Past" "known" "I").before args s = true := hts _ (by decide +kernel)
  have inF_X3 : ∀ w ∈ wsX30, w ∈ wsX3_restore := by decide +kernel
  have lk_f16 : (Cond.fieldLink RX3 16 "DripRings$Past" "next" "I").before args s = true := hts _ (by decide +kernel)
  have lk_f11 : (Cond.fieldLink RX3 11 "DripRings$Past" "rounds" "[LDripRings$Rings;").before args s = true := hts _ (by decide +kernel)
  refine lv_aload_n hx hb dX3_restore_0 rfl (lv_at hl 0 rfl) ?_
  refine va_get (D := g) (ci := 3) (v := vI kn) (C := RX3) (T := TX3) (N := 3) hx hb hts inF_X3 hown hK.1 hP 0 rfl rfl 2 (by decide) lk_f24 (fun _ h9 => h9) rfl dX3_restore_1 ?_
  refine ri_if_ne (tgt := 9) hx hb dX3_restore_4 (by decide) ⟨by omega, by omega⟩ (fun c4 => ?_) (fun c4 => ?_)
  · skip
    refine lv_aload_n hx hb dX3_restore_9 rfl (lv_at hl 0 rfl) ?_
    refine lv_aload_n hx hb dX3_restore_10 rfl (lv_at hl 0 rfl) ?_
    refine va_get (D := g) (ci := 3) (v := vI nx) (C := RX3) (T := TX3) (N := 3) hx hb hts inF_X3 hown hK.1 hP 0 rfl rfl 1 (by decide) lk_f16 (fun _ h9 => h9) rfl dX3_restore_11 ?_
    refine ri_if_le (tgt := 26) hx hb dX3_restore_14 (by decide) ⟨by omega, by omega⟩ (fun c14 => ?_) (fun c14 => ?_)
    · skip
      refine lv_bipush (v := Int32.ofInt 7) hx hb dX3_restore_26 (by decide) ?_
      refine va_put (D := g) (ci := 3) (v := vI 7) (ty := .int) (C := RX3) (T := TX3) (N := 3) hx hb hts inF_X3 tyX3 tyX3_ok nmX3 hown hK.1 hP hD hS 0 rfl rfl 1 (by decide) lk_f16 (fun _ h9 => h9) rfl (by decide +kernel) rfl rfl (Nat.le_of_ble_eq_true rfl) dX3_restore_28 (fun H locs hP hD hS => ?_)
      have hP : va_P g vwCl [(hp, oB 3 [.ref hr0, vI 7, vI kn]), (hr0, aR ca 8 rf), (t0, oB 6 [.ref t1, vI nt, vJ lt]), (t1, aJ ca 605 bt), (h0, oB 6 [.ref h1, vI n, vJ lm]), (h1, aJ ca 605 b)] H := hP
      have hD : va_D A [(hp, oB 3 [.ref hr0, vI 7, vI kn]), (hr0, aR ca 8 rf), (t0, oB 6 [.ref t1, vI nt, vJ lt]), (t1, aJ ca 605 bt), (h0, oB 6 [.ref h1, vI n, vJ lm]), (h1, aJ ca 605 b)] := hD
      refine lv_aload_n hx hb dX3_restore_31 rfl (lv_at hl 0 rfl) ?_
      refine lv_dup hx hb dX3_restore_32 rfl ?_
      refine va_get (D := g) (ci := 3) (v := vI kn) (C := RX3) (T := TX3) (N := 3) hx hb hts inF_X3 hown hK.1 hP 0 rfl rfl 2 (by decide) lk_f24 (fun _ h9 => h9) rfl dX3_restore_33 ?_
      refine lv_iconst (v := Int32.ofInt 1) hx hb dX3_restore_36 rfl ?_
      refine ri_sub hx hb dX3_restore_37 (fun z37 e37 => ?_)
      refine va_put (D := g) (ci := 3) (v := vI z37) (ty := .int) (C := RX3) (T := TX3) (N := 3) hx hb hts inF_X3 tyX3 tyX3_ok nmX3 hown hK.1 hP hD hS 0 rfl rfl 2 (by decide) lk_f24 (fun _ h9 => h9) rfl (by decide +kernel) rfl rfl (Nat.le_of_ble_eq_true rfl) dX3_restore_38 (fun H locs hP hD hS => ?_)
      have hP : va_P g vwCl [(hp, oB 3 [.ref hr0, vI 7, vI z37]), (hr0, aR ca 8 rf), (t0, oB 6 [.ref t1, vI nt, vJ lt]), (t1, aJ ca 605 bt), (h0, oB 6 [.ref h1, vI n, vJ lm]), (h1, aJ ca 605 b)] H := hP
      have hD : va_D A [(hp, oB 3 [.ref hr0, vI 7, vI z37]), (hr0, aR ca 8 rf), (t0, oB 6 [.ref t1, vI nt, vJ lt]), (t1, aJ ca 605 bt), (h0, oB 6 [.ref h1, vI n, vJ lm]), (h1, aJ ca 605 b)] := hD
      refine lv_aload_n hx hb dX3_restore_41 rfl (lv_at hl 1 rfl) ?_
      refine lv_aload_n hx hb dX3_restore_42 rfl (lv_at hl 0 rfl) ?_
      refine va_get (D := g) (ci := 3) (v := .ref hr0) (C := RX3) (T := TX3) (N := 3) hx hb hts inF_X3 hown hK.1 hP 0 rfl rfl 0 (by decide) lk_f11 (fun _ h9 => h9) rfl dX3_restore_43 ?_
      refine lv_aload_n hx hb dX3_restore_46 rfl (lv_at hl 0 rfl) ?_
      refine va_get (D := g) (ci := 3) (v := vI 7) (C := RX3) (T := TX3) (N := 3) hx hb hts inF_X3 hown hK.1 hP 0 rfl rfl 1 (by decide) lk_f16 (fun _ h9 => h9) rfl dX3_restore_47 ?_
      refine ra_rld hx hb hK hP 1 rfl dX3_restore_50 ⟨by omega, by omega⟩ (by omega) (x := t0) (by first | (rw [show 7 = (if 0 < nx then nx - 1 else 7) by rw [if_pos (by omega)]; omega]; exact hrf) | (rw [show (7 : Int) = (if 0 < nx then nx - 1 else 7) by rw [if_neg (by omega)]]; exact hrf)) ?_
      refine zc_VV (As := [.ref t0]) (rest := []) (wc := [(h0, oB 6 [.ref h1, vI n, vJ lm]), (h1, aJ ca 605 b), (t0, oB 6 [.ref t1, vI nt, vJ lt]), (t1, aJ ca 605 bt)]) (wr := [(hp, oB 3 [.ref hr0, vI 7, vI z37]), (hr0, aR ca 8 rf)]) (k_X6_becomeLike l g ca h0 h1 b n lm t0 t1 bt nt lt ) dX3_restore_51 (cwV 1 hts gX3_restore_X6_becomeLike rfl rfl rfl (by decide +kernel) (by rw [hR]; exact ⟨Nat.le_of_ble_eq_true rfl, Nat.le_of_ble_eq_true rfl⟩)) ⟨hx, hb, hml, hown, hts⟩ hl.1 hK hP hD hS hA 4 rfl rfl rfl [4, 5, 2, 3] [0, 1] rfl (by decide) rfl (by decide) (by decide) rfl rfl (Nat.le_of_ble_eq_true rfl) (by rw [hR]; exact ⟨Nat.le_of_ble_eq_true rfl, Nat.le_of_ble_eq_true rfl⟩) (fun u H locs q51 hP hD hS => ?_)
      have hP : va_P g vwCl [(hp, oB 3 [.ref hr0, vI 7, vI z37]), (hr0, aR ca 8 rf), (t0, oB 6 [.ref t1, vI nt, vJ lt]), (t1, aJ ca 605 bt), (h0, oB 6 [.ref h1, vI nt, vJ lt]), (h1, aJ ca 605 bt)] H := hP.sub [0, 1, 4, 5, 2, 3] rfl
      have hD : va_D A [(hp, oB 3 [.ref hr0, vI 7, vI z37]), (hr0, aR ca 8 rf), (t0, oB 6 [.ref t1, vI nt, vJ lt]), (t1, aJ ca 605 bt), (h0, oB 6 [.ref h1, vI nt, vJ lt]), (h1, aJ ca 605 bt)] := hD.sub [0, 1, 4, 5, 2, 3] (by decide) rfl
      refine lv_iconst (v := Int32.ofInt 1) hx hb dX3_restore_54 rfl ?_
      refine zr_Z hx hb hr hlk hQ (7, z37) hP hD hS dX3_restore_55 (Nat.le_of_ble_eq_true rfl) (Nat.le_of_ble_eq_true rfl) (Or.inr rfl) ?_
      show 1 = 1 ∧ 7 = (if 0 < nx then nx - 1 else 7) ∧ z37 = kn - 1
      refine ⟨rfl, ?_, ?_⟩
      · split <;> omega
      · omega
    · skip
      refine lv_aload_n hx hb dX3_restore_17 rfl (lv_at hl 0 rfl) ?_
      refine va_get (D := g) (ci := 3) (v := vI nx) (C := RX3) (T := TX3) (N := 3) hx hb hts inF_X3 hown hK.1 hP 0 rfl rfl 1 (by decide) lk_f16 (fun _ h9 => h9) rfl dX3_restore_18 ?_
      refine lv_iconst (v := Int32.ofInt 1) hx hb dX3_restore_21 rfl ?_
      refine ri_sub hx hb dX3_restore_22 (fun z22 e22 => ?_)
      refine lv_goto (tgt := 28) hx hb dX3_restore_23 (by decide) ?_
      refine va_put (D := g) (ci := 3) (v := vI z22) (ty := .int) (C := RX3) (T := TX3) (N := 3) hx hb hts inF_X3 tyX3 tyX3_ok nmX3 hown hK.1 hP hD hS 0 rfl rfl 1 (by decide) lk_f16 (fun _ h9 => h9) rfl (by decide +kernel) rfl rfl (Nat.le_of_ble_eq_true rfl) dX3_restore_28 (fun H locs hP hD hS => ?_)
      have hP : va_P g vwCl [(hp, oB 3 [.ref hr0, vI z22, vI kn]), (hr0, aR ca 8 rf), (t0, oB 6 [.ref t1, vI nt, vJ lt]), (t1, aJ ca 605 bt), (h0, oB 6 [.ref h1, vI n, vJ lm]), (h1, aJ ca 605 b)] H := hP
      have hD : va_D A [(hp, oB 3 [.ref hr0, vI z22, vI kn]), (hr0, aR ca 8 rf), (t0, oB 6 [.ref t1, vI nt, vJ lt]), (t1, aJ ca 605 bt), (h0, oB 6 [.ref h1, vI n, vJ lm]), (h1, aJ ca 605 b)] := hD
      refine lv_aload_n hx hb dX3_restore_31 rfl (lv_at hl 0 rfl) ?_
      refine lv_dup hx hb dX3_restore_32 rfl ?_
      refine va_get (D := g) (ci := 3) (v := vI kn) (C := RX3) (T := TX3) (N := 3) hx hb hts inF_X3 hown hK.1 hP 0 rfl rfl 2 (by decide) lk_f24 (fun _ h9 => h9) rfl dX3_restore_33 ?_
      refine lv_iconst (v := Int32.ofInt 1) hx hb dX3_restore_36 rfl ?_
      refine ri_sub hx hb dX3_restore_37 (fun z37 e37 => ?_)
      refine va_put (D := g) (ci := 3) (v := vI z37) (ty := .int) (C := RX3) (T := TX3) (N := 3) hx hb hts inF_X3 tyX3 tyX3_ok nmX3 hown hK.1 hP hD hS 0 rfl rfl 2 (by decide) lk_f24 (fun _ h9 => h9) rfl (by decide +kernel) rfl rfl (Nat.le_of_ble_eq_true rfl) dX3_restore_38 (fun H locs hP hD hS => ?_)
      have hP : va_P g vwCl [(hp, oB 3 [.ref hr0, vI z22, vI z37]), (hr0, aR ca 8 rf), (t0, oB 6 [.ref t1, vI nt, vJ lt]), (t1, aJ ca 605 bt), (h0, oB 6 [.ref h1, vI n, vJ lm]), (h1, aJ ca 605 b)] H := hP
      have hD : va_D A [(hp, oB 3 [.ref hr0, vI z22, vI z37]), (hr0, aR ca 8 rf), (t0, oB 6 [.ref t1, vI nt, vJ lt]), (t1, aJ ca 605 bt), (h0, oB 6 [.ref h1, vI n, vJ lm]), (h1, aJ ca 605 b)] := hD
      refine lv_aload_n hx hb dX3_restore_41 rfl (lv_at hl 1 rfl) ?_
      refine lv_aload_n hx hb dX3_restore_42 rfl (lv_at hl 0 rfl) ?_
      refine va_get (D := g) (ci := 3) (v := .ref hr0) (C := RX3) (T := TX3) (N := 3) hx hb hts inF_X3 hown hK.1 hP 0 rfl rfl 0 (by decide) lk_f11 (fun _ h9 => h9) rfl dX3_restore_43 ?_
      refine lv_aload_n hx hb dX3_restore_46 rfl (lv_at hl 0 rfl) ?_
      refine va_get (D := g) (ci := 3) (v := vI z22) (C := RX3) (T := TX3) (N := 3) hx hb hts inF_X3 hown hK.1 hP 0 rfl rfl 1 (by decide) lk_f16 (fun _ h9 => h9) rfl dX3_restore_47 ?_
      refine ra_rld hx hb hK hP 1 rfl dX3_restore_50 ⟨by omega, by omega⟩ (by omega) (x := t0) (by first | (rw [show z22 = (if 0 < nx then nx - 1 else 7) by rw [if_pos (by omega)]; omega]; exact hrf) | (rw [show (7 : Int) = (if 0 < nx then nx - 1 else 7) by rw [if_neg (by omega)]]; exact hrf)) ?_
      refine zc_VV (As := [.ref t0]) (rest := []) (wc := [(h0, oB 6 [.ref h1, vI n, vJ lm]), (h1, aJ ca 605 b), (t0, oB 6 [.ref t1, vI nt, vJ lt]), (t1, aJ ca 605 bt)]) (wr := [(hp, oB 3 [.ref hr0, vI z22, vI z37]), (hr0, aR ca 8 rf)]) (k_X6_becomeLike l g ca h0 h1 b n lm t0 t1 bt nt lt ) dX3_restore_51 (cwV 1 hts gX3_restore_X6_becomeLike rfl rfl rfl (by decide +kernel) (by rw [hR]; exact ⟨Nat.le_of_ble_eq_true rfl, Nat.le_of_ble_eq_true rfl⟩)) ⟨hx, hb, hml, hown, hts⟩ hl.1 hK hP hD hS hA 4 rfl rfl rfl [4, 5, 2, 3] [0, 1] rfl (by decide) rfl (by decide) (by decide) rfl rfl (Nat.le_of_ble_eq_true rfl) (by rw [hR]; exact ⟨Nat.le_of_ble_eq_true rfl, Nat.le_of_ble_eq_true rfl⟩) (fun u H locs q51 hP hD hS => ?_)
      have hP : va_P g vwCl [(hp, oB 3 [.ref hr0, vI z22, vI z37]), (hr0, aR ca 8 rf), (t0, oB 6 [.ref t1, vI nt, vJ lt]), (t1, aJ ca 605 bt), (h0, oB 6 [.ref h1, vI nt, vJ lt]), (h1, aJ ca 605 bt)] H := hP.sub [0, 1, 4, 5, 2, 3] rfl
      have hD : va_D A [(hp, oB 3 [.ref hr0, vI z22, vI z37]), (hr0, aR ca 8 rf), (t0, oB 6 [.ref t1, vI nt, vJ lt]), (t1, aJ ca 605 bt), (h0, oB 6 [.ref h1, vI nt, vJ lt]), (h1, aJ ca 605 bt)] := hD.sub [0, 1, 4, 5, 2, 3] (by decide) rfl
      refine lv_iconst (v := Int32.ofInt 1) hx hb dX3_restore_54 rfl ?_
      refine zr_Z hx hb hr hlk hQ (z22, z37) hP hD hS dX3_restore_55 (Nat.le_of_ble_eq_true rfl) (Nat.le_of_ble_eq_true rfl) (Or.inr rfl) ?_
      show 1 = 1 ∧ z22 = (if 0 < nx then nx - 1 else 7) ∧ z37 = kn - 1
      refine ⟨rfl, ?_, ?_⟩
      · split <;> omega
      · omega
  · exfalso; omega
set_option maxHeartbeats 4000000 in
set_option maxRecDepth 100000 in
theorem k_X3_lose (l : Launch) (g : va_G) (ca : Nat → ClassId) (hp : Nat) (hr0 : Nat) (nx : Int) (kn : Int)  : zV (S := Unit) l yX3_lose wsX3_lose ({ frames := 0, cells := 0, slots := 0, locals := 0 } : Room) g ca [.ref hp] [(hp, oB 3 [.ref hr0, vI nx, vI kn])] (fun (u : Unit) => True) (fun (u : Unit) => [(hp, oB 3 [.ref hr0, vI nx, vI 0])]) 0 0 := by
  refine zm_V (cc := cX3_lose) (maxL := 1) (ret := none) (by decide) rfl (Nat.le_of_ble_eq_true rfl) ?_
  intro p e s m below meth c A ls R args Q hR hargs hQ hx hb hml hr hts hown hlk hnm hK hP hD hA hS hl
  have hown : s.vm.findClass RX3 = some m.cls := hown
  have hl : lv_has ls 1 [(0, .ref hp)] := hl
  have lk_f24 : (Cond.fieldLink RX3 24 "DripRings$Past" "known" "I").before args s = true := hts _ (by decide +kernel)
  have inF_X3 : ∀ w ∈ wsX30, w ∈ wsX3_lose := by decide +kernel
  refine lv_aload_n hx hb dX3_lose_0 rfl (lv_at hl 0 rfl) ?_
  refine lv_iconst (v := Int32.ofInt 0) hx hb dX3_lose_1 rfl ?_
  refine va_put (D := g) (ci := 3) (v := vI 0) (ty := .int) (C := RX3) (T := TX3) (N := 3) hx hb hts inF_X3 tyX3 tyX3_ok nmX3 hown hK.1 hP hD hS 0 rfl rfl 2 (by decide) lk_f24 (fun _ h9 => h9) rfl (by decide +kernel) rfl rfl (Nat.le_of_ble_eq_true rfl) dX3_lose_2 (fun H locs hP hD hS => ?_)
  have hP : va_P g vwCl [(hp, oB 3 [.ref hr0, vI nx, vI 0])] H := hP
  have hD : va_D A [(hp, oB 3 [.ref hr0, vI nx, vI 0])] := hD
  refine zr_V hx hb hr hlk hQ () hP hD hS dX3_lose_5 (Nat.le_of_ble_eq_true rfl) (Nat.le_of_ble_eq_true rfl) ?_
  show True
  first | trivial | omega | assumption
