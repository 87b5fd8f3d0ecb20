set_option maxHeartbeats 4000000 in
set_option maxRecDepth 100000 in
theorem k_X8_readsFirst (l : Launch) (g : va_G) (ca : Nat → ClassId) (hm : Nat) (m0 : Nat) (m2 : Nat) (m3 : Nat) (m8 : Nat) (m9 : Nat) (m11 : Nat) (m12 : Nat) (m14 : Nat) (m19 : Nat) (m21 : Nat) (m22 : Nat) (m25 : Nat) (m26 : Nat) (un : Int) (mo : Int) (oft : Int) (la : Int) (du : Int) (to : Int) (tr : Int) (n : Int) (at0 : Int) (sa : Int) (vv : Int) (rdu : Int) (se : Int) (its : Int) (lt0 : Int) (rd : Int → Int)  : zV (S := Unit) l yX8_readsFirst wsX8_readsFirst ({ frames := 0, cells := 0, slots := 0, locals := 0 } : Room) g ca [.ref hm] [(hm, oB 8 [.ref m0, vI un, .ref m2, .ref m3, vI mo, vI oft, vI la, vI du, .ref m8, .ref m9, vI to, .ref m11, .ref m12, vJ tr, .ref m14, vI n, vI at0, vI sa, vI vv, .ref m19, vI rdu, .ref m21, .ref m22, vI se, vI its, .ref m25, .ref m26, vJ lt0]), (m19, aI ca 6 rd)] (fun (u : Unit) => True) (fun (u : Unit) => [(hm, oB 8 [.ref m0, vI un, .ref m2, .ref m3, vI mo, vI oft, vI la, vI du, .ref m8, .ref m9, vI to, .ref m11, .ref m12, vJ tr, .ref m14, vI n, vI at0, vI sa, vI vv, .ref m19, vI 0, .ref m21, .ref m22, vI 0, vI 0, .ref m25, .ref m26, vJ lt0]), (m19, aI ca 6 rd0)]) 0 0 := by
  refine zm_V (cc := cX8_readsFirst) (maxL := 1) (ret := none) (by decide) rfl (Nat.le_of_ble_eq_true rfl) ?_
  intro p e s m below meth c A ls R args Q hR hargs hQ hx hb hml hr hts hown hlk hnm hK hP hD hA hS hl
  have hown : s.vm.findClass RX8 = some m.cls := hown
  have hl : lv_has ls 1 [(0, .ref hm)] := hl
  have lk_f36 : (Cond.fieldLink RX8 36 "DripRingsModel" "read" "[I").before args s = true := hts _ (by decide +kernel)
  have inF_X8 : ∀ w ∈ wsX80, w ∈ wsX8_readsFirst := by decide +kernel
  have lk_f57 : (Cond.fieldLink RX8 57 "DripRingsModel" "readDues" "I").before args s = true := hts _ (by decide +kernel)
  have lk_f61 : (Cond.fieldLink RX8 61 "DripRingsModel" "seen" "I").before args s = true := hts _ (by decide +kernel)
  have lk_f64 : (Cond.fieldLink RX8 64 "DripRingsModel" "items" "I").before args s = true := hts _ (by decide +kernel)
  refine lv_aload_n hx hb dX8_readsFirst_0 rfl (lv_at hl 0 rfl) ?_
  refine va_get (D := g) (ci := 8) (v := .ref m19) (C := RX8) (T := TX8) (N := 28) hx hb hts inF_X8 hown hK.1 hP 0 rfl rfl 19 (by decide) lk_f36 (fun _ h9 => h9) rfl dX8_readsFirst_1 ?_
  refine lv_iconst (v := Int32.ofInt 0) hx hb dX8_readsFirst_4 rfl ?_
  refine lv_bipush (v := Int32.ofInt 81) hx hb dX8_readsFirst_5 (by decide) ?_
  refine ra_ist hx hb hK hP hD hS 1 rfl dX8_readsFirst_7 ⟨by omega, by omega⟩ (by omega) (fun H locs hP hD hS => ?_)
  have hP : va_P g vwCl [(hm, oB 8 [.ref m0, vI un, .ref m2, .ref m3, vI mo, vI oft, vI la, vI du, .ref m8, .ref m9, vI to, .ref m11, .ref m12, vJ tr, .ref m14, vI n, vI at0, vI sa, vI vv, .ref m19, vI rdu, .ref m21, .ref m22, vI se, vI its, .ref m25, .ref m26, vJ lt0]), (m19, aI ca 6 (zu rd 0 81))] H := hP
  have hD : va_D A [(hm, oB 8 [.ref m0, vI un, .ref m2, .ref m3, vI mo, vI oft, vI la, vI du, .ref m8, .ref m9, vI to, .ref m11, .ref m12, vJ tr, .ref m14, vI n, vI at0, vI sa, vI vv, .ref m19, vI rdu, .ref m21, .ref m22, vI se, vI its, .ref m25, .ref m26, vJ lt0]), (m19, aI ca 6 (zu rd 0 81))] := hD
  refine lv_aload_n hx hb dX8_readsFirst_8 rfl (lv_at hl 0 rfl) ?_
  refine va_get (D := g) (ci := 8) (v := .ref m19) (C := RX8) (T := TX8) (N := 28) hx hb hts inF_X8 hown hK.1 hP 0 rfl rfl 19 (by decide) lk_f36 (fun _ h9 => h9) rfl dX8_readsFirst_9 ?_
  refine lv_iconst (v := Int32.ofInt 1) hx hb dX8_readsFirst_12 rfl ?_
  refine lv_bipush (v := Int32.ofInt 8) hx hb dX8_readsFirst_13 (by decide) ?_
  refine ra_ist hx hb hK hP hD hS 1 rfl dX8_readsFirst_15 ⟨by omega, by omega⟩ (by omega) (fun H locs hP hD hS => ?_)
  have hP : va_P g vwCl [(hm, oB 8 [.ref m0, vI un, .ref m2, .ref m3, vI mo, vI oft, vI la, vI du, .ref m8, .ref m9, vI to, .ref m11, .ref m12, vJ tr, .ref m14, vI n, vI at0, vI sa, vI vv, .ref m19, vI rdu, .ref m21, .ref m22, vI se, vI its, .ref m25, .ref m26, vJ lt0]), (m19, aI ca 6 (zu (zu rd 0 81) 1 8))] H := hP
  have hD : va_D A [(hm, oB 8 [.ref m0, vI un, .ref m2, .ref m3, vI mo, vI oft, vI la, vI du, .ref m8, .ref m9, vI to, .ref m11, .ref m12, vJ tr, .ref m14, vI n, vI at0, vI sa, vI vv, .ref m19, vI rdu, .ref m21, .ref m22, vI se, vI its, .ref m25, .ref m26, vJ lt0]), (m19, aI ca 6 (zu (zu rd 0 81) 1 8))] := hD
  refine lv_aload_n hx hb dX8_readsFirst_16 rfl (lv_at hl 0 rfl) ?_
  refine va_get (D := g) (ci := 8) (v := .ref m19) (C := RX8) (T := TX8) (N := 28) hx hb hts inF_X8 hown hK.1 hP 0 rfl rfl 19 (by decide) lk_f36 (fun _ h9 => h9) rfl dX8_readsFirst_17 ?_
  refine lv_iconst (v := Int32.ofInt 2) hx hb dX8_readsFirst_20 rfl ?_
  refine lv_bipush (v := Int32.ofInt 9) hx hb dX8_readsFirst_21 (by decide) ?_
  refine ra_ist hx hb hK hP hD hS 1 rfl dX8_readsFirst_23 ⟨by omega, by omega⟩ (by omega) (fun H locs hP hD hS => ?_)
  have hP : va_P g vwCl [(hm, oB 8 [.ref m0, vI un, .ref m2, .ref m3, vI mo, vI oft, vI la, vI du, .ref m8, .ref m9, vI to, .ref m11, .ref m12, vJ tr, .ref m14, vI n, vI at0, vI sa, vI vv, .ref m19, vI rdu, .ref m21, .ref m22, vI se, vI its, .ref m25, .ref m26, vJ lt0]), (m19, aI ca 6 (zu (zu (zu rd 0 81) 1 8) 2 9))] H := hP
  have hD : va_D A [(hm, oB 8 [.ref m0, vI un, .ref m2, .ref m3, vI mo, vI oft, vI la, vI du, .ref m8, .ref m9, vI to, .ref m11, .ref m12, vJ tr, .ref m14, vI n, vI at0, vI sa, vI vv, .ref m19, vI rdu, .ref m21, .ref m22, vI se, vI its, .ref m25, .ref m26, vJ lt0]), (m19, aI ca 6 (zu (zu (zu rd 0 81) 1 8) 2 9))] := hD
  refine lv_aload_n hx hb dX8_readsFirst_24 rfl (lv_at hl 0 rfl) ?_
  refine va_get (D := g) (ci := 8) (v := .ref m19) (C := RX8) (T := TX8) (N := 28) hx hb hts inF_X8 hown hK.1 hP 0 rfl rfl 19 (by decide) lk_f36 (fun _ h9 => h9) rfl dX8_readsFirst_25 ?_
  refine lv_iconst (v := Int32.ofInt 3) hx hb dX8_readsFirst_28 rfl ?_
  refine lv_iconst (v := Int32.ofInt 1) hx hb dX8_readsFirst_29 rfl ?_
  refine ra_ist hx hb hK hP hD hS 1 rfl dX8_readsFirst_30 ⟨by omega, by omega⟩ (by omega) (fun H locs hP hD hS => ?_)
  have hP : va_P g vwCl [(hm, oB 8 [.ref m0, vI un, .ref m2, .ref m3, vI mo, vI oft, vI la, vI du, .ref m8, .ref m9, vI to, .ref m11, .ref m12, vJ tr, .ref m14, vI n, vI at0, vI sa, vI vv, .ref m19, vI rdu, .ref m21, .ref m22, vI se, vI its, .ref m25, .ref m26, vJ lt0]), (m19, aI ca 6 (zu (zu (zu (zu rd 0 81) 1 8) 2 9) 3 1))] H := hP
  have hD : va_D A [(hm, oB 8 [.ref m0, vI un, .ref m2, .ref m3, vI mo, vI oft, vI la, vI du, .ref m8, .ref m9, vI to, .ref m11, .ref m12, vJ tr, .ref m14, vI n, vI at0, vI sa, vI vv, .ref m19, vI rdu, .ref m21, .ref m22, vI se, vI its, .ref m25, .ref m26, vJ lt0]), (m19, aI ca 6 (zu (zu (zu (zu rd 0 81) 1 8) 2 9) 3 1))] := hD
  refine lv_aload_n hx hb dX8_readsFirst_31 rfl (lv_at hl 0 rfl) ?_
  refine va_get (D := g) (ci := 8) (v := .ref m19) (C := RX8) (T := TX8) (N := 28) hx hb hts inF_X8 hown hK.1 hP 0 rfl rfl 19 (by decide) lk_f36 (fun _ h9 => h9) rfl dX8_readsFirst_32 ?_
  refine lv_iconst (v := Int32.ofInt 4) hx hb dX8_readsFirst_35 rfl ?_
  refine lv_iconst (v := Int32.ofInt 3) hx hb dX8_readsFirst_36 rfl ?_
  refine ra_ist hx hb hK hP hD hS 1 rfl dX8_readsFirst_37 ⟨by omega, by omega⟩ (by omega) (fun H locs hP hD hS => ?_)
  have hP : va_P g vwCl [(hm, oB 8 [.ref m0, vI un, .ref m2, .ref m3, vI mo, vI oft, vI la, vI du, .ref m8, .ref m9, vI to, .ref m11, .ref m12, vJ tr, .ref m14, vI n, vI at0, vI sa, vI vv, .ref m19, vI rdu, .ref m21, .ref m22, vI se, vI its, .ref m25, .ref m26, vJ lt0]), (m19, aI ca 6 (zu (zu (zu (zu (zu rd 0 81) 1 8) 2 9) 3 1) 4 3))] H := hP
  have hD : va_D A [(hm, oB 8 [.ref m0, vI un, .ref m2, .ref m3, vI mo, vI oft, vI la, vI du, .ref m8, .ref m9, vI to, .ref m11, .ref m12, vJ tr, .ref m14, vI n, vI at0, vI sa, vI vv, .ref m19, vI rdu, .ref m21, .ref m22, vI se, vI its, .ref m25, .ref m26, vJ lt0]), (m19, aI ca 6 (zu (zu (zu (zu (zu rd 0 81) 1 8) 2 9) 3 1) 4 3))] := hD
  refine lv_aload_n hx hb dX8_readsFirst_38 rfl (lv_at hl 0 rfl) ?_
  refine va_get (D := g) (ci := 8) (v := .ref m19) (C := RX8) (T := TX8) (N := 28) hx hb hts inF_X8 hown hK.1 hP 0 rfl rfl 19 (by decide) lk_f36 (fun _ h9 => h9) rfl dX8_readsFirst_39 ?_
  refine lv_iconst (v := Int32.ofInt 5) hx hb dX8_readsFirst_42 rfl ?_
  refine lv_iconst (v := Int32.ofInt 0) hx hb dX8_readsFirst_43 rfl ?_
  refine ra_ist hx hb hK hP hD hS 1 rfl dX8_readsFirst_44 ⟨by omega, by omega⟩ (by omega) (fun H locs hP hD hS => ?_)
  have hP : va_P g vwCl [(hm, oB 8 [.ref m0, vI un, .ref m2, .ref m3, vI mo, vI oft, vI la, vI du, .ref m8, .ref m9, vI to, .ref m11, .ref m12, vJ tr, .ref m14, vI n, vI at0, vI sa, vI vv, .ref m19, vI rdu, .ref m21, .ref m22, vI se, vI its, .ref m25, .ref m26, vJ lt0]), (m19, aI ca 6 (zu (zu (zu (zu (zu (zu rd 0 81) 1 8) 2 9) 3 1) 4 3) 5 0))] H := hP
  have hD : va_D A [(hm, oB 8 [.ref m0, vI un, .ref m2, .ref m3, vI mo, vI oft, vI la, vI du, .ref m8, .ref m9, vI to, .ref m11, .ref m12, vJ tr, .ref m14, vI n, vI at0, vI sa, vI vv, .ref m19, vI rdu, .ref m21, .ref m22, vI se, vI its, .ref m25, .ref m26, vJ lt0]), (m19, aI ca 6 (zu (zu (zu (zu (zu (zu rd 0 81) 1 8) 2 9) 3 1) 4 3) 5 0))] := hD
  refine lv_aload_n hx hb dX8_readsFirst_45 rfl (lv_at hl 0 rfl) ?_
  refine lv_iconst (v := Int32.ofInt 0) hx hb dX8_readsFirst_46 rfl ?_
  refine va_put (D := g) (ci := 8) (v := vI 0) (ty := .int) (C := RX8) (T := TX8) (N := 28) hx hb hts inF_X8 tyX8 tyX8_ok nmX8 hown hK.1 hP hD hS 0 rfl rfl 20 (by decide) lk_f57 (fun _ h9 => h9) rfl (by decide +kernel) rfl rfl (Nat.le_of_ble_eq_true rfl) dX8_readsFirst_47 (fun H locs hP hD hS => ?_)
  have hP : va_P g vwCl [(hm, oB 8 [.ref m0, vI un, .ref m2, .ref m3, vI mo, vI oft, vI la, vI du, .ref m8, .ref m9, vI to, .ref m11, .ref m12, vJ tr, .ref m14, vI n, vI at0, vI sa, vI vv, .ref m19, vI 0, .ref m21, .ref m22, vI se, vI its, .ref m25, .ref m26, vJ lt0]), (m19, aI ca 6 (zu (zu (zu (zu (zu (zu rd 0 81) 1 8) 2 9) 3 1) 4 3) 5 0))] H := hP
  have hD : va_D A [(hm, oB 8 [.ref m0, vI un, .ref m2, .ref m3, vI mo, vI oft, vI la, vI du, .ref m8, .ref m9, vI to, .ref m11, .ref m12, vJ tr, .ref m14, vI n, vI at0, vI sa, vI vv, .ref m19, vI 0, .ref m21, .ref m22, vI se, vI its, .ref m25, .ref m26, vJ lt0]), (m19, aI ca 6 (zu (zu (zu (zu (zu (zu rd 0 81) 1 8) 2 9) 3 1) 4 3) 5 0))] := hD
  refine lv_aload_n hx hb dX8_readsFirst_50 rfl (lv_at hl 0 rfl) ?_
  refine lv_iconst (v := Int32.ofInt 0) hx hb dX8_readsFirst_51 rfl ?_
  refine va_put (D := g) (ci := 8) (v := vI 0) (ty := .int) (C := RX8) (T := TX8) (N := 28) hx hb hts inF_X8 tyX8 tyX8_ok nmX8 hown hK.1 hP hD hS 0 rfl rfl 23 (by decide) lk_f61 (fun _ h9 => h9) rfl (by decide +kernel) rfl rfl (Nat.le_of_ble_eq_true rfl) dX8_readsFirst_52 (fun H locs hP hD hS => ?_)
  have hP : va_P g vwCl [(hm, oB 8 [.ref m0, vI un, .ref m2, .ref m3, vI mo, vI oft, vI la, vI du, .ref m8, .ref m9, vI to, .ref m11, .ref m12, vJ tr, .ref m14, vI n, vI at0, vI sa, vI vv, .ref m19, vI 0, .ref m21, .ref m22, vI 0, vI its, .ref m25, .ref m26, vJ lt0]), (m19, aI ca 6 (zu (zu (zu (zu (zu (zu rd 0 81) 1 8) 2 9) 3 1) 4 3) 5 0))] H := hP
  have hD : va_D A [(hm, oB 8 [.ref m0, vI un, .ref m2, .ref m3, vI mo, vI oft, vI la, vI du, .ref m8, .ref m9, vI to, .ref m11, .ref m12, vJ tr, .ref m14, vI n, vI at0, vI sa, vI vv, .ref m19, vI 0, .ref m21, .ref m22, vI 0, vI its, .ref m25, .ref m26, vJ lt0]), (m19, aI ca 6 (zu (zu (zu (zu (zu (zu rd 0 81) 1 8) 2 9) 3 1) 4 3) 5 0))] := hD
  refine lv_aload_n hx hb dX8_readsFirst_55 rfl (lv_at hl 0 rfl) ?_
  refine lv_iconst (v := Int32.ofInt 0) hx hb dX8_readsFirst_56 rfl ?_
  refine va_put (D := g) (ci := 8) (v := vI 0) (ty := .int) (C := RX8) (T := TX8) (N := 28) hx hb hts inF_X8 tyX8 tyX8_ok nmX8 hown hK.1 hP hD hS 0 rfl rfl 24 (by decide) lk_f64 (fun _ h9 => h9) rfl (by decide +kernel) rfl rfl (Nat.le_of_ble_eq_true rfl) dX8_readsFirst_57 (fun H locs hP hD hS => ?_)
  have hP : va_P g vwCl [(hm, oB 8 [.ref m0, vI un, .ref m2, .ref m3, vI mo, vI oft, vI la, vI du, .ref m8, .ref m9, vI to, .ref m11, .ref m12, vJ tr, .ref m14, vI n, vI at0, vI sa, vI vv, .ref m19, vI 0, .ref m21, .ref m22, vI 0, vI 0, .ref m25, .ref m26, vJ lt0]), (m19, aI ca 6 (zu (zu (zu (zu (zu (zu rd 0 81) 1 8) 2 9) 3 1) 4 3) 5 0))] H := hP
  have hD : va_D A [(hm, oB 8 [.ref m0, vI un, .ref m2, .ref m3, vI mo, vI oft, vI la, vI du, .ref m8, .ref m9, vI to, .ref m11, .ref m12, vJ tr, .ref m14, vI n, vI at0, vI sa, vI vv, .ref m19, vI 0, .ref m21, .ref m22, vI 0, vI 0, .ref m25, .ref m26, vJ lt0]), (m19, aI ca 6 (zu (zu (zu (zu (zu (zu rd 0 81) 1 8) 2 9) 3 1) 4 3) 5 0))] := hD
  have hP := za_extI hP 1 rfl (rd0) (fun j hj0 hj1 => (by
        unfold rd0 rdf
        simp only [zu_e]
        rcases (show j = 0 ∨ j = 1 ∨ j = 2 ∨ j = 3 ∨ j = 4 ∨ j = 5 by omega) with h | h | h | h | h | h <;> subst h <;> rfl))
  have hD := hD.set (e := aI ca 6 (rd0)) (show ([(hm, oB 8 [.ref m0, vI un, .ref m2, .ref m3, vI mo, vI oft, vI la, vI du, .ref m8, .ref m9, vI to, .ref m11, .ref m12, vJ tr, .ref m14, vI n, vI at0, vI sa, vI vv, .ref m19, vI 0, .ref m21, .ref m22, vI 0, vI 0, .ref m25, .ref m26, vJ lt0]), (m19, aI ca 6 (zu (zu (zu (zu (zu (zu rd 0 81) 1 8) 2 9) 3 1) 4 3) 5 0))] : va_W)[1]? = some _ from rfl)
  have hP : va_P g vwCl [(hm, oB 8 [.ref m0, vI un, .ref m2, .ref m3, vI mo, vI oft, vI la, vI du, .ref m8, .ref m9, vI to, .ref m11, .ref m12, vJ tr, .ref m14, vI n, vI at0, vI sa, vI vv, .ref m19, vI 0, .ref m21, .ref m22, vI 0, vI 0, .ref m25, .ref m26, vJ lt0]), (m19, aI ca 6 rd0)] H := hP
  have hD : va_D A [(hm, oB 8 [.ref m0, vI un, .ref m2, .ref m3, vI mo, vI oft, vI la, vI du, .ref m8, .ref m9, vI to, .ref m11, .ref m12, vJ tr, .ref m14, vI n, vI at0, vI sa, vI vv, .ref m19, vI 0, .ref m21, .ref m22, vI 0, vI 0, .ref m25, .ref m26, vJ lt0]), (m19, aI ca 6 rd0)] := hD
  refine zr_V hx hb hr hlk hQ () hP hD hS dX8_readsFirst_60 (Nat.le_of_ble_eq_true rfl) (Nat.le_of_ble_eq_true rfl) ?_
  show True
  trivial
set_option maxHeartbeats 4000000 in
set_option maxRecDepth 100000 in
theorem k_X8_becomes (l : Launch) (g : va_G) (ca : Nat → ClassId) (hm : Nat) (m0 : Nat) (m2 : Nat) (m3 : Nat) (m8 : Nat) (m9 : Nat) (m11 : Nat) (m12 : Nat) (m14 : Nat) (m19 : Nat) (m21 : Nat) (m22 : Nat) (m25 : Nat) (m26 : Nat) (un : Int) (mo : Int) (oft : Int) (la : Int) (du : Int) (to : Int) (tr : Int) (n : Int) (at0 : Int) (sa : Int) (vv : Int) (rdu : Int) (se : Int) (its : Int) (lt0 : Int) (d : Int → Int) (kp : Int → Int) (w : Int → Int) (dn : Int → Int) (dw : Int → Int) (rd : Int → Int) (rN : Int → Int) (rW : Int → Int) (hRD : RDok rd) : zV (S := (Int → Int)) l yX8_becomes wsX8_becomes ({ frames := 1, cells := 0, slots := 0, locals := 22 } : Room) g ca [.ref hm] [(hm, oB 8 [.ref m0, vI un, .ref m2, .ref m3, vI mo, vI oft, vI la, vI du, .ref m8, .ref m9, vI to, .ref m11, .ref m12, vJ tr, .ref m14, vI n, vI at0, vI sa, vI vv, .ref m19, vI rdu, .ref m21, .ref m22, vI se, vI its, .ref m25, .ref m26, vJ lt0]), (m0, aJ ca 7284 d), (m2, aZ ca 2 kp), (m3, aI ca 5 w), (m8, aI ca 6 dn), (m9, aI ca 6 dw), (m19, aI ca 6 rd), (m21, aI ca 6 rN), (m22, aI ca 6 rW)] (fun (u : (Int → Int)) => AT u 0 bg 0 0) (fun (u : (Int → Int)) => [(hm, oB 8 [.ref m0, vI 0, .ref m2, .ref m3, vI (rd 1), vI (rd 2), vI (rd 5), vI rdu, .ref m8, .ref m9, vI 0, .ref m11, .ref m12, vJ tr, .ref m14, vI n, vI at0, vI sa, vI vv, .ref m19, vI rdu, .ref m21, .ref m22, vI se, vI its, .ref m25, .ref m26, vJ lt0]), (m0, aJ ca 7284 u), (m2, aZ ca 2 (fun _ => 0)), (m3, aI ca 5 (wf (rd 0) (rd 3) (rd 4))), (m8, aI ca 6 rN), (m9, aI ca 6 rW), (m19, aI ca 6 rd), (m21, aI ca 6 rN), (m22, aI ca 6 rW)]) 0 0 := by
  refine zm_V (cc := cX8_becomes) (maxL := 2) (ret := none) (by decide) rfl (Nat.le_of_ble_eq_true rfl) ?_
  intro p e s m below meth c A ls R args Q hR hargs hQ hx hb hml hr hts hown hlk hnm hK hP hD hA hS hl
  have hown : s.vm.findClass RX8 = some m.cls := hown
  have hl : lv_has ls 2 [(0, .ref hm)] := hl
  have lk_f17 : (Cond.fieldLink RX8 17 "DripRingsModel" "weights" "[I").before args s = true := hts _ (by decide +kernel)
  have inF_X8 : ∀ w ∈ wsX80, w ∈ wsX8_becomes := by decide +kernel
  have lk_f36 : (Cond.fieldLink RX8 36 "DripRingsModel" "read" "[I").before args s = true := hts _ (by decide +kernel)
  have lk_f67 : (Cond.fieldLink RX8 67 "DripRingsModel" "drips" "I").before args s = true := hts _ (by decide +kernel)
  have lk_f70 : (Cond.fieldLink RX8 70 "DripRingsModel" "each" "I").before args s = true := hts _ (by decide +kernel)
  have lk_f73 : (Cond.fieldLink RX8 73 "DripRingsModel" "later" "I").before args s = true := hts _ (by decide +kernel)
  have lk_f57 : (Cond.fieldLink RX8 57 "DripRingsModel" "readDues" "I").before args s = true := hts _ (by decide +kernel)
  have lk_f76 : (Cond.fieldLink RX8 76 "DripRingsModel" "dues" "I").before args s = true := hts _ (by decide +kernel)
  have lk_f79 : (Cond.fieldLink RX8 79 "DripRingsModel" "graves" "I").before args s = true := hts _ (by decide +kernel)
  have lk_f82 : (Cond.fieldLink RX8 82 "DripRingsModel" "undoes" "I").before args s = true := hts _ (by decide +kernel)
  have lk_f13 : (Cond.fieldLink RX8 13 "DripRingsModel" "isKept" "[Z").before args s = true := hts _ (by decide +kernel)
  have lk_f21 : (Cond.fieldLink RX8 21 "DripRingsModel" "dueNight" "[I").before args s = true := hts _ (by decide +kernel)
  have lk_f39 : (Cond.fieldLink RX8 39 "DripRingsModel" "readNight" "[I").before args s = true := hts _ (by decide +kernel)
  have lk_f24 : (Cond.fieldLink RX8 24 "DripRingsModel" "dueWeight" "[I").before args s = true := hts _ (by decide +kernel)
  have lk_f42 : (Cond.fieldLink RX8 42 "DripRingsModel" "readWeight" "[I").before args s = true := hts _ (by decide +kernel)
  obtain ⟨hk1, hk2, hk3, hk4, hk5, hk6, hk7⟩ := id hRD
  refine lv_aload_n hx hb dX8_becomes_0 rfl (lv_at hl 0 rfl) ?_
  refine va_get (D := g) (ci := 8) (v := .ref m3) (C := RX8) (T := TX8) (N := 28) hx hb hts inF_X8 hown hK.1 hP 0 rfl rfl 3 (by decide) lk_f17 (fun _ h9 => h9) rfl dX8_becomes_1 ?_
  refine lv_iconst (v := Int32.ofInt 0) hx hb dX8_becomes_4 rfl ?_
  refine lv_aload_n hx hb dX8_becomes_5 rfl (lv_at hl 0 rfl) ?_
  refine va_get (D := g) (ci := 8) (v := .ref m19) (C := RX8) (T := TX8) (N := 28) hx hb hts inF_X8 hown hK.1 hP 0 rfl rfl 19 (by decide) lk_f36 (fun _ h9 => h9) rfl dX8_becomes_6 ?_
  refine lv_iconst (v := Int32.ofInt 0) hx hb dX8_becomes_9 rfl ?_
  refine ra_ild hx hb hK hP 6 rfl dX8_becomes_10 ⟨by omega, by omega⟩ (by omega) ?_
  refine ra_ist hx hb hK hP hD hS 3 rfl dX8_becomes_11 ⟨by omega, by omega⟩ (by omega) (fun H locs hP hD hS => ?_)
  have hP : va_P g vwCl [(hm, oB 8 [.ref m0, vI un, .ref m2, .ref m3, vI mo, vI oft, vI la, vI du, .ref m8, .ref m9, vI to, .ref m11, .ref m12, vJ tr, .ref m14, vI n, vI at0, vI sa, vI vv, .ref m19, vI rdu, .ref m21, .ref m22, vI se, vI its, .ref m25, .ref m26, vJ lt0]), (m0, aJ ca 7284 d), (m2, aZ ca 2 kp), (m3, aI ca 5 (zu w 0 (rd 0))), (m8, aI ca 6 dn), (m9, aI ca 6 dw), (m19, aI ca 6 rd), (m21, aI ca 6 rN), (m22, aI ca 6 rW)] H := hP
  have hD : va_D A [(hm, oB 8 [.ref m0, vI un, .ref m2, .ref m3, vI mo, vI oft, vI la, vI du, .ref m8, .ref m9, vI to, .ref m11, .ref m12, vJ tr, .ref m14, vI n, vI at0, vI sa, vI vv, .ref m19, vI rdu, .ref m21, .ref m22, vI se, vI its, .ref m25, .ref m26, vJ lt0]), (m0, aJ ca 7284 d), (m2, aZ ca 2 kp), (m3, aI ca 5 (zu w 0 (rd 0))), (m8, aI ca 6 dn), (m9, aI ca 6 dw), (m19, aI ca 6 rd), (m21, aI ca 6 rN), (m22, aI ca 6 rW)] := hD
  refine lv_iconst (v := Int32.ofInt 1) hx hb dX8_becomes_12 rfl ?_
  refine lv_istore_n (lv' := [(1, vI 1), (0, .ref hm)]) hx hb dX8_becomes_13 rfl hl (by decide) rfl (fun ls hl => ?_)
  have L14 : ∀ (N14 : Nat) (o : Int) (f : Int → Int) (hi : 1 ≤ o ∧ o ≤ 5) (hf : ∀ j : Int, 0 ≤ j → j < o → f j = wf (rd 0) (rd 3) (rd 4) j) (hμ : (5 - o).toNat < N14) (H : Heap) (locs : List Loc) (hP : va_P g vwCl [(hm, oB 8 [.ref m0, vI un, .ref m2, .ref m3, vI mo, vI oft, vI la, vI du, .ref m8, .ref m9, vI to, .ref m11, .ref m12, vJ tr, .ref m14, vI n, vI at0, vI sa, vI vv, .ref m19, vI rdu, .ref m21, .ref m22, vI se, vI its, .ref m25, .ref m26, vJ lt0]), (m0, aJ ca 7284 d), (m2, aZ ca 2 kp), (m3, aI ca 5 f), (m8, aI ca 6 dn), (m9, aI ca 6 dw), (m19, aI ca 6 rd), (m21, aI ca 6 rN), (m22, aI ca 6 rW)] H) (hD : va_D A [(hm, oB 8 [.ref m0, vI un, .ref m2, .ref m3, vI mo, vI oft, vI la, vI du, .ref m8, .ref m9, vI to, .ref m11, .ref m12, vJ tr, .ref m14, vI n, vI at0, vI sa, vI vv, .ref m19, vI rdu, .ref m21, .ref m22, vI se, vI its, .ref m25, .ref m26, vJ lt0]), (m0, aJ ca 7284 d), (m2, aZ ca 2 kp), (m3, aI ca 5 f), (m8, aI ca 6 dn), (m9, aI ca 6 dw), (m19, aI ca 6 rd), (m21, aI ca 6 rN), (m22, aI ca 6 rW)]) (hS : va_S A s.heap H locs) (ls : Array Slot) (hl : lv_has ls 2 [(1, vI o), (0, .ref hm)]), W p l e R s m args below meth c H locs 0 0 Q (F0 m 14 ls []) := by
    intro N14; induction N14 with
    | zero => intro o f hi hf hμ; exact absurd hμ (Nat.not_lt_zero _)
    | succ N14 ih14 =>
      intro o f hi hf hμ H locs hP hD hS ls hl
      refine lv_iload_n hx hb dX8_becomes_14 rfl (lv_at hl 0 rfl) ?_
      refine lv_iconst (v := Int32.ofInt 5) hx hb dX8_becomes_15 rfl ?_
      refine ri_icmp_ge (tgt := 53) hx hb dX8_becomes_16 (by decide) ⟨by omega, by omega⟩ ⟨by omega, by omega⟩ (fun c16 => ?_) (fun c16 => ?_)
      · skip
        refine lv_aload_n hx hb dX8_becomes_53 rfl (lv_at hl 1 rfl) ?_
        refine lv_aload_n hx hb dX8_becomes_54 rfl (lv_at hl 1 rfl) ?_
        refine va_get (D := g) (ci := 8) (v := .ref m19) (C := RX8) (T := TX8) (N := 28) hx hb hts inF_X8 hown hK.1 hP 0 rfl rfl 19 (by decide) lk_f36 (fun _ h9 => h9) rfl dX8_becomes_55 ?_
        refine lv_iconst (v := Int32.ofInt 1) hx hb dX8_becomes_58 rfl ?_
        refine ra_ild hx hb hK hP 6 rfl dX8_becomes_59 ⟨by omega, by omega⟩ (by omega) ?_
        refine va_put (D := g) (ci := 8) (v := vI (rd 1)) (ty := .int) (C := RX8) (T := TX8) (N := 28) hx hb hts inF_X8 tyX8 tyX8_ok nmX8 hown hK.1 hP hD hS 0 rfl rfl 4 (by decide) lk_f67 (fun _ h9 => h9) rfl (by decide +kernel) rfl rfl (Nat.le_of_ble_eq_true rfl) dX8_becomes_60 (fun H locs hP hD hS => ?_)
        have hP : va_P g vwCl [(hm, oB 8 [.ref m0, vI un, .ref m2, .ref m3, vI (rd 1), vI oft, vI la, vI du, .ref m8, .ref m9, vI to, .ref m11, .ref m12, vJ tr, .ref m14, vI n, vI at0, vI sa, vI vv, .ref m19, vI rdu, .ref m21, .ref m22, vI se, vI its, .ref m25, .ref m26, vJ lt0]), (m0, aJ ca 7284 d), (m2, aZ ca 2 kp), (m3, aI ca 5 f), (m8, aI ca 6 dn), (m9, aI ca 6 dw), (m19, aI ca 6 rd), (m21, aI ca 6 rN), (m22, aI ca 6 rW)] H := hP
        have hD : va_D A [(hm, oB 8 [.ref m0, vI un, .ref m2, .ref m3, vI (rd 1), vI oft, vI la, vI du, .ref m8, .ref m9, vI to, .ref m11, .ref m12, vJ tr, .ref m14, vI n, vI at0, vI sa, vI vv, .ref m19, vI rdu, .ref m21, .ref m22, vI se, vI its, .ref m25, .ref m26, vJ lt0]), (m0, aJ ca 7284 d), (m2, aZ ca 2 kp), (m3, aI ca 5 f), (m8, aI ca 6 dn), (m9, aI ca 6 dw), (m19, aI ca 6 rd), (m21, aI ca 6 rN), (m22, aI ca 6 rW)] := hD
        refine lv_aload_n hx hb dX8_becomes_63 rfl (lv_at hl 1 rfl) ?_
        refine lv_aload_n hx hb dX8_becomes_64 rfl (lv_at hl 1 rfl) ?_
        refine va_get (D := g) (ci := 8) (v := .ref m19) (C := RX8) (T := TX8) (N := 28) hx hb hts inF_X8 hown hK.1 hP 0 rfl rfl 19 (by decide) lk_f36 (fun _ h9 => h9) rfl dX8_becomes_65 ?_
        refine lv_iconst (v := Int32.ofInt 2) hx hb dX8_becomes_68 rfl ?_
        refine ra_ild hx hb hK hP 6 rfl dX8_becomes_69 ⟨by omega, by omega⟩ (by omega) ?_
        refine va_put (D := g) (ci := 8) (v := vI (rd 2)) (ty := .int) (C := RX8) (T := TX8) (N := 28) hx hb hts inF_X8 tyX8 tyX8_ok nmX8 hown hK.1 hP hD hS 0 rfl rfl 5 (by decide) lk_f70 (fun _ h9 => h9) rfl (by decide +kernel) rfl rfl (Nat.le_of_ble_eq_true rfl) dX8_becomes_70 (fun H locs hP hD hS => ?_)
        have hP : va_P g vwCl [(hm, oB 8 [.ref m0, vI un, .ref m2, .ref m3, vI (rd 1), vI (rd 2), vI la, vI du, .ref m8, .ref m9, vI to, .ref m11, .ref m12, vJ tr, .ref m14, vI n, vI at0, vI sa, vI vv, .ref m19, vI rdu, .ref m21, .ref m22, vI se, vI its, .ref m25, .ref m26, vJ lt0]), (m0, aJ ca 7284 d), (m2, aZ ca 2 kp), (m3, aI ca 5 f), (m8, aI ca 6 dn), (m9, aI ca 6 dw), (m19, aI ca 6 rd), (m21, aI ca 6 rN), (m22, aI ca 6 rW)] H := hP
        have hD : va_D A [(hm, oB 8 [.ref m0, vI un, .ref m2, .ref m3, vI (rd 1), vI (rd 2), vI la, vI du, .ref m8, .ref m9, vI to, .ref m11, .ref m12, vJ tr, .ref m14, vI n, vI at0, vI sa, vI vv, .ref m19, vI rdu, .ref m21, .ref m22, vI se, vI its, .ref m25, .ref m26, vJ lt0]), (m0, aJ ca 7284 d), (m2, aZ ca 2 kp), (m3, aI ca 5 f), (m8, aI ca 6 dn), (m9, aI ca 6 dw), (m19, aI ca 6 rd), (m21, aI ca 6 rN), (m22, aI ca 6 rW)] := hD
        refine lv_aload_n hx hb dX8_becomes_73 rfl (lv_at hl 1 rfl) ?_
        refine lv_aload_n hx hb dX8_becomes_74 rfl (lv_at hl 1 rfl) ?_
        refine va_get (D := g) (ci := 8) (v := .ref m19) (C := RX8) (T := TX8) (N := 28) hx hb hts inF_X8 hown hK.1 hP 0 rfl rfl 19 (by decide) lk_f36 (fun _ h9 => h9) rfl dX8_becomes_75 ?_
        refine lv_iconst (v := Int32.ofInt 5) hx hb dX8_becomes_78 rfl ?_
        refine ra_ild hx hb hK hP 6 rfl dX8_becomes_79 ⟨by omega, by omega⟩ (by omega) ?_
        refine va_put (D := g) (ci := 8) (v := vI (rd 5)) (ty := .int) (C := RX8) (T := TX8) (N := 28) hx hb hts inF_X8 tyX8 tyX8_ok nmX8 hown hK.1 hP hD hS 0 rfl rfl 6 (by decide) lk_f73 (fun _ h9 => h9) rfl (by decide +kernel) rfl rfl (Nat.le_of_ble_eq_true rfl) dX8_becomes_80 (fun H locs hP hD hS => ?_)
        have hP : va_P g vwCl [(hm, oB 8 [.ref m0, vI un, .ref m2, .ref m3, vI (rd 1), vI (rd 2), vI (rd 5), vI du, .ref m8, .ref m9, vI to, .ref m11, .ref m12, vJ tr, .ref m14, vI n, vI at0, vI sa, vI vv, .ref m19, vI rdu, .ref m21, .ref m22, vI se, vI its, .ref m25, .ref m26, vJ lt0]), (m0, aJ ca 7284 d), (m2, aZ ca 2 kp), (m3, aI ca 5 f), (m8, aI ca 6 dn), (m9, aI ca 6 dw), (m19, aI ca 6 rd), (m21, aI ca 6 rN), (m22, aI ca 6 rW)] H := hP
        have hD : va_D A [(hm, oB 8 [.ref m0, vI un, .ref m2, .ref m3, vI (rd 1), vI (rd 2), vI (rd 5), vI du, .ref m8, .ref m9, vI to, .ref m11, .ref m12, vJ tr, .ref m14, vI n, vI at0, vI sa, vI vv, .ref m19, vI rdu, .ref m21, .ref m22, vI se, vI its, .ref m25, .ref m26, vJ lt0]), (m0, aJ ca 7284 d), (m2, aZ ca 2 kp), (m3, aI ca 5 f), (m8, aI ca 6 dn), (m9, aI ca 6 dw), (m19, aI ca 6 rd), (m21, aI ca 6 rN), (m22, aI ca 6 rW)] := hD
        refine lv_aload_n hx hb dX8_becomes_83 rfl (lv_at hl 1 rfl) ?_
        refine lv_aload_n hx hb dX8_becomes_84 rfl (lv_at hl 1 rfl) ?_
        refine va_get (D := g) (ci := 8) (v := vI rdu) (C := RX8) (T := TX8) (N := 28) hx hb hts inF_X8 hown hK.1 hP 0 rfl rfl 20 (by decide) lk_f57 (fun _ h9 => h9) rfl dX8_becomes_85 ?_
        refine va_put (D := g) (ci := 8) (v := vI rdu) (ty := .int) (C := RX8) (T := TX8) (N := 28) hx hb hts inF_X8 tyX8 tyX8_ok nmX8 hown hK.1 hP hD hS 0 rfl rfl 7 (by decide) lk_f76 (fun _ h9 => h9) rfl (by decide +kernel) rfl rfl (Nat.le_of_ble_eq_true rfl) dX8_becomes_88 (fun H locs hP hD hS => ?_)
        have hP : va_P g vwCl [(hm, oB 8 [.ref m0, vI un, .ref m2, .ref m3, vI (rd 1), vI (rd 2), vI (rd 5), vI rdu, .ref m8, .ref m9, vI to, .ref m11, .ref m12, vJ tr, .ref m14, vI n, vI at0, vI sa, vI vv, .ref m19, vI rdu, .ref m21, .ref m22, vI se, vI its, .ref m25, .ref m26, vJ lt0]), (m0, aJ ca 7284 d), (m2, aZ ca 2 kp), (m3, aI ca 5 f), (m8, aI ca 6 dn), (m9, aI ca 6 dw), (m19, aI ca 6 rd), (m21, aI ca 6 rN), (m22, aI ca 6 rW)] H := hP
        have hD : va_D A [(hm, oB 8 [.ref m0, vI un, .ref m2, .ref m3, vI (rd 1), vI (rd 2), vI (rd 5), vI rdu, .ref m8, .ref m9, vI to, .ref m11, .ref m12, vJ tr, .ref m14, vI n, vI at0, vI sa, vI vv, .ref m19, vI rdu, .ref m21, .ref m22, vI se, vI its, .ref m25, .ref m26, vJ lt0]), (m0, aJ ca 7284 d), (m2, aZ ca 2 kp), (m3, aI ca 5 f), (m8, aI ca 6 dn), (m9, aI ca 6 dw), (m19, aI ca 6 rd), (m21, aI ca 6 rN), (m22, aI ca 6 rW)] := hD
        refine lv_iconst (v := Int32.ofInt 0) hx hb dX8_becomes_91 rfl ?_
        refine lv_istore_n (lv' := [(1, vI 0), (0, .ref hm)]) hx hb dX8_becomes_92 rfl hl (by decide) rfl (fun ls hl => ?_)
        have L93 : ∀ (N93 : Nat) (i : Int) (g1 : Int → Int) (g2 : Int → Int) (hi2 : 0 ≤ i ∧ i ≤ 6) (hg1 : ∀ j : Int, 0 ≤ j → j < i → g1 j = rN j) (hg2 : ∀ j : Int, 0 ≤ j → j < i → g2 j = rW j) (hμ : (6 - i).toNat < N93) (H : Heap) (locs : List Loc) (hP : va_P g vwCl [(hm, oB 8 [.ref m0, vI un, .ref m2, .ref m3, vI (rd 1), vI (rd 2), vI (rd 5), vI rdu, .ref m8, .ref m9, vI to, .ref m11, .ref m12, vJ tr, .ref m14, vI n, vI at0, vI sa, vI vv, .ref m19, vI rdu, .ref m21, .ref m22, vI se, vI its, .ref m25, .ref m26, vJ lt0]), (m0, aJ ca 7284 d), (m2, aZ ca 2 kp), (m3, aI ca 5 f), (m8, aI ca 6 g1), (m9, aI ca 6 g2), (m19, aI ca 6 rd), (m21, aI ca 6 rN), (m22, aI ca 6 rW)] H) (hD : va_D A [(hm, oB 8 [.ref m0, vI un, .ref m2, .ref m3, vI (rd 1), vI (rd 2), vI (rd 5), vI rdu, .ref m8, .ref m9, vI to, .ref m11, .ref m12, vJ tr, .ref m14, vI n, vI at0, vI sa, vI vv, .ref m19, vI rdu, .ref m21, .ref m22, vI se, vI its, .ref m25, .ref m26, vJ lt0]), (m0, aJ ca 7284 d), (m2, aZ ca 2 kp), (m3, aI ca 5 f), (m8, aI ca 6 g1), (m9, aI ca 6 g2), (m19, aI ca 6 rd), (m21, aI ca 6 rN), (m22, aI ca 6 rW)]) (hS : va_S A s.heap H locs) (ls : Array Slot) (hl : lv_has ls 2 [(1, vI i), (0, .ref hm)]), W p l e R s m args below meth c H locs 0 0 Q (F0 m 93 ls []) := by
          intro N93; induction N93 with
          | zero => intro i g1 g2 hi2 hg1 hg2 hμ; exact absurd hμ (Nat.not_lt_zero _)
          | succ N93 ih93 =>
            intro i g1 g2 hi2 hg1 hg2 hμ H locs hP hD hS ls hl
            refine lv_iload_n hx hb dX8_becomes_93 rfl (lv_at hl 0 rfl) ?_
            refine lv_bipush (v := Int32.ofInt 6) hx hb dX8_becomes_94 (by decide) ?_
            refine ri_icmp_ge (tgt := 129) hx hb dX8_becomes_96 (by decide) ⟨by omega, by omega⟩ ⟨by omega, by omega⟩ (fun c96 => ?_) (fun c96 => ?_)
            · skip
              refine lv_aload_n hx hb dX8_becomes_129 rfl (lv_at hl 1 rfl) ?_
              refine lv_iconst (v := Int32.ofInt 0) hx hb dX8_becomes_130 rfl ?_
              refine va_put (D := g) (ci := 8) (v := vI 0) (ty := .int) (C := RX8) (T := TX8) (N := 28) hx hb hts inF_X8 tyX8 tyX8_ok nmX8 hown hK.1 hP hD hS 0 rfl rfl 10 (by decide) lk_f79 (fun _ h9 => h9) rfl (by decide +kernel) rfl rfl (Nat.le_of_ble_eq_true rfl) dX8_becomes_131 (fun H locs hP hD hS => ?_)
              have hP : va_P g vwCl [(hm, oB 8 [.ref m0, vI un, .ref m2, .ref m3, vI (rd 1), vI (rd 2), vI (rd 5), vI rdu, .ref m8, .ref m9, vI 0, .ref m11, .ref m12, vJ tr, .ref m14, vI n, vI at0, vI sa, vI vv, .ref m19, vI rdu, .ref m21, .ref m22, vI se, vI its, .ref m25, .ref m26, vJ lt0]), (m0, aJ ca 7284 d), (m2, aZ ca 2 kp), (m3, aI ca 5 f), (m8, aI ca 6 g1), (m9, aI ca 6 g2), (m19, aI ca 6 rd), (m21, aI ca 6 rN), (m22, aI ca 6 rW)] H := hP
              have hD : va_D A [(hm, oB 8 [.ref m0, vI un, .ref m2, .ref m3, vI (rd 1), vI (rd 2), vI (rd 5), vI rdu, .ref m8, .ref m9, vI 0, .ref m11, .ref m12, vJ tr, .ref m14, vI n, vI at0, vI sa, vI vv, .ref m19, vI rdu, .ref m21, .ref m22, vI se, vI its, .ref m25, .ref m26, vJ lt0]), (m0, aJ ca 7284 d), (m2, aZ ca 2 kp), (m3, aI ca 5 f), (m8, aI ca 6 g1), (m9, aI ca 6 g2), (m19, aI ca 6 rd), (m21, aI ca 6 rN), (m22, aI ca 6 rW)] := hD
              refine lv_aload_n hx hb dX8_becomes_134 rfl (lv_at hl 1 rfl) ?_
              refine lv_iconst (v := Int32.ofInt 0) hx hb dX8_becomes_135 rfl ?_
              refine va_put (D := g) (ci := 8) (v := vI 0) (ty := .int) (C := RX8) (T := TX8) (N := 28) hx hb hts inF_X8 tyX8 tyX8_ok nmX8 hown hK.1 hP hD hS 0 rfl rfl 1 (by decide) lk_f82 (fun _ h9 => h9) rfl (by decide +kernel) rfl rfl (Nat.le_of_ble_eq_true rfl) dX8_becomes_136 (fun H locs hP hD hS => ?_)
              have hP : va_P g vwCl [(hm, oB 8 [.ref m0, vI 0, .ref m2, .ref m3, vI (rd 1), vI (rd 2), vI (rd 5), vI rdu, .ref m8, .ref m9, vI 0, .ref m11, .ref m12, vJ tr, .ref m14, vI n, vI at0, vI sa, vI vv, .ref m19, vI rdu, .ref m21, .ref m22, vI se, vI its, .ref m25, .ref m26, vJ lt0]), (m0, aJ ca 7284 d), (m2, aZ ca 2 kp), (m3, aI ca 5 f), (m8, aI ca 6 g1), (m9, aI ca 6 g2), (m19, aI ca 6 rd), (m21, aI ca 6 rN), (m22, aI ca 6 rW)] H := hP
              have hD : va_D A [(hm, oB 8 [.ref m0, vI 0, .ref m2, .ref m3, vI (rd 1), vI (rd 2), vI (rd 5), vI rdu, .ref m8, .ref m9, vI 0, .ref m11, .ref m12, vJ tr, .ref m14, vI n, vI at0, vI sa, vI vv, .ref m19, vI rdu, .ref m21, .ref m22, vI se, vI its, .ref m25, .ref m26, vJ lt0]), (m0, aJ ca 7284 d), (m2, aZ ca 2 kp), (m3, aI ca 5 f), (m8, aI ca 6 g1), (m9, aI ca 6 g2), (m19, aI ca 6 rd), (m21, aI ca 6 rN), (m22, aI ca 6 rW)] := hD
              refine lv_aload_n hx hb dX8_becomes_139 rfl (lv_at hl 1 rfl) ?_
              refine va_get (D := g) (ci := 8) (v := .ref m2) (C := RX8) (T := TX8) (N := 28) hx hb hts inF_X8 hown hK.1 hP 0 rfl rfl 2 (by decide) lk_f13 (fun _ h9 => h9) rfl dX8_becomes_140 ?_
              refine lv_iconst (v := Int32.ofInt 0) hx hb dX8_becomes_143 rfl ?_
              refine lv_iconst (v := Int32.ofInt 0) hx hb dX8_becomes_144 rfl ?_
              refine ra_zst hx hb hK hP hD hS 2 rfl dX8_becomes_145 ⟨by omega, by omega⟩ (by omega) (Or.inl rfl) (fun H locs hP hD hS => ?_)
              have hP : va_P g vwCl [(hm, oB 8 [.ref m0, vI 0, .ref m2, .ref m3, vI (rd 1), vI (rd 2), vI (rd 5), vI rdu, .ref m8, .ref m9, vI 0, .ref m11, .ref m12, vJ tr, .ref m14, vI n, vI at0, vI sa, vI vv, .ref m19, vI rdu, .ref m21, .ref m22, vI se, vI its, .ref m25, .ref m26, vJ lt0]), (m0, aJ ca 7284 d), (m2, aZ ca 2 (zu kp 0 0)), (m3, aI ca 5 f), (m8, aI ca 6 g1), (m9, aI ca 6 g2), (m19, aI ca 6 rd), (m21, aI ca 6 rN), (m22, aI ca 6 rW)] H := hP
              have hD : va_D A [(hm, oB 8 [.ref m0, vI 0, .ref m2, .ref m3, vI (rd 1), vI (rd 2), vI (rd 5), vI rdu, .ref m8, .ref m9, vI 0, .ref m11, .ref m12, vJ tr, .ref m14, vI n, vI at0, vI sa, vI vv, .ref m19, vI rdu, .ref m21, .ref m22, vI se, vI its, .ref m25, .ref m26, vJ lt0]), (m0, aJ ca 7284 d), (m2, aZ ca 2 (zu kp 0 0)), (m3, aI ca 5 f), (m8, aI ca 6 g1), (m9, aI ca 6 g2), (m19, aI ca 6 rd), (m21, aI ca 6 rN), (m22, aI ca 6 rW)] := hD
              refine lv_aload_n hx hb dX8_becomes_146 rfl (lv_at hl 1 rfl) ?_
              refine va_get (D := g) (ci := 8) (v := .ref m2) (C := RX8) (T := TX8) (N := 28) hx hb hts inF_X8 hown hK.1 hP 0 rfl rfl 2 (by decide) lk_f13 (fun _ h9 => h9) rfl dX8_becomes_147 ?_
              refine lv_iconst (v := Int32.ofInt 1) hx hb dX8_becomes_150 rfl ?_
              refine lv_iconst (v := Int32.ofInt 0) hx hb dX8_becomes_151 rfl ?_
              refine ra_zst hx hb hK hP hD hS 2 rfl dX8_becomes_152 ⟨by omega, by omega⟩ (by omega) (Or.inl rfl) (fun H locs hP hD hS => ?_)
              have hP : va_P g vwCl [(hm, oB 8 [.ref m0, vI 0, .ref m2, .ref m3, vI (rd 1), vI (rd 2), vI (rd 5), vI rdu, .ref m8, .ref m9, vI 0, .ref m11, .ref m12, vJ tr, .ref m14, vI n, vI at0, vI sa, vI vv, .ref m19, vI rdu, .ref m21, .ref m22, vI se, vI its, .ref m25, .ref m26, vJ lt0]), (m0, aJ ca 7284 d), (m2, aZ ca 2 (zu (zu kp 0 0) 1 0)), (m3, aI ca 5 f), (m8, aI ca 6 g1), (m9, aI ca 6 g2), (m19, aI ca 6 rd), (m21, aI ca 6 rN), (m22, aI ca 6 rW)] H := hP
              have hD : va_D A [(hm, oB 8 [.ref m0, vI 0, .ref m2, .ref m3, vI (rd 1), vI (rd 2), vI (rd 5), vI rdu, .ref m8, .ref m9, vI 0, .ref m11, .ref m12, vJ tr, .ref m14, vI n, vI at0, vI sa, vI vv, .ref m19, vI rdu, .ref m21, .ref m22, vI se, vI its, .ref m25, .ref m26, vJ lt0]), (m0, aJ ca 7284 d), (m2, aZ ca 2 (zu (zu kp 0 0) 1 0)), (m3, aI ca 5 f), (m8, aI ca 6 g1), (m9, aI ca 6 g2), (m19, aI ca 6 rd), (m21, aI ca 6 rN), (m22, aI ca 6 rW)] := hD
              refine lv_aload_n hx hb dX8_becomes_153 rfl (lv_at hl 1 rfl) ?_
              refine lv_iconst (v := Int32.ofInt 0) hx hb dX8_becomes_154 rfl ?_
              refine zc_VV (As := [vI 0]) (rest := []) (wc := [(hm, oB 8 [.ref m0, vI 0, .ref m2, .ref m3, vI (rd 1), vI (rd 2), vI (rd 5), vI rdu, .ref m8, .ref m9, vI 0, .ref m11, .ref m12, vJ tr, .ref m14, vI n, vI at0, vI sa, vI vv, .ref m19, vI rdu, .ref m21, .ref m22, vI se, vI its, .ref m25, .ref m26, vJ lt0]), (m0, aJ ca 7284 d)]) (wr := [(m2, aZ ca 2 (zu (zu kp 0 0) 1 0)), (m3, aI ca 5 f), (m8, aI ca 6 g1), (m9, aI ca 6 g2), (m19, aI ca 6 rd), (m21, aI ca 6 rN), (m22, aI ca 6 rW)]) (k_X8_begins l g ca hm m0 m2 m3 m8 m9 m11 m12 m14 m19 m21 m22 m25 m26 0 (rd 1) (rd 2) (rd 5) rdu 0 tr n at0 sa vv rdu se its lt0 d 0 (by first | assumption | omega)) dX8_becomes_155 (cwV 1 hts gX8_becomes_X8_begins rfl rfl rfl (by decide +kernel) (by rw [hR]; exact ⟨Nat.le_of_ble_eq_true rfl, Nat.le_of_ble_eq_true rfl⟩)) ⟨hx, hb, hml, hown, hts⟩ hl.1 hK hP hD hS hA 0 rfl rfl rfl [0, 1] [2, 3, 4, 5, 6, 7, 8] rfl (by decide) rfl (by decide) (by decide) rfl rfl (Nat.le_of_ble_eq_true rfl) (by rw [hR]; exact ⟨Nat.le_of_ble_eq_true rfl, Nat.le_of_ble_eq_true rfl⟩) (fun u H locs q155 hP hD hS => ?_)
              obtain ⟨d1_155, rfl⟩ : ∃ q, q = u := ⟨_, rfl⟩
              have q155 : AT d1_155 0 bg 0 0 ∧ FRM d d1_155 0 := q155
              obtain ⟨q155_0, q155_1⟩ := q155
              have hP : va_P g vwCl [(hm, oB 8 [.ref m0, vI 0, .ref m2, .ref m3, vI (rd 1), vI (rd 2), vI (rd 5), vI rdu, .ref m8, .ref m9, vI 0, .ref m11, .ref m12, vJ tr, .ref m14, vI n, vI at0, vI sa, vI vv, .ref m19, vI rdu, .ref m21, .ref m22, vI se, vI its, .ref m25, .ref m26, vJ lt0]), (m0, aJ ca 7284 d1_155), (m2, aZ ca 2 (zu (zu kp 0 0) 1 0)), (m3, aI ca 5 f), (m8, aI ca 6 g1), (m9, aI ca 6 g2), (m19, aI ca 6 rd), (m21, aI ca 6 rN), (m22, aI ca 6 rW)] H := hP.sub [7, 8, 0, 1, 2, 3, 4, 5, 6] rfl
              have hD : va_D A [(hm, oB 8 [.ref m0, vI 0, .ref m2, .ref m3, vI (rd 1), vI (rd 2), vI (rd 5), vI rdu, .ref m8, .ref m9, vI 0, .ref m11, .ref m12, vJ tr, .ref m14, vI n, vI at0, vI sa, vI vv, .ref m19, vI rdu, .ref m21, .ref m22, vI se, vI its, .ref m25, .ref m26, vJ lt0]), (m0, aJ ca 7284 d1_155), (m2, aZ ca 2 (zu (zu kp 0 0) 1 0)), (m3, aI ca 5 f), (m8, aI ca 6 g1), (m9, aI ca 6 g2), (m19, aI ca 6 rd), (m21, aI ca 6 rN), (m22, aI ca 6 rW)] := hD.sub [7, 8, 0, 1, 2, 3, 4, 5, 6] (by decide) rfl
              have hP := za_extI hP 3 rfl (wf (rd 0) (rd 3) (rd 4)) (fun j hj0 hj1 => (by exact hf j hj0 (by omega)))
              have hD := hD.set (e := aI ca 5 (wf (rd 0) (rd 3) (rd 4))) (show ([(hm, oB 8 [.ref m0, vI 0, .ref m2, .ref m3, vI (rd 1), vI (rd 2), vI (rd 5), vI rdu, .ref m8, .ref m9, vI 0, .ref m11, .ref m12, vJ tr, .ref m14, vI n, vI at0, vI sa, vI vv, .ref m19, vI rdu, .ref m21, .ref m22, vI se, vI its, .ref m25, .ref m26, vJ lt0]), (m0, aJ ca 7284 d1_155), (m2, aZ ca 2 (zu (zu kp 0 0) 1 0)), (m3, aI ca 5 f), (m8, aI ca 6 g1), (m9, aI ca 6 g2), (m19, aI ca 6 rd), (m21, aI ca 6 rN), (m22, aI ca 6 rW)] : va_W)[3]? = some _ from rfl)
              have hP : va_P g vwCl [(hm, oB 8 [.ref m0, vI 0, .ref m2, .ref m3, vI (rd 1), vI (rd 2), vI (rd 5), vI rdu, .ref m8, .ref m9, vI 0, .ref m11, .ref m12, vJ tr, .ref m14, vI n, vI at0, vI sa, vI vv, .ref m19, vI rdu, .ref m21, .ref m22, vI se, vI its, .ref m25, .ref m26, vJ lt0]), (m0, aJ ca 7284 d1_155), (m2, aZ ca 2 (zu (zu kp 0 0) 1 0)), (m3, aI ca 5 (wf (rd 0) (rd 3) (rd 4))), (m8, aI ca 6 g1), (m9, aI ca 6 g2), (m19, aI ca 6 rd), (m21, aI ca 6 rN), (m22, aI ca 6 rW)] H := hP
              have hD : va_D A [(hm, oB 8 [.ref m0, vI 0, .ref m2, .ref m3, vI (rd 1), vI (rd 2), vI (rd 5), vI rdu, .ref m8, .ref m9, vI 0, .ref m11, .ref m12, vJ tr, .ref m14, vI n, vI at0, vI sa, vI vv, .ref m19, vI rdu, .ref m21, .ref m22, vI se, vI its, .ref m25, .ref m26, vJ lt0]), (m0, aJ ca 7284 d1_155), (m2, aZ ca 2 (zu (zu kp 0 0) 1 0)), (m3, aI ca 5 (wf (rd 0) (rd 3) (rd 4))), (m8, aI ca 6 g1), (m9, aI ca 6 g2), (m19, aI ca 6 rd), (m21, aI ca 6 rN), (m22, aI ca 6 rW)] := hD
              have hP := za_extI hP 4 rfl (rN) (fun j hj0 hj1 => (by exact hg1 j hj0 (by omega)))
              have hD := hD.set (e := aI ca 6 (rN)) (show ([(hm, oB 8 [.ref m0, vI 0, .ref m2, .ref m3, vI (rd 1), vI (rd 2), vI (rd 5), vI rdu, .ref m8, .ref m9, vI 0, .ref m11, .ref m12, vJ tr, .ref m14, vI n, vI at0, vI sa, vI vv, .ref m19, vI rdu, .ref m21, .ref m22, vI se, vI its, .ref m25, .ref m26, vJ lt0]), (m0, aJ ca 7284 d1_155), (m2, aZ ca 2 (zu (zu kp 0 0) 1 0)), (m3, aI ca 5 (wf (rd 0) (rd 3) (rd 4))), (m8, aI ca 6 g1), (m9, aI ca 6 g2), (m19, aI ca 6 rd), (m21, aI ca 6 rN), (m22, aI ca 6 rW)] : va_W)[4]? = some _ from rfl)
              have hP : va_P g vwCl [(hm, oB 8 [.ref m0, vI 0, .ref m2, .ref m3, vI (rd 1), vI (rd 2), vI (rd 5), vI rdu, .ref m8, .ref m9, vI 0, .ref m11, .ref m12, vJ tr, .ref m14, vI n, vI at0, vI sa, vI vv, .ref m19, vI rdu, .ref m21, .ref m22, vI se, vI its, .ref m25, .ref m26, vJ lt0]), (m0, aJ ca 7284 d1_155), (m2, aZ ca 2 (zu (zu kp 0 0) 1 0)), (m3, aI ca 5 (wf (rd 0) (rd 3) (rd 4))), (m8, aI ca 6 rN), (m9, aI ca 6 g2), (m19, aI ca 6 rd), (m21, aI ca 6 rN), (m22, aI ca 6 rW)] H := hP
              have hD : va_D A [(hm, oB 8 [.ref m0, vI 0, .ref m2, .ref m3, vI (rd 1), vI (rd 2), vI (rd 5), vI rdu, .ref m8, .ref m9, vI 0, .ref m11, .ref m12, vJ tr, .ref m14, vI n, vI at0, vI sa, vI vv, .ref m19, vI rdu, .ref m21, .ref m22, vI se, vI its, .ref m25, .ref m26, vJ lt0]), (m0, aJ ca 7284 d1_155), (m2, aZ ca 2 (zu (zu kp 0 0) 1 0)), (m3, aI ca 5 (wf (rd 0) (rd 3) (rd 4))), (m8, aI ca 6 rN), (m9, aI ca 6 g2), (m19, aI ca 6 rd), (m21, aI ca 6 rN), (m22, aI ca 6 rW)] := hD
              have hP := za_extI hP 5 rfl (rW) (fun j hj0 hj1 => (by exact hg2 j hj0 (by omega)))
              have hD := hD.set (e := aI ca 6 (rW)) (show ([(hm, oB 8 [.ref m0, vI 0, .ref m2, .ref m3, vI (rd 1), vI (rd 2), vI (rd 5), vI rdu, .ref m8, .ref m9, vI 0, .ref m11, .ref m12, vJ tr, .ref m14, vI n, vI at0, vI sa, vI vv, .ref m19, vI rdu, .ref m21, .ref m22, vI se, vI its, .ref m25, .ref m26, vJ lt0]), (m0, aJ ca 7284 d1_155), (m2, aZ ca 2 (zu (zu kp 0 0) 1 0)), (m3, aI ca 5 (wf (rd 0) (rd 3) (rd 4))), (m8, aI ca 6 rN), (m9, aI ca 6 g2), (m19, aI ca 6 rd), (m21, aI ca 6 rN), (m22, aI ca 6 rW)] : va_W)[5]? = some _ from rfl)
              have hP : va_P g vwCl [(hm, oB 8 [.ref m0, vI 0, .ref m2, .ref m3, vI (rd 1), vI (rd 2), vI (rd 5), vI rdu, .ref m8, .ref m9, vI 0, .ref m11, .ref m12, vJ tr, .ref m14, vI n, vI at0, vI sa, vI vv, .ref m19, vI rdu, .ref m21, .ref m22, vI se, vI its, .ref m25, .ref m26, vJ lt0]), (m0, aJ ca 7284 d1_155), (m2, aZ ca 2 (zu (zu kp 0 0) 1 0)), (m3, aI ca 5 (wf (rd 0) (rd 3) (rd 4))), (m8, aI ca 6 rN), (m9, aI ca 6 rW), (m19, aI ca 6 rd), (m21, aI ca 6 rN), (m22, aI ca 6 rW)] H := hP
              have hD : va_D A [(hm, oB 8 [.ref m0, vI 0, .ref m2, .ref m3, vI (rd 1), vI (rd 2), vI (rd 5), vI rdu, .ref m8, .ref m9, vI 0, .ref m11, .ref m12, vJ tr, .ref m14, vI n, vI at0, vI sa, vI vv, .ref m19, vI rdu, .ref m21, .ref m22, vI se, vI its, .ref m25, .ref m26, vJ lt0]), (m0, aJ ca 7284 d1_155), (m2, aZ ca 2 (zu (zu kp 0 0) 1 0)), (m3, aI ca 5 (wf (rd 0) (rd 3) (rd 4))), (m8, aI ca 6 rN), (m9, aI ca 6 rW), (m19, aI ca 6 rd), (m21, aI ca 6 rN), (m22, aI ca 6 rW)] := hD
              have hP := za_extZ hP 2 rfl (fun _ => 0) (fun j hj0 hj1 => (by
                    rw [zu_e, zu_e]
                    split
                    · rfl
                    · rw [if_pos (by omega)]))
              have hD := hD.set (e := aZ ca 2 (fun _ => 0)) (show ([(hm, oB 8 [.ref m0, vI 0, .ref m2, .ref m3, vI (rd 1), vI (rd 2), vI (rd 5), vI rdu, .ref m8, .ref m9, vI 0, .ref m11, .ref m12, vJ tr, .ref m14, vI n, vI at0, vI sa, vI vv, .ref m19, vI rdu, .ref m21, .ref m22, vI se, vI its, .ref m25, .ref m26, vJ lt0]), (m0, aJ ca 7284 d1_155), (m2, aZ ca 2 (zu (zu kp 0 0) 1 0)), (m3, aI ca 5 (wf (rd 0) (rd 3) (rd 4))), (m8, aI ca 6 rN), (m9, aI ca 6 rW), (m19, aI ca 6 rd), (m21, aI ca 6 rN), (m22, aI ca 6 rW)] : va_W)[2]? = some _ from rfl)
              have hP : va_P g vwCl [(hm, oB 8 [.ref m0, vI 0, .ref m2, .ref m3, vI (rd 1), vI (rd 2), vI (rd 5), vI rdu, .ref m8, .ref m9, vI 0, .ref m11, .ref m12, vJ tr, .ref m14, vI n, vI at0, vI sa, vI vv, .ref m19, vI rdu, .ref m21, .ref m22, vI se, vI its, .ref m25, .ref m26, vJ lt0]), (m0, aJ ca 7284 d1_155), (m2, aZ ca 2 (fun _ => 0)), (m3, aI ca 5 (wf (rd 0) (rd 3) (rd 4))), (m8, aI ca 6 rN), (m9, aI ca 6 rW), (m19, aI ca 6 rd), (m21, aI ca 6 rN), (m22, aI ca 6 rW)] H := hP
              have hD : va_D A [(hm, oB 8 [.ref m0, vI 0, .ref m2, .ref m3, vI (rd 1), vI (rd 2), vI (rd 5), vI rdu, .ref m8, .ref m9, vI 0, .ref m11, .ref m12, vJ tr, .ref m14, vI n, vI at0, vI sa, vI vv, .ref m19, vI rdu, .ref m21, .ref m22, vI se, vI its, .ref m25, .ref m26, vJ lt0]), (m0, aJ ca 7284 d1_155), (m2, aZ ca 2 (fun _ => 0)), (m3, aI ca 5 (wf (rd 0) (rd 3) (rd 4))), (m8, aI ca 6 rN), (m9, aI ca 6 rW), (m19, aI ca 6 rd), (m21, aI ca 6 rN), (m22, aI ca 6 rW)] := hD
              refine zr_V hx hb hr hlk hQ (d1_155) hP hD hS dX8_becomes_158 (Nat.le_of_ble_eq_true rfl) (Nat.le_of_ble_eq_true rfl) ?_
              show AT d1_155 0 bg 0 0
              exact q155_0
            · skip
              refine lv_aload_n hx hb dX8_becomes_99 rfl (lv_at hl 1 rfl) ?_
              refine va_get (D := g) (ci := 8) (v := .ref m8) (C := RX8) (T := TX8) (N := 28) hx hb hts inF_X8 hown hK.1 hP 0 rfl rfl 8 (by decide) lk_f21 (fun _ h9 => h9) rfl dX8_becomes_100 ?_
              refine lv_iload_n hx hb dX8_becomes_103 rfl (lv_at hl 0 rfl) ?_
              refine lv_aload_n hx hb dX8_becomes_104 rfl (lv_at hl 1 rfl) ?_
              refine va_get (D := g) (ci := 8) (v := .ref m21) (C := RX8) (T := TX8) (N := 28) hx hb hts inF_X8 hown hK.1 hP 0 rfl rfl 21 (by decide) lk_f39 (fun _ h9 => h9) rfl dX8_becomes_105 ?_
              refine lv_iload_n hx hb dX8_becomes_108 rfl (lv_at hl 0 rfl) ?_
              refine ra_ild hx hb hK hP 7 rfl dX8_becomes_109 ⟨by omega, by omega⟩ (by omega) ?_
              refine ra_ist hx hb hK hP hD hS 4 rfl dX8_becomes_110 ⟨by omega, by omega⟩ (by omega) (fun H locs hP hD hS => ?_)
              have hP : va_P g vwCl [(hm, oB 8 [.ref m0, vI un, .ref m2, .ref m3, vI (rd 1), vI (rd 2), vI (rd 5), vI rdu, .ref m8, .ref m9, vI to, .ref m11, .ref m12, vJ tr, .ref m14, vI n, vI at0, vI sa, vI vv, .ref m19, vI rdu, .ref m21, .ref m22, vI se, vI its, .ref m25, .ref m26, vJ lt0]), (m0, aJ ca 7284 d), (m2, aZ ca 2 kp), (m3, aI ca 5 f), (m8, aI ca 6 (zu g1 i (rN i))), (m9, aI ca 6 g2), (m19, aI ca 6 rd), (m21, aI ca 6 rN), (m22, aI ca 6 rW)] H := hP
              have hD : va_D A [(hm, oB 8 [.ref m0, vI un, .ref m2, .ref m3, vI (rd 1), vI (rd 2), vI (rd 5), vI rdu, .ref m8, .ref m9, vI to, .ref m11, .ref m12, vJ tr, .ref m14, vI n, vI at0, vI sa, vI vv, .ref m19, vI rdu, .ref m21, .ref m22, vI se, vI its, .ref m25, .ref m26, vJ lt0]), (m0, aJ ca 7284 d), (m2, aZ ca 2 kp), (m3, aI ca 5 f), (m8, aI ca 6 (zu g1 i (rN i))), (m9, aI ca 6 g2), (m19, aI ca 6 rd), (m21, aI ca 6 rN), (m22, aI ca 6 rW)] := hD
              refine lv_aload_n hx hb dX8_becomes_111 rfl (lv_at hl 1 rfl) ?_
              refine va_get (D := g) (ci := 8) (v := .ref m9) (C := RX8) (T := TX8) (N := 28) hx hb hts inF_X8 hown hK.1 hP 0 rfl rfl 9 (by decide) lk_f24 (fun _ h9 => h9) rfl dX8_becomes_112 ?_
              refine lv_iload_n hx hb dX8_becomes_115 rfl (lv_at hl 0 rfl) ?_
              refine lv_aload_n hx hb dX8_becomes_116 rfl (lv_at hl 1 rfl) ?_
              refine va_get (D := g) (ci := 8) (v := .ref m22) (C := RX8) (T := TX8) (N := 28) hx hb hts inF_X8 hown hK.1 hP 0 rfl rfl 22 (by decide) lk_f42 (fun _ h9 => h9) rfl dX8_becomes_117 ?_
              refine lv_iload_n hx hb dX8_becomes_120 rfl (lv_at hl 0 rfl) ?_
              refine ra_ild hx hb hK hP 8 rfl dX8_becomes_121 ⟨by omega, by omega⟩ (by omega) ?_
              refine ra_ist hx hb hK hP hD hS 5 rfl dX8_becomes_122 ⟨by omega, by omega⟩ (by omega) (fun H locs hP hD hS => ?_)
              have hP : va_P g vwCl [(hm, oB 8 [.ref m0, vI un, .ref m2, .ref m3, vI (rd 1), vI (rd 2), vI (rd 5), vI rdu, .ref m8, .ref m9, vI to, .ref m11, .ref m12, vJ tr, .ref m14, vI n, vI at0, vI sa, vI vv, .ref m19, vI rdu, .ref m21, .ref m22, vI se, vI its, .ref m25, .ref m26, vJ lt0]), (m0, aJ ca 7284 d), (m2, aZ ca 2 kp), (m3, aI ca 5 f), (m8, aI ca 6 (zu g1 i (rN i))), (m9, aI ca 6 (zu g2 i (rW i))), (m19, aI ca 6 rd), (m21, aI ca 6 rN), (m22, aI ca 6 rW)] H := hP
              have hD : va_D A [(hm, oB 8 [.ref m0, vI un, .ref m2, .ref m3, vI (rd 1), vI (rd 2), vI (rd 5), vI rdu, .ref m8, .ref m9, vI to, .ref m11, .ref m12, vJ tr, .ref m14, vI n, vI at0, vI sa, vI vv, .ref m19, vI rdu, .ref m21, .ref m22, vI se, vI its, .ref m25, .ref m26, vJ lt0]), (m0, aJ ca 7284 d), (m2, aZ ca 2 kp), (m3, aI ca 5 f), (m8, aI ca 6 (zu g1 i (rN i))), (m9, aI ca 6 (zu g2 i (rW i))), (m19, aI ca 6 rd), (m21, aI ca 6 rN), (m22, aI ca 6 rW)] := hD
              obtain ⟨z123, e123⟩ : ∃ q : Int, q = i + 1 := ⟨_, rfl⟩
              refine ri_inc (lv' := [(1, vI z123), (0, .ref hm)]) hx hb dX8_becomes_123 hl (k := 0) rfl (by decide) z123 e123 rfl (fun ls hl => ?_)
              refine lv_goto (tgt := 93) hx hb dX8_becomes_126 (by decide) ?_
              exact ih93 z123 (zu g1 i (rN i)) (zu g2 i (rW i)) (by first | assumption | omega) (by
                    intro j h1 h2
                    rw [zu_e]
                    split
                    · rename_i hj; rw [hj]
                    · exact hg1 j h1 (by omega)) (by
                    intro j h1 h2
                    rw [zu_e]
                    split
                    · rename_i hj; rw [hj]
                    · exact hg2 j h1 (by omega)) (by omega) _ _ hP hD hS ls (lv_sub hl [0, 1] rfl)
        exact L93 _ 0 dn dw (by first | assumption | omega) (by intro j h1 h2; omega) (by intro j h1 h2; omega) (Nat.lt_succ_self _) _ _ hP hD hS ls (lv_sub hl [0, 1] rfl)
      · skip
        refine lv_aload_n hx hb dX8_becomes_19 rfl (lv_at hl 1 rfl) ?_
        refine va_get (D := g) (ci := 8) (v := .ref m3) (C := RX8) (T := TX8) (N := 28) hx hb hts inF_X8 hown hK.1 hP 0 rfl rfl 3 (by decide) lk_f17 (fun _ h9 => h9) rfl dX8_becomes_20 ?_
        refine lv_iload_n hx hb dX8_becomes_23 rfl (lv_at hl 0 rfl) ?_
        refine lv_aload_n hx hb dX8_becomes_24 rfl (lv_at hl 1 rfl) ?_
        refine va_get (D := g) (ci := 8) (v := .ref m3) (C := RX8) (T := TX8) (N := 28) hx hb hts inF_X8 hown hK.1 hP 0 rfl rfl 3 (by decide) lk_f17 (fun _ h9 => h9) rfl dX8_becomes_25 ?_
        refine lv_iload_n hx hb dX8_becomes_28 rfl (lv_at hl 0 rfl) ?_
        refine lv_iconst (v := Int32.ofInt 1) hx hb dX8_becomes_29 rfl ?_
        refine ri_sub hx hb dX8_becomes_30 (fun z30 e30 => ?_)
        refine ra_ild hx hb hK hP 3 rfl dX8_becomes_31 ⟨by omega, by omega⟩ (by omega) ?_
        refine lv_aload_n hx hb dX8_becomes_32 rfl (lv_at hl 1 rfl) ?_
        refine va_get (D := g) (ci := 8) (v := .ref m19) (C := RX8) (T := TX8) (N := 28) hx hb hts inF_X8 hown hK.1 hP 0 rfl rfl 19 (by decide) lk_f36 (fun _ h9 => h9) rfl dX8_becomes_33 ?_
        refine lv_iconst (v := Int32.ofInt 3) hx hb dX8_becomes_36 rfl ?_
        refine ra_ild hx hb hK hP 6 rfl dX8_becomes_37 ⟨by omega, by omega⟩ (by omega) ?_
        have hwb := wk_bd ⟨by omega, hk1.2⟩ hk5.1 hk6 z30.toNat
        have hf38 : f z30 = wk (rd 0) (rd 3) (rd 4) z30.toNat := hf z30 (by omega) (by omega)
        rw [← hf38] at hwb
        have hmb := mul_rng hwb (⟨by omega, hk5.2⟩ : 0 ≤ rd 3 ∧ rd 3 ≤ 8)
        refine ri_mul hx hb dX8_becomes_38 (fun z38 e38 => ?_)
        refine lv_aload_n hx hb dX8_becomes_39 rfl (lv_at hl 1 rfl) ?_
        refine va_get (D := g) (ci := 8) (v := .ref m19) (C := RX8) (T := TX8) (N := 28) hx hb hts inF_X8 hown hK.1 hP 0 rfl rfl 19 (by decide) lk_f36 (fun _ h9 => h9) rfl dX8_becomes_40 ?_
        refine lv_iconst (v := Int32.ofInt 4) hx hb dX8_becomes_43 rfl ?_
        refine ra_ild hx hb hK hP 6 rfl dX8_becomes_44 ⟨by omega, by omega⟩ (by omega) ?_
        refine ri_div hx hb dX8_becomes_45 ⟨by omega, by omega⟩ ⟨by omega, by omega⟩ (fun z45 e45 => ?_)
        refine ra_ist hx hb hK hP hD hS 3 rfl dX8_becomes_46 ⟨by omega, by omega⟩ (by omega) (fun H locs hP hD hS => ?_)
        have hP : va_P g vwCl [(hm, oB 8 [.ref m0, vI un, .ref m2, .ref m3, vI mo, vI oft, vI la, vI du, .ref m8, .ref m9, vI to, .ref m11, .ref m12, vJ tr, .ref m14, vI n, vI at0, vI sa, vI vv, .ref m19, vI rdu, .ref m21, .ref m22, vI se, vI its, .ref m25, .ref m26, vJ lt0]), (m0, aJ ca 7284 d), (m2, aZ ca 2 kp), (m3, aI ca 5 (zu f o z45)), (m8, aI ca 6 dn), (m9, aI ca 6 dw), (m19, aI ca 6 rd), (m21, aI ca 6 rN), (m22, aI ca 6 rW)] H := hP
        have hD : va_D A [(hm, oB 8 [.ref m0, vI un, .ref m2, .ref m3, vI mo, vI oft, vI la, vI du, .ref m8, .ref m9, vI to, .ref m11, .ref m12, vJ tr, .ref m14, vI n, vI at0, vI sa, vI vv, .ref m19, vI rdu, .ref m21, .ref m22, vI se, vI its, .ref m25, .ref m26, vJ lt0]), (m0, aJ ca 7284 d), (m2, aZ ca 2 kp), (m3, aI ca 5 (zu f o z45)), (m8, aI ca 6 dn), (m9, aI ca 6 dw), (m19, aI ca 6 rd), (m21, aI ca 6 rN), (m22, aI ca 6 rW)] := hD
        obtain ⟨z47, e47⟩ : ∃ q : Int, q = o + 1 := ⟨_, rfl⟩
        refine ri_inc (lv' := [(1, vI z47), (0, .ref hm)]) hx hb dX8_becomes_47 hl (k := 0) rfl (by decide) z47 e47 rfl (fun ls hl => ?_)
        refine lv_goto (tgt := 14) hx hb dX8_becomes_50 (by decide) ?_
        exact ih14 z47 (zu f o z45) (by first | assumption | omega) (by
              intro j h1 h2
              rw [zu_e]
              split
              · rename_i hj
                rw [hj, e45, e38, hf z30 (by omega) (by omega), e30]
                unfold wf
                have h9 := wk_s (rd 0) (rd 3) (rd 4) (o := o - 1) (by omega)
                rw [show o - 1 + 1 = o by omega] at h9
                exact h9.symm
              · exact hf j h1 (by omega)) (by omega) _ _ hP hD hS ls (lv_sub hl [0, 1] rfl)
  exact L14 _ 1 (zu w 0 (rd 0)) (by first | assumption | omega) (by
        intro j h1 h2
        rw [show j = 0 by omega, zu_s]; rfl) (Nat.lt_succ_self _) _ _ hP hD hS ls (lv_sub hl [0, 1] rfl)
set_option maxHeartbeats 4000000 in
set_option maxRecDepth 100000 in
theorem k_X8_takesItem (l : Launch) (g : va_G) (ca : Nat → ClassId) (hm : Nat) (m0 : Nat) (m2 : Nat) (m3 : Nat) (m8 : Nat) (m9 : Nat) (m11 : Nat) (m12 : Nat) (m14 : Nat) (m19 : Nat) (m21 : Nat) (m22 : Nat) (m25 : Nat) (m26 : Nat) (un : Int) (mo : Int) (oft : Int) (la : Int) (du : Int) (to : Int) (tr : Int) (n : Int) (at0 : Int) (sa : Int) (vv : Int) (rdu : Int) (se : Int) (its : Int) (lt0 : Int) (t : Int → Int) (rd : Int → Int) (rN : Int → Int) (rW : Int → Int) (sr : Int) (sl : Int) (st0 : Int) (hT : TXok t n) (hat : 0 ≤ at0 ∧ at0 < n) (hsa : sa = at0) (hse : se = sr + 2 * sl + 4 * st0) (hfl : (sr = 0 ∨ sr = 1) ∧ (sl = 0 ∨ sl = 1) ∧ (st0 = 0 ∨ st0 = 1)) (hrdu : 0 ≤ rdu ∧ rdu ≤ 6) : zI (S := Int × Int × Int × Int × Int × (Int → Int) × (Int → Int) × (Int → Int)) l yX8_takesItem wsX8_takesItem ({ frames := 4, cells := 0, slots := 0, locals := 87 } : Room) g ca [.ref hm] [(hm, oB 8 [.ref m0, vI un, .ref m2, .ref m3, vI mo, vI oft, vI la, vI du, .ref m8, .ref m9, vI to, .ref m11, .ref m12, vJ tr, .ref m14, vI n, vI at0, vI sa, vI vv, .ref m19, vI rdu, .ref m21, .ref m22, vI se, vI its, .ref m25, .ref m26, vJ lt0]), (m14, aI ca 200 t), (m19, aI ca 6 rd), (m21, aI ca 6 rN), (m22, aI ca 6 rW)] (fun (z : Int) (u : Int × Int × Int × Int × Int × (Int → Int) × (Int → Int) × (Int → Int)) => (at0 ≤ u.1 ∧ u.1 ≤ n) ∧ ((z = 1 ∧ itc t n at0 sr sl st0 rdu = (0, skp t n u.1) ∧ u.2.2.2.2.2.1 = itr t n at0 sr sl st0 rd ∧ u.2.2.2.1 = itu t n at0 rdu ∧ u.2.2.2.2.2.2.1 = itn t n at0 rdu rN ∧ u.2.2.2.2.2.2.2 = itw t n at0 rdu rW ∧ u.2.2.2.2.1 = fl t n at0 114 sr + 2 * fl t n at0 108 sl + 4 * fl t n at0 116 st0) ∨ (z = 0 ∧ itc t n at0 sr sl st0 rdu = (1, u.2.1)))) (fun (u : Int × Int × Int × Int × Int × (Int → Int) × (Int → Int) × (Int → Int)) => [(hm, oB 8 [.ref m0, vI un, .ref m2, .ref m3, vI mo, vI oft, vI la, vI du, .ref m8, .ref m9, vI to, .ref m11, .ref m12, vJ tr, .ref m14, vI n, vI u.1, vI u.2.1, vI u.2.2.1, .ref m19, vI u.2.2.2.1, .ref m21, .ref m22, vI u.2.2.2.2.1, vI its, .ref m25, .ref m26, vJ lt0]), (m14, aI ca 200 t), (m19, aI ca 6 u.2.2.2.2.2.1), (m21, aI ca 6 u.2.2.2.2.2.2.1), (m22, aI ca 6 u.2.2.2.2.2.2.2)]) 0 0 := by
  refine zm_I (cc := cX8_takesItem) (maxL := 3) (ret := some .boolean) (by decide) rfl (Nat.le_of_ble_eq_true rfl) ?_
  intro p e s m below meth c A ls R args Q hR hargs hQ hx hb hml hr hts hown hlk hnm hK hP hD hA hS hl
  have hown : s.vm.findClass RX8 = some m.cls := hown
  have hl : lv_has ls 3 [(0, .ref hm)] := hl
  have lk_f98 : (Cond.fieldLink RX8 98 "DripRingsModel" "at" "I").before args s = true := hts _ (by decide +kernel)
  have inF_X8 : ∀ w ∈ wsX80, w ∈ wsX8_takesItem := by decide +kernel
  have lk_f61 : (Cond.fieldLink RX8 61 "DripRingsModel" "seen" "I").before args s = true := hts _ (by decide +kernel)
  have lk_f36 : (Cond.fieldLink RX8 36 "DripRingsModel" "read" "[I").before args s = true := hts _ (by decide +kernel)
  have hn := hT.1
  have hand := and_1 hfl
  have hor := or_1 hfl
  rw [← hse] at hand hor
  refine lv_aload_n hx hb dX8_takesItem_0 rfl (lv_at hl 0 rfl) ?_
  refine lv_aload_n hx hb dX8_takesItem_1 rfl (lv_at hl 0 rfl) ?_
  refine va_get (D := g) (ci := 8) (v := vI at0) (C := RX8) (T := TX8) (N := 28) hx hb hts inF_X8 hown hK.1 hP 0 rfl rfl 16 (by decide) lk_f98 (fun _ h9 => h9) rfl dX8_takesItem_2 ?_
  refine zc_VI (As := [vI at0]) (rest := []) (wc := [(hm, oB 8 [.ref m0, vI un, .ref m2, .ref m3, vI mo, vI oft, vI la, vI du, .ref m8, .ref m9, vI to, .ref m11, .ref m12, vJ tr, .ref m14, vI n, vI at0, vI sa, vI vv, .ref m19, vI rdu, .ref m21, .ref m22, vI se, vI its, .ref m25, .ref m26, vJ lt0]), (m14, aI ca 200 t)]) (wr := [(m19, aI ca 6 rd), (m21, aI ca 6 rN), (m22, aI ca 6 rW)]) (k_X8_letterAt l g ca hm m0 m2 m3 m8 m9 m11 m12 m14 m19 m21 m22 m25 m26 un mo oft la du to tr n at0 sa vv rdu se its lt0 t at0 (by first | assumption | omega) (by first | assumption | omega)) dX8_takesItem_5 (cwV 1 hts gX8_takesItem_X8_letterAt rfl rfl rfl (by decide +kernel) (by rw [hR]; exact ⟨Nat.le_of_ble_eq_true rfl, Nat.le_of_ble_eq_true rfl⟩)) ⟨hx, hb, hml, hown, hts⟩ hl.1 hK hP hD hS hA 0 rfl rfl rfl [0, 1] [2, 3, 4] rfl (by decide) rfl (by decide) (by decide) rfl rfl (Nat.le_of_ble_eq_true rfl) (by rw [hR]; exact ⟨Nat.le_of_ble_eq_true rfl, Nat.le_of_ble_eq_true rfl⟩) (fun z5 u H locs q5 hP hD hS => ?_)
  have q5 : (at0 < n ∧ z5 = t at0) ∨ (¬ at0 < n ∧ z5 = -1) := q5
  have hP : va_P g vwCl [(hm, oB 8 [.ref m0, vI un, .ref m2, .ref m3, vI mo, vI oft, vI la, vI du, .ref m8, .ref m9, vI to, .ref m11, .ref m12, vJ tr, .ref m14, vI n, vI at0, vI sa, vI vv, .ref m19, vI rdu, .ref m21, .ref m22, vI se, vI its, .ref m25, .ref m26, vJ lt0]), (m14, aI ca 200 t), (m19, aI ca 6 rd), (m21, aI ca 6 rN), (m22, aI ca 6 rW)] H := hP.sub [3, 4, 0, 1, 2] rfl
  have hD : va_D A [(hm, oB 8 [.ref m0, vI un, .ref m2, .ref m3, vI mo, vI oft, vI la, vI du, .ref m8, .ref m9, vI to, .ref m11, .ref m12, vJ tr, .ref m14, vI n, vI at0, vI sa, vI vv, .ref m19, vI rdu, .ref m21, .ref m22, vI se, vI its, .ref m25, .ref m26, vJ lt0]), (m14, aI ca 200 t), (m19, aI ca 6 rd), (m21, aI ca 6 rN), (m22, aI ca 6 rW)] := hD.sub [3, 4, 0, 1, 2] (by decide) rfl
  have hz5 : z5 = t at0 := by omega
  have hz5b := hT.2 at0 hat.1 hat.2
  have hz5c : 0 ≤ z5 ∧ z5 ≤ 255 := by omega
  refine lv_istore_n (lv' := [(1, vI z5), (0, .ref hm)]) hx hb dX8_takesItem_8 rfl hl (by decide) rfl (fun ls hl => ?_)
  refine lv_iload_n hx hb dX8_takesItem_9 rfl (lv_at hl 0 rfl) ?_
  refine lv_bipush (v := Int32.ofInt 114) hx hb dX8_takesItem_10 (by decide) ?_
  refine ri_icmp_ne (tgt := 19) hx hb dX8_takesItem_12 (by decide) ⟨by omega, by omega⟩ ⟨by omega, by omega⟩ (fun c12 => ?_) (fun c12 => ?_)
  · skip
    refine lv_iload_n hx hb dX8_takesItem_19 rfl (lv_at hl 0 rfl) ?_
    refine lv_bipush (v := Int32.ofInt 108) hx hb dX8_takesItem_20 (by decide) ?_
    refine ri_icmp_ne (tgt := 29) hx hb dX8_takesItem_22 (by decide) ⟨by omega, by omega⟩ ⟨by omega, by omega⟩ (fun c22 => ?_) (fun c22 => ?_)
    · skip
      refine lv_iload_n hx hb dX8_takesItem_29 rfl (lv_at hl 0 rfl) ?_
      refine lv_bipush (v := Int32.ofInt 116) hx hb dX8_takesItem_30 (by decide) ?_
      refine ri_icmp_ne (tgt := 39) hx hb dX8_takesItem_32 (by decide) ⟨by omega, by omega⟩ ⟨by omega, by omega⟩ (fun c32 => ?_) (fun c32 => ?_)
      · skip
        refine lv_iconst (v := Int32.ofInt 0) hx hb dX8_takesItem_39 rfl ?_
        refine lv_istore_n (lv' := [(2, vI 0), (1, vI z5), (0, .ref hm)]) hx hb dX8_takesItem_40 rfl hl (by decide) rfl (fun ls hl => ?_)
        refine lv_iload_n hx hb dX8_takesItem_41 rfl (lv_at hl 0 rfl) ?_
        refine ri_if_ne (tgt := 51) hx hb dX8_takesItem_42 (by decide) ⟨by omega, by omega⟩ (fun c42_ => ?_) (fun c42_ => ?_)
        · exact absurd c42_ (by decide)
        · skip
          refine lv_iload_n hx hb dX8_takesItem_45 rfl (lv_at hl 1 rfl) ?_
          refine lv_bipush (v := Int32.ofInt 112) hx hb dX8_takesItem_46 (by decide) ?_
          refine ri_icmp_ne (tgt := 60) hx hb dX8_takesItem_48 (by decide) ⟨by omega, by omega⟩ ⟨by omega, by omega⟩ (fun c48 => ?_) (fun c48 => ?_)
          · skip
            refine lv_iconst (v := Int32.ofInt 0) hx hb dX8_takesItem_60 rfl ?_
            refine zr_Z hx hb hr hlk hQ (at0, sa, vv, rdu, se, rd, rN, rW) hP hD hS dX8_takesItem_61 (Nat.le_of_ble_eq_true rfl) (Nat.le_of_ble_eq_true rfl) (Or.inl rfl) ?_
            show (at0 ≤ at0 ∧ at0 ≤ n) ∧ ((0 = 1 ∧ itc t n at0 sr sl st0 rdu = (0, skp t n at0) ∧ rd = itr t n at0 sr sl st0 rd ∧ rdu = itu t n at0 rdu ∧ rN = itn t n at0 rdu rN ∧ rW = itw t n at0 rdu rW ∧ se = fl t n at0 114 sr + 2 * fl t n at0 108 sl + 4 * fl t n at0 116 st0) ∨ (0 = 0 ∧ itc t n at0 sr sl st0 rdu = (1, sa)))
            refine ⟨by omega, Or.inr ⟨rfl, ?_⟩⟩
            rw [hsa]
            by_cases h1 : t at0 = 114
            · rw [itc_r hat.2 h1, if_neg (by omega)]
            · by_cases h2 : t at0 = 108
              · rw [itc_l hat.2 h2, if_neg (by omega)]
              · by_cases h3 : t at0 = 116
                · rw [itc_t hat.2 h3, if_neg (by omega)]
                · exact itc_x hat.2 (by omega)
          · skip
            refine lv_aload_n hx hb dX8_takesItem_51 rfl (lv_at hl 2 rfl) ?_
            refine va_get (D := g) (ci := 8) (v := vI se) (C := RX8) (T := TX8) (N := 28) hx hb hts inF_X8 hown hK.1 hP 0 rfl rfl 23 (by decide) lk_f61 (fun _ h9 => h9) rfl dX8_takesItem_52 ?_
            refine lv_iload_n hx hb dX8_takesItem_55 rfl (lv_at hl 0 rfl) ?_
            refine ri_and hx hb dX8_takesItem_56 ⟨by omega, by omega⟩ (by omega) (fun z56 e56 => ?_)
            have hz56 : (t at0 = 114 → z56 = sr) ∧ (t at0 = 108 → z56 = 2 * sl) ∧ (t at0 = 116 → z56 = 4 * st0) ∧ (t at0 = 112 → z56 = 0) := by
              refine ⟨fun q => ?_, fun q => ?_, fun q => ?_, fun q => ?_⟩
              · first | (exfalso; omega) | (rw [e56]; exact hand.1)
              · first | (exfalso; omega) | (rw [e56]; exact hand.2.1)
              · first | (exfalso; omega) | (rw [e56]; exact hand.2.2.1)
              · first | (exfalso; omega) | (rw [e56]; exact hand.2.2.2)
            refine ri_if_eq (tgt := 62) hx hb dX8_takesItem_57 (by decide) ⟨by omega, by omega⟩ (fun c57 => ?_) (fun c57 => ?_)
            · skip
              refine lv_aload_n hx hb dX8_takesItem_62 rfl (lv_at hl 2 rfl) ?_
              refine lv_dup hx hb dX8_takesItem_63 rfl ?_
              refine va_get (D := g) (ci := 8) (v := vI se) (C := RX8) (T := TX8) (N := 28) hx hb hts inF_X8 hown hK.1 hP 0 rfl rfl 23 (by decide) lk_f61 (fun _ h9 => h9) rfl dX8_takesItem_64 ?_
              refine lv_iload_n hx hb dX8_takesItem_67 rfl (lv_at hl 0 rfl) ?_
              refine ri_or hx hb dX8_takesItem_68 ⟨by omega, by omega⟩ (by omega) (fun z68 e68 => ?_)
              refine va_put (D := g) (ci := 8) (v := vI z68) (ty := .int) (C := RX8) (T := TX8) (N := 28) hx hb hts inF_X8 tyX8 tyX8_ok nmX8 hown hK.1 hP hD hS 0 rfl rfl 23 (by decide) lk_f61 (fun _ h9 => h9) rfl (by decide +kernel) rfl rfl (Nat.le_of_ble_eq_true rfl) dX8_takesItem_69 (fun H locs hP hD hS => ?_)
              have hP : va_P g vwCl [(hm, oB 8 [.ref m0, vI un, .ref m2, .ref m3, vI mo, vI oft, vI la, vI du, .ref m8, .ref m9, vI to, .ref m11, .ref m12, vJ tr, .ref m14, vI n, vI at0, vI sa, vI vv, .ref m19, vI rdu, .ref m21, .ref m22, vI z68, vI its, .ref m25, .ref m26, vJ lt0]), (m14, aI ca 200 t), (m19, aI ca 6 rd), (m21, aI ca 6 rN), (m22, aI ca 6 rW)] H := hP
              have hD : va_D A [(hm, oB 8 [.ref m0, vI un, .ref m2, .ref m3, vI mo, vI oft, vI la, vI du, .ref m8, .ref m9, vI to, .ref m11, .ref m12, vJ tr, .ref m14, vI n, vI at0, vI sa, vI vv, .ref m19, vI rdu, .ref m21, .ref m22, vI z68, vI its, .ref m25, .ref m26, vJ lt0]), (m14, aI ca 200 t), (m19, aI ca 6 rd), (m21, aI ca 6 rN), (m22, aI ca 6 rW)] := hD
              have hz67 : (t at0 = 114 → z68 = 1 + 2 * sl + 4 * st0) ∧ (t at0 = 108 → z68 = sr + 2 * 1 + 4 * st0) ∧ (t at0 = 116 → z68 = sr + 2 * sl + 4 * 1) ∧ (t at0 = 112 → z68 = sr + 2 * sl + 4 * st0) := by
                refine ⟨fun q => ?_, fun q => ?_, fun q => ?_, fun q => ?_⟩
                · first | (exfalso; omega) | (rw [e68]; exact hor.1)
                · first | (exfalso; omega) | (rw [e68]; exact hor.2.1)
                · first | (exfalso; omega) | (rw [e68]; exact hor.2.2.1)
                · first | (exfalso; omega) | (rw [e68, hor.2.2.2]; exact hse)
              refine lv_aload_n hx hb dX8_takesItem_72 rfl (lv_at hl 2 rfl) ?_
              refine lv_dup hx hb dX8_takesItem_73 rfl ?_
              refine va_get (D := g) (ci := 8) (v := vI at0) (C := RX8) (T := TX8) (N := 28) hx hb hts inF_X8 hown hK.1 hP 0 rfl rfl 16 (by decide) lk_f98 (fun _ h9 => h9) rfl dX8_takesItem_74 ?_
              refine lv_iconst (v := Int32.ofInt 1) hx hb dX8_takesItem_77 rfl ?_
              refine ri_add hx hb dX8_takesItem_78 (fun z78 e78 => ?_)
              refine va_put (D := g) (ci := 8) (v := vI z78) (ty := .int) (C := RX8) (T := TX8) (N := 28) hx hb hts inF_X8 tyX8 tyX8_ok nmX8 hown hK.1 hP hD hS 0 rfl rfl 16 (by decide) lk_f98 (fun _ h9 => h9) rfl (by decide +kernel) rfl rfl (Nat.le_of_ble_eq_true rfl) dX8_takesItem_79 (fun H locs hP hD hS => ?_)
              have hP : va_P g vwCl [(hm, oB 8 [.ref m0, vI un, .ref m2, .ref m3, vI mo, vI oft, vI la, vI du, .ref m8, .ref m9, vI to, .ref m11, .ref m12, vJ tr, .ref m14, vI n, vI z78, vI sa, vI vv, .ref m19, vI rdu, .ref m21, .ref m22, vI z68, vI its, .ref m25, .ref m26, vJ lt0]), (m14, aI ca 200 t), (m19, aI ca 6 rd), (m21, aI ca 6 rN), (m22, aI ca 6 rW)] H := hP
              have hD : va_D A [(hm, oB 8 [.ref m0, vI un, .ref m2, .ref m3, vI mo, vI oft, vI la, vI du, .ref m8, .ref m9, vI to, .ref m11, .ref m12, vJ tr, .ref m14, vI n, vI z78, vI sa, vI vv, .ref m19, vI rdu, .ref m21, .ref m22, vI z68, vI its, .ref m25, .ref m26, vJ lt0]), (m14, aI ca 200 t), (m19, aI ca 6 rd), (m21, aI ca 6 rN), (m22, aI ca 6 rW)] := hD
              refine lv_iload_n hx hb dX8_takesItem_82 rfl (lv_at hl 1 rfl) ?_
              by_cases c83 : z5 = 108
              · skip
                refine ri_to c83 ?_
                refine lv_lookup (tgt := 155) hx hb dX8_takesItem_83 (by decide) (off := 72) (by rw [xi_to ⟨by omega, by omega⟩]; rfl) (by decide) ?_
                refine lv_aload_n hx hb dX8_takesItem_155 rfl (lv_at hl 2 rfl) ?_
                refine lv_iconst (v := Int32.ofInt 3) hx hb dX8_takesItem_156 rfl ?_
                refine lv_iconst (v := Int32.ofInt 1) hx hb dX8_takesItem_157 rfl ?_
                refine lv_bipush (v := Int32.ofInt 8) hx hb dX8_takesItem_158 (by decide) ?_
                refine zc_VI (As := [vI 3, vI 1, vI 8]) (rest := []) (wc := [(hm, oB 8 [.ref m0, vI un, .ref m2, .ref m3, vI mo, vI oft, vI la, vI du, .ref m8, .ref m9, vI to, .ref m11, .ref m12, vJ tr, .ref m14, vI n, vI z78, vI sa, vI vv, .ref m19, vI rdu, .ref m21, .ref m22, vI z68, vI its, .ref m25, .ref m26, vJ lt0]), (m14, aI ca 200 t), (m19, aI ca 6 rd)]) (wr := [(m21, aI ca 6 rN), (m22, aI ca 6 rW)]) (k_X8_takes l g ca hm m0 m2 m3 m8 m9 m11 m12 m14 m19 m21 m22 m25 m26 un mo oft la du to tr n z78 sa vv rdu z68 its lt0 t rd 3 1 8 (by first | assumption | omega) (by first | assumption | omega) (by first | assumption | omega) (by first | assumption | omega)) dX8_takesItem_160 (cwV 3 hts gX8_takesItem_X8_takes rfl rfl rfl (by decide +kernel) (by rw [hR]; exact ⟨Nat.le_of_ble_eq_true rfl, Nat.le_of_ble_eq_true rfl⟩)) ⟨hx, hb, hml, hown, hts⟩ hl.1 hK hP hD hS hA 0 rfl rfl rfl [0, 1, 2] [3, 4] rfl (by decide) rfl (by decide) (by decide) rfl rfl (Nat.le_of_ble_eq_true rfl) (by rw [hR]; exact ⟨Nat.le_of_ble_eq_true rfl, Nat.le_of_ble_eq_true rfl⟩) (fun z160 u H locs q160 hP hD hS => ?_)
                obtain ⟨at1_160, sa1_160, vv1_160, rd1_160⟩ := u
                have q160 : sa1_160 = skp t n z78 ∧ (z78 ≤ at1_160 ∧ at1_160 ≤ n) ∧ ((z160 = 1 ∧ numOK t n (skp t n z78) 1 8 ∧ rd1_160 = zu rd 3 (vl t n (skp t n z78)) ∧ nx t n (skp t n z78) = skp t n at1_160) ∨ (z160 = 0 ∧ ¬ numOK t n (skp t n z78) 1 8)) := q160
                obtain ⟨q160_0, q160_1, q160_2⟩ := q160
                have hP : va_P g vwCl [(hm, oB 8 [.ref m0, vI un, .ref m2, .ref m3, vI mo, vI oft, vI la, vI du, .ref m8, .ref m9, vI to, .ref m11, .ref m12, vJ tr, .ref m14, vI n, vI at1_160, vI sa1_160, vI vv1_160, .ref m19, vI rdu, .ref m21, .ref m22, vI z68, vI its, .ref m25, .ref m26, vJ lt0]), (m14, aI ca 200 t), (m19, aI ca 6 rd1_160), (m21, aI ca 6 rN), (m22, aI ca 6 rW)] H := hP.sub [2, 3, 4, 0, 1] rfl
                have hD : va_D A [(hm, oB 8 [.ref m0, vI un, .ref m2, .ref m3, vI mo, vI oft, vI la, vI du, .ref m8, .ref m9, vI to, .ref m11, .ref m12, vJ tr, .ref m14, vI n, vI at1_160, vI sa1_160, vI vv1_160, .ref m19, vI rdu, .ref m21, .ref m22, vI z68, vI its, .ref m25, .ref m26, vJ lt0]), (m14, aI ca 200 t), (m19, aI ca 6 rd1_160), (m21, aI ca 6 rN), (m22, aI ca 6 rW)] := hD.sub [2, 3, 4, 0, 1] (by decide) rfl
                refine ri_if_eq (tgt := 188) hx hb dX8_takesItem_163 (by decide) ⟨by omega, by omega⟩ (fun c163 => ?_) (fun c163 => ?_)
                · skip
                  refine lv_iconst (v := Int32.ofInt 0) hx hb dX8_takesItem_188 rfl ?_
                  refine zr_Z hx hb hr hlk hQ (at1_160, sa1_160, vv1_160, rdu, z68, rd1_160, rN, rW) hP hD hS dX8_takesItem_189 (Nat.le_of_ble_eq_true rfl) (Nat.le_of_ble_eq_true rfl) (Or.inl rfl) ?_
                  show (at0 ≤ at1_160 ∧ at1_160 ≤ n) ∧ ((0 = 1 ∧ itc t n at0 sr sl st0 rdu = (0, skp t n at1_160) ∧ rd1_160 = itr t n at0 sr sl st0 rd ∧ rdu = itu t n at0 rdu ∧ rN = itn t n at0 rdu rN ∧ rW = itw t n at0 rdu rW ∧ z68 = fl t n at0 114 sr + 2 * fl t n at0 108 sl + 4 * fl t n at0 116 st0) ∨ (0 = 0 ∧ itc t n at0 sr sl st0 rdu = (1, sa1_160)))
                  refine ⟨by omega, ?_⟩
                  rw [itc_l hat.2 (by omega)]
                  have hsl : sl = 0 := by omega
                  rw [if_pos hsl]
                  have hit := it_l (n := n) (sr := sr) (sl := sl) (st := st0) (du := rdu) (rd := rd) (dn := rN) (dw := rW) hat.2 (show t at0 = 108 by omega) hsl
                  rw [e78] at q160_0 q160_2
                  rcases q160_2 with a9 | a9
                  · first
                    | (exfalso; omega)
                    | (rw [pn_ok a9.2.1, a9.2.2.2]
                       rw [pn_ok a9.2.1, a9.2.2.2] at hit
                       rw [e175, hr178, e78] at q178_2
                       rcases q178_2 with b9 | b9
                       · first
                         | (exfalso; omega)
                         | (rw [pn_ok b9.2.1, b9.2.2.2]
                            obtain ⟨i1, i2, i3, i4, i5, i6, i7⟩ := hit
                            rw [i1, i2, i3, i4, i5, i6, i7]
                            exact Or.inl ⟨rfl, rfl, by rw [b9.2.2.1, a9.2.2.1], rfl, rfl, rfl, hz67.2.1 (by omega)⟩)
                       · first
                         | (exfalso; omega)
                         | (rw [pn_no b9.2, q178_0]; exact Or.inr ⟨rfl, rfl⟩))
                  · first
                    | (exfalso; omega)
                    | (rw [pn_no a9.2, pn_bad, q160_0]; exact Or.inr ⟨rfl, rfl⟩)
                · skip
                  refine lv_aload_n hx hb dX8_takesItem_166 rfl (lv_at hl 2 rfl) ?_
                  refine lv_iconst (v := Int32.ofInt 4) hx hb dX8_takesItem_167 rfl ?_
                  refine lv_aload_n hx hb dX8_takesItem_168 rfl (lv_at hl 2 rfl) ?_
                  refine va_get (D := g) (ci := 8) (v := .ref m19) (C := RX8) (T := TX8) (N := 28) hx hb hts inF_X8 hown hK.1 hP 0 rfl rfl 19 (by decide) lk_f36 (fun _ h9 => h9) rfl dX8_takesItem_169 ?_
                  refine lv_iconst (v := Int32.ofInt 3) hx hb dX8_takesItem_172 rfl ?_
                  refine ra_ild hx hb hK hP 2 rfl dX8_takesItem_173 ⟨by omega, by omega⟩ (by omega) ?_
                  refine lv_iconst (v := Int32.ofInt 1) hx hb dX8_takesItem_174 rfl ?_
                  have hv178 := vl_bd t n (skp t n z78)
                  have hr178 : rd1_160 3 = vl t n (skp t n z78) := by
                    rcases q160_2 with q9 | q9
                    · rw [q9.2.2.1, zu_s]
                    · omega
                  refine ri_add hx hb dX8_takesItem_175 (fun z175 e175 => ?_)
                  refine lv_bipush (v := Int32.ofInt 9) hx hb dX8_takesItem_176 (by decide) ?_
                  refine zc_VI (As := [vI 4, vI z175, vI 9]) (rest := []) (wc := [(hm, oB 8 [.ref m0, vI un, .ref m2, .ref m3, vI mo, vI oft, vI la, vI du, .ref m8, .ref m9, vI to, .ref m11, .ref m12, vJ tr, .ref m14, vI n, vI at1_160, vI sa1_160, vI vv1_160, .ref m19, vI rdu, .ref m21, .ref m22, vI z68, vI its, .ref m25, .ref m26, vJ lt0]), (m14, aI ca 200 t), (m19, aI ca 6 rd1_160)]) (wr := [(m21, aI ca 6 rN), (m22, aI ca 6 rW)]) (k_X8_takes l g ca hm m0 m2 m3 m8 m9 m11 m12 m14 m19 m21 m22 m25 m26 un mo oft la du to tr n at1_160 sa1_160 vv1_160 rdu z68 its lt0 t rd1_160 4 z175 9 (by first | assumption | omega) (by first | assumption | omega) (by first | assumption | omega) (by first | assumption | omega)) dX8_takesItem_178 (cwV 3 hts gX8_takesItem_X8_takes rfl rfl rfl (by decide +kernel) (by rw [hR]; exact ⟨Nat.le_of_ble_eq_true rfl, Nat.le_of_ble_eq_true rfl⟩)) ⟨hx, hb, hml, hown, hts⟩ hl.1 hK hP hD hS hA 0 rfl rfl rfl [0, 1, 2] [3, 4] rfl (by decide) rfl (by decide) (by decide) rfl rfl (Nat.le_of_ble_eq_true rfl) (by rw [hR]; exact ⟨Nat.le_of_ble_eq_true rfl, Nat.le_of_ble_eq_true rfl⟩) (fun z178 u H locs q178 hP hD hS => ?_)
                  obtain ⟨at1_178, sa1_178, vv1_178, rd1_178⟩ := u
                  have q178 : sa1_178 = skp t n at1_160 ∧ (at1_160 ≤ at1_178 ∧ at1_178 ≤ n) ∧ ((z178 = 1 ∧ numOK t n (skp t n at1_160) z175 9 ∧ rd1_178 = zu rd1_160 4 (vl t n (skp t n at1_160)) ∧ nx t n (skp t n at1_160) = skp t n at1_178) ∨ (z178 = 0 ∧ ¬ numOK t n (skp t n at1_160) z175 9)) := q178
                  obtain ⟨q178_0, q178_1, q178_2⟩ := q178
                  have hP : va_P g vwCl [(hm, oB 8 [.ref m0, vI un, .ref m2, .ref m3, vI mo, vI oft, vI la, vI du, .ref m8, .ref m9, vI to, .ref m11, .ref m12, vJ tr, .ref m14, vI n, vI at1_178, vI sa1_178, vI vv1_178, .ref m19, vI rdu, .ref m21, .ref m22, vI z68, vI its, .ref m25, .ref m26, vJ lt0]), (m14, aI ca 200 t), (m19, aI ca 6 rd1_178), (m21, aI ca 6 rN), (m22, aI ca 6 rW)] H := hP.sub [2, 3, 4, 0, 1] rfl
                  have hD : va_D A [(hm, oB 8 [.ref m0, vI un, .ref m2, .ref m3, vI mo, vI oft, vI la, vI du, .ref m8, .ref m9, vI to, .ref m11, .ref m12, vJ tr, .ref m14, vI n, vI at1_178, vI sa1_178, vI vv1_178, .ref m19, vI rdu, .ref m21, .ref m22, vI z68, vI its, .ref m25, .ref m26, vJ lt0]), (m14, aI ca 200 t), (m19, aI ca 6 rd1_178), (m21, aI ca 6 rN), (m22, aI ca 6 rW)] := hD.sub [2, 3, 4, 0, 1] (by decide) rfl
                  refine ri_if_eq (tgt := 188) hx hb dX8_takesItem_181 (by decide) ⟨by omega, by omega⟩ (fun c181 => ?_) (fun c181 => ?_)
                  · skip
                    refine lv_iconst (v := Int32.ofInt 0) hx hb dX8_takesItem_188 rfl ?_
                    refine zr_Z hx hb hr hlk hQ (at1_178, sa1_178, vv1_178, rdu, z68, rd1_178, rN, rW) hP hD hS dX8_takesItem_189 (Nat.le_of_ble_eq_true rfl) (Nat.le_of_ble_eq_true rfl) (Or.inl rfl) ?_
                    show (at0 ≤ at1_178 ∧ at1_178 ≤ n) ∧ ((0 = 1 ∧ itc t n at0 sr sl st0 rdu = (0, skp t n at1_178) ∧ rd1_178 = itr t n at0 sr sl st0 rd ∧ rdu = itu t n at0 rdu ∧ rN = itn t n at0 rdu rN ∧ rW = itw t n at0 rdu rW ∧ z68 = fl t n at0 114 sr + 2 * fl t n at0 108 sl + 4 * fl t n at0 116 st0) ∨ (0 = 0 ∧ itc t n at0 sr sl st0 rdu = (1, sa1_178)))
                    refine ⟨by omega, ?_⟩
                    rw [itc_l hat.2 (by omega)]
                    have hsl : sl = 0 := by omega
                    rw [if_pos hsl]
                    have hit := it_l (n := n) (sr := sr) (sl := sl) (st := st0) (du := rdu) (rd := rd) (dn := rN) (dw := rW) hat.2 (show t at0 = 108 by omega) hsl
                    rw [e78] at q160_0 q160_2
                    rcases q160_2 with a9 | a9
                    · first
                      | (exfalso; omega)
                      | (rw [pn_ok a9.2.1, a9.2.2.2]
                         rw [pn_ok a9.2.1, a9.2.2.2] at hit
                         rw [e175, hr178, e78] at q178_2
                         rcases q178_2 with b9 | b9
                         · first
                           | (exfalso; omega)
                           | (rw [pn_ok b9.2.1, b9.2.2.2]
                              obtain ⟨i1, i2, i3, i4, i5, i6, i7⟩ := hit
                              rw [i1, i2, i3, i4, i5, i6, i7]
                              exact Or.inl ⟨rfl, rfl, by rw [b9.2.2.1, a9.2.2.1], rfl, rfl, rfl, hz67.2.1 (by omega)⟩)
                         · first
                           | (exfalso; omega)
                           | (rw [pn_no b9.2, q178_0]; exact Or.inr ⟨rfl, rfl⟩))
                    · first
                      | (exfalso; omega)
                      | (rw [pn_no a9.2, pn_bad, q160_0]; exact Or.inr ⟨rfl, rfl⟩)
                  · skip
                    refine lv_iconst (v := Int32.ofInt 1) hx hb dX8_takesItem_184 rfl ?_
                    refine lv_goto (tgt := 189) hx hb dX8_takesItem_185 (by decide) ?_
                    refine zr_Z hx hb hr hlk hQ (at1_178, sa1_178, vv1_178, rdu, z68, rd1_178, rN, rW) hP hD hS dX8_takesItem_189 (Nat.le_of_ble_eq_true rfl) (Nat.le_of_ble_eq_true rfl) (Or.inr rfl) ?_
                    show (at0 ≤ at1_178 ∧ at1_178 ≤ n) ∧ ((1 = 1 ∧ itc t n at0 sr sl st0 rdu = (0, skp t n at1_178) ∧ rd1_178 = itr t n at0 sr sl st0 rd ∧ rdu = itu t n at0 rdu ∧ rN = itn t n at0 rdu rN ∧ rW = itw t n at0 rdu rW ∧ z68 = fl t n at0 114 sr + 2 * fl t n at0 108 sl + 4 * fl t n at0 116 st0) ∨ (1 = 0 ∧ itc t n at0 sr sl st0 rdu = (1, sa1_178)))
                    refine ⟨by omega, ?_⟩
                    rw [itc_l hat.2 (by omega)]
                    have hsl : sl = 0 := by omega
                    rw [if_pos hsl]
                    have hit := it_l (n := n) (sr := sr) (sl := sl) (st := st0) (du := rdu) (rd := rd) (dn := rN) (dw := rW) hat.2 (show t at0 = 108 by omega) hsl
                    rw [e78] at q160_0 q160_2
                    rcases q160_2 with a9 | a9
                    · first
                      | (exfalso; omega)
                      | (rw [pn_ok a9.2.1, a9.2.2.2]
                         rw [pn_ok a9.2.1, a9.2.2.2] at hit
                         rw [e175, hr178, e78] at q178_2
                         rcases q178_2 with b9 | b9
                         · first
                           | (exfalso; omega)
                           | (rw [pn_ok b9.2.1, b9.2.2.2]
                              obtain ⟨i1, i2, i3, i4, i5, i6, i7⟩ := hit
                              rw [i1, i2, i3, i4, i5, i6, i7]
                              exact Or.inl ⟨rfl, rfl, by rw [b9.2.2.1, a9.2.2.1], rfl, rfl, rfl, hz67.2.1 (by omega)⟩)
                         · first
                           | (exfalso; omega)
                           | (rw [pn_no b9.2, q178_0]; exact Or.inr ⟨rfl, rfl⟩))
                    · first
                      | (exfalso; omega)
                      | (rw [pn_no a9.2, pn_bad, q160_0]; exact Or.inr ⟨rfl, rfl⟩)
              by_cases c83_2 : z5 = 114
              · skip
                refine ri_to c83_2 ?_
                refine lv_lookup (tgt := 116) hx hb dX8_takesItem_83 (by decide) (off := 33) (by rw [xi_to ⟨by omega, by omega⟩]; rfl) (by decide) ?_
                refine lv_aload_n hx hb dX8_takesItem_116 rfl (lv_at hl 2 rfl) ?_
                refine lv_iconst (v := Int32.ofInt 0) hx hb dX8_takesItem_117 rfl ?_
                refine lv_iconst (v := Int32.ofInt 1) hx hb dX8_takesItem_118 rfl ?_
                refine lv_bipush (v := Int32.ofInt 99) hx hb dX8_takesItem_119 (by decide) ?_
                refine zc_VI (As := [vI 0, vI 1, vI 99]) (rest := []) (wc := [(hm, oB 8 [.ref m0, vI un, .ref m2, .ref m3, vI mo, vI oft, vI la, vI du, .ref m8, .ref m9, vI to, .ref m11, .ref m12, vJ tr, .ref m14, vI n, vI z78, vI sa, vI vv, .ref m19, vI rdu, .ref m21, .ref m22, vI z68, vI its, .ref m25, .ref m26, vJ lt0]), (m14, aI ca 200 t), (m19, aI ca 6 rd)]) (wr := [(m21, aI ca 6 rN), (m22, aI ca 6 rW)]) (k_X8_takes l g ca hm m0 m2 m3 m8 m9 m11 m12 m14 m19 m21 m22 m25 m26 un mo oft la du to tr n z78 sa vv rdu z68 its lt0 t rd 0 1 99 (by first | assumption | omega) (by first | assumption | omega) (by first | assumption | omega) (by first | assumption | omega)) dX8_takesItem_121 (cwV 3 hts gX8_takesItem_X8_takes rfl rfl rfl (by decide +kernel) (by rw [hR]; exact ⟨Nat.le_of_ble_eq_true rfl, Nat.le_of_ble_eq_true rfl⟩)) ⟨hx, hb, hml, hown, hts⟩ hl.1 hK hP hD hS hA 0 rfl rfl rfl [0, 1, 2] [3, 4] rfl (by decide) rfl (by decide) (by decide) rfl rfl (Nat.le_of_ble_eq_true rfl) (by rw [hR]; exact ⟨Nat.le_of_ble_eq_true rfl, Nat.le_of_ble_eq_true rfl⟩) (fun z121 u H locs q121 hP hD hS => ?_)
                obtain ⟨at1_121, sa1_121, vv1_121, rd1_121⟩ := u
                have q121 : sa1_121 = skp t n z78 ∧ (z78 ≤ at1_121 ∧ at1_121 ≤ n) ∧ ((z121 = 1 ∧ numOK t n (skp t n z78) 1 99 ∧ rd1_121 = zu rd 0 (vl t n (skp t n z78)) ∧ nx t n (skp t n z78) = skp t n at1_121) ∨ (z121 = 0 ∧ ¬ numOK t n (skp t n z78) 1 99)) := q121
                obtain ⟨q121_0, q121_1, q121_2⟩ := q121
                have hP : va_P g vwCl [(hm, oB 8 [.ref m0, vI un, .ref m2, .ref m3, vI mo, vI oft, vI la, vI du, .ref m8, .ref m9, vI to, .ref m11, .ref m12, vJ tr, .ref m14, vI n, vI at1_121, vI sa1_121, vI vv1_121, .ref m19, vI rdu, .ref m21, .ref m22, vI z68, vI its, .ref m25, .ref m26, vJ lt0]), (m14, aI ca 200 t), (m19, aI ca 6 rd1_121), (m21, aI ca 6 rN), (m22, aI ca 6 rW)] H := hP.sub [2, 3, 4, 0, 1] rfl
                have hD : va_D A [(hm, oB 8 [.ref m0, vI un, .ref m2, .ref m3, vI mo, vI oft, vI la, vI du, .ref m8, .ref m9, vI to, .ref m11, .ref m12, vJ tr, .ref m14, vI n, vI at1_121, vI sa1_121, vI vv1_121, .ref m19, vI rdu, .ref m21, .ref m22, vI z68, vI its, .ref m25, .ref m26, vJ lt0]), (m14, aI ca 200 t), (m19, aI ca 6 rd1_121), (m21, aI ca 6 rN), (m22, aI ca 6 rW)] := hD.sub [2, 3, 4, 0, 1] (by decide) rfl
                refine ri_if_eq (tgt := 153) hx hb dX8_takesItem_124 (by decide) ⟨by omega, by omega⟩ (fun c124 => ?_) (fun c124 => ?_)
                · skip
                  refine lv_iconst (v := Int32.ofInt 0) hx hb dX8_takesItem_153 rfl ?_
                  refine zr_Z hx hb hr hlk hQ (at1_121, sa1_121, vv1_121, rdu, z68, rd1_121, rN, rW) hP hD hS dX8_takesItem_154 (Nat.le_of_ble_eq_true rfl) (Nat.le_of_ble_eq_true rfl) (Or.inl rfl) ?_
                  show (at0 ≤ at1_121 ∧ at1_121 ≤ n) ∧ ((0 = 1 ∧ itc t n at0 sr sl st0 rdu = (0, skp t n at1_121) ∧ rd1_121 = itr t n at0 sr sl st0 rd ∧ rdu = itu t n at0 rdu ∧ rN = itn t n at0 rdu rN ∧ rW = itw t n at0 rdu rW ∧ z68 = fl t n at0 114 sr + 2 * fl t n at0 108 sl + 4 * fl t n at0 116 st0) ∨ (0 = 0 ∧ itc t n at0 sr sl st0 rdu = (1, sa1_121)))
                  refine ⟨by omega, ?_⟩
                  rw [itc_r hat.2 (by omega)]
                  have hsr : sr = 0 := by omega
                  rw [if_pos hsr]
                  have hit := it_r (n := n) (sr := sr) (sl := sl) (st := st0) (du := rdu) (rd := rd) (dn := rN) (dw := rW) hat.2 (show t at0 = 114 by omega) hsr
                  rw [e78] at q121_0 q121_2
                  rcases q121_2 with a9 | a9
                  · first
                    | (exfalso; omega)
                    | (rw [pn_ok a9.2.1, a9.2.2.2]
                       rw [pn_ok a9.2.1, a9.2.2.2] at hit
                       rcases q132_2 with b9 | b9
                       · first
                         | (exfalso; omega)
                         | (rw [pn_ok b9.2.1, b9.2.2.2]
                            rw [pn_ok b9.2.1, b9.2.2.2] at hit
                            rcases q143_2 with c9 | c9
                            · first
                              | (exfalso; omega)
                              | (rw [pn_ok c9.2.1, c9.2.2.2]
                                 obtain ⟨i1, i2, i3, i4, i5, i6, i7⟩ := hit
                                 rw [i1, i2, i3, i4, i5, i6, i7]
                                 exact Or.inl ⟨rfl, rfl, by rw [c9.2.2.1, b9.2.2.1, a9.2.2.1], rfl, rfl, rfl, hz67.1 (by omega)⟩)
                            · first
                              | (exfalso; omega)
                              | (rw [pn_no c9.2, q143_0]; exact Or.inr ⟨rfl, rfl⟩))
                       · first
                         | (exfalso; omega)
                         | (rw [pn_no b9.2, pn_bad, q132_0]; exact Or.inr ⟨rfl, rfl⟩))
                  · first
                    | (exfalso; omega)
                    | (rw [pn_no a9.2, pn_bad, pn_bad, q121_0]; exact Or.inr ⟨rfl, rfl⟩)
                · skip
                  refine lv_aload_n hx hb dX8_takesItem_127 rfl (lv_at hl 2 rfl) ?_
                  refine lv_iconst (v := Int32.ofInt 1) hx hb dX8_takesItem_128 rfl ?_
                  refine lv_iconst (v := Int32.ofInt 1) hx hb dX8_takesItem_129 rfl ?_
                  refine lv_bipush (v := Int32.ofInt 9) hx hb dX8_takesItem_130 (by decide) ?_
                  refine zc_VI (As := [vI 1, vI 1, vI 9]) (rest := []) (wc := [(hm, oB 8 [.ref m0, vI un, .ref m2, .ref m3, vI mo, vI oft, vI la, vI du, .ref m8, .ref m9, vI to, .ref m11, .ref m12, vJ tr, .ref m14, vI n, vI at1_121, vI sa1_121, vI vv1_121, .ref m19, vI rdu, .ref m21, .ref m22, vI z68, vI its, .ref m25, .ref m26, vJ lt0]), (m14, aI ca 200 t), (m19, aI ca 6 rd1_121)]) (wr := [(m21, aI ca 6 rN), (m22, aI ca 6 rW)]) (k_X8_takes l g ca hm m0 m2 m3 m8 m9 m11 m12 m14 m19 m21 m22 m25 m26 un mo oft la du to tr n at1_121 sa1_121 vv1_121 rdu z68 its lt0 t rd1_121 1 1 9 (by first | assumption | omega) (by first | assumption | omega) (by first | assumption | omega) (by first | assumption | omega)) dX8_takesItem_132 (cwV 3 hts gX8_takesItem_X8_takes rfl rfl rfl (by decide +kernel) (by rw [hR]; exact ⟨Nat.le_of_ble_eq_true rfl, Nat.le_of_ble_eq_true rfl⟩)) ⟨hx, hb, hml, hown, hts⟩ hl.1 hK hP hD hS hA 0 rfl rfl rfl [0, 1, 2] [3, 4] rfl (by decide) rfl (by decide) (by decide) rfl rfl (Nat.le_of_ble_eq_true rfl) (by rw [hR]; exact ⟨Nat.le_of_ble_eq_true rfl, Nat.le_of_ble_eq_true rfl⟩) (fun z132 u H locs q132 hP hD hS => ?_)
                  obtain ⟨at1_132, sa1_132, vv1_132, rd1_132⟩ := u
                  have q132 : sa1_132 = skp t n at1_121 ∧ (at1_121 ≤ at1_132 ∧ at1_132 ≤ n) ∧ ((z132 = 1 ∧ numOK t n (skp t n at1_121) 1 9 ∧ rd1_132 = zu rd1_121 1 (vl t n (skp t n at1_121)) ∧ nx t n (skp t n at1_121) = skp t n at1_132) ∨ (z132 = 0 ∧ ¬ numOK t n (skp t n at1_121) 1 9)) := q132
                  obtain ⟨q132_0, q132_1, q132_2⟩ := q132
                  have hP : va_P g vwCl [(hm, oB 8 [.ref m0, vI un, .ref m2, .ref m3, vI mo, vI oft, vI la, vI du, .ref m8, .ref m9, vI to, .ref m11, .ref m12, vJ tr, .ref m14, vI n, vI at1_132, vI sa1_132, vI vv1_132, .ref m19, vI rdu, .ref m21, .ref m22, vI z68, vI its, .ref m25, .ref m26, vJ lt0]), (m14, aI ca 200 t), (m19, aI ca 6 rd1_132), (m21, aI ca 6 rN), (m22, aI ca 6 rW)] H := hP.sub [2, 3, 4, 0, 1] rfl
                  have hD : va_D A [(hm, oB 8 [.ref m0, vI un, .ref m2, .ref m3, vI mo, vI oft, vI la, vI du, .ref m8, .ref m9, vI to, .ref m11, .ref m12, vJ tr, .ref m14, vI n, vI at1_132, vI sa1_132, vI vv1_132, .ref m19, vI rdu, .ref m21, .ref m22, vI z68, vI its, .ref m25, .ref m26, vJ lt0]), (m14, aI ca 200 t), (m19, aI ca 6 rd1_132), (m21, aI ca 6 rN), (m22, aI ca 6 rW)] := hD.sub [2, 3, 4, 0, 1] (by decide) rfl
                  refine ri_if_eq (tgt := 153) hx hb dX8_takesItem_135 (by decide) ⟨by omega, by omega⟩ (fun c135 => ?_) (fun c135 => ?_)
                  · skip
                    refine lv_iconst (v := Int32.ofInt 0) hx hb dX8_takesItem_153 rfl ?_
                    refine zr_Z hx hb hr hlk hQ (at1_132, sa1_132, vv1_132, rdu, z68, rd1_132, rN, rW) hP hD hS dX8_takesItem_154 (Nat.le_of_ble_eq_true rfl) (Nat.le_of_ble_eq_true rfl) (Or.inl rfl) ?_
                    show (at0 ≤ at1_132 ∧ at1_132 ≤ n) ∧ ((0 = 1 ∧ itc t n at0 sr sl st0 rdu = (0, skp t n at1_132) ∧ rd1_132 = itr t n at0 sr sl st0 rd ∧ rdu = itu t n at0 rdu ∧ rN = itn t n at0 rdu rN ∧ rW = itw t n at0 rdu rW ∧ z68 = fl t n at0 114 sr + 2 * fl t n at0 108 sl + 4 * fl t n at0 116 st0) ∨ (0 = 0 ∧ itc t n at0 sr sl st0 rdu = (1, sa1_132)))
                    refine ⟨by omega, ?_⟩
                    rw [itc_r hat.2 (by omega)]
                    have hsr : sr = 0 := by omega
                    rw [if_pos hsr]
                    have hit := it_r (n := n) (sr := sr) (sl := sl) (st := st0) (du := rdu) (rd := rd) (dn := rN) (dw := rW) hat.2 (show t at0 = 114 by omega) hsr
                    rw [e78] at q121_0 q121_2
                    rcases q121_2 with a9 | a9
                    · first
                      | (exfalso; omega)
                      | (rw [pn_ok a9.2.1, a9.2.2.2]
                         rw [pn_ok a9.2.1, a9.2.2.2] at hit
                         rcases q132_2 with b9 | b9
                         · first
                           | (exfalso; omega)
                           | (rw [pn_ok b9.2.1, b9.2.2.2]
                              rw [pn_ok b9.2.1, b9.2.2.2] at hit
                              rcases q143_2 with c9 | c9
                              · first
                                | (exfalso; omega)
                                | (rw [pn_ok c9.2.1, c9.2.2.2]
                                   obtain ⟨i1, i2, i3, i4, i5, i6, i7⟩ := hit
                                   rw [i1, i2, i3, i4, i5, i6, i7]
                                   exact Or.inl ⟨rfl, rfl, by rw [c9.2.2.1, b9.2.2.1, a9.2.2.1], rfl, rfl, rfl, hz67.1 (by omega)⟩)
                              · first
                                | (exfalso; omega)
                                | (rw [pn_no c9.2, q143_0]; exact Or.inr ⟨rfl, rfl⟩))
                         · first
                           | (exfalso; omega)
                           | (rw [pn_no b9.2, pn_bad, q132_0]; exact Or.inr ⟨rfl, rfl⟩))
                    · first
                      | (exfalso; omega)
                      | (rw [pn_no a9.2, pn_bad, pn_bad, q121_0]; exact Or.inr ⟨rfl, rfl⟩)
                  · skip
                    refine lv_aload_n hx hb dX8_takesItem_138 rfl (lv_at hl 2 rfl) ?_
                    refine lv_iconst (v := Int32.ofInt 2) hx hb dX8_takesItem_139 rfl ?_
                    refine lv_iconst (v := Int32.ofInt 1) hx hb dX8_takesItem_140 rfl ?_
                    refine lv_bipush (v := Int32.ofInt 20) hx hb dX8_takesItem_141 (by decide) ?_
                    refine zc_VI (As := [vI 2, vI 1, vI 20]) (rest := []) (wc := [(hm, oB 8 [.ref m0, vI un, .ref m2, .ref m3, vI mo, vI oft, vI la, vI du, .ref m8, .ref m9, vI to, .ref m11, .ref m12, vJ tr, .ref m14, vI n, vI at1_132, vI sa1_132, vI vv1_132, .ref m19, vI rdu, .ref m21, .ref m22, vI z68, vI its, .ref m25, .ref m26, vJ lt0]), (m14, aI ca 200 t), (m19, aI ca 6 rd1_132)]) (wr := [(m21, aI ca 6 rN), (m22, aI ca 6 rW)]) (k_X8_takes l g ca hm m0 m2 m3 m8 m9 m11 m12 m14 m19 m21 m22 m25 m26 un mo oft la du to tr n at1_132 sa1_132 vv1_132 rdu z68 its lt0 t rd1_132 2 1 20 (by first | assumption | omega) (by first | assumption | omega) (by first | assumption | omega) (by first | assumption | omega)) dX8_takesItem_143 (cwV 3 hts gX8_takesItem_X8_takes rfl rfl rfl (by decide +kernel) (by rw [hR]; exact ⟨Nat.le_of_ble_eq_true rfl, Nat.le_of_ble_eq_true rfl⟩)) ⟨hx, hb, hml, hown, hts⟩ hl.1 hK hP hD hS hA 0 rfl rfl rfl [0, 1, 2] [3, 4] rfl (by decide) rfl (by decide) (by decide) rfl rfl (Nat.le_of_ble_eq_true rfl) (by rw [hR]; exact ⟨Nat.le_of_ble_eq_true rfl, Nat.le_of_ble_eq_true rfl⟩) (fun z143 u H locs q143 hP hD hS => ?_)
                    obtain ⟨at1_143, sa1_143, vv1_143, rd1_143⟩ := u
                    have q143 : sa1_143 = skp t n at1_132 ∧ (at1_132 ≤ at1_143 ∧ at1_143 ≤ n) ∧ ((z143 = 1 ∧ numOK t n (skp t n at1_132) 1 20 ∧ rd1_143 = zu rd1_132 2 (vl t n (skp t n at1_132)) ∧ nx t n (skp t n at1_132) = skp t n at1_143) ∨ (z143 = 0 ∧ ¬ numOK t n (skp t n at1_132) 1 20)) := q143
                    obtain ⟨q143_0, q143_1, q143_2⟩ := q143
                    have hP : va_P g vwCl [(hm, oB 8 [.ref m0, vI un, .ref m2, .ref m3, vI mo, vI oft, vI la, vI du, .ref m8, .ref m9, vI to, .ref m11, .ref m12, vJ tr, .ref m14, vI n, vI at1_143, vI sa1_143, vI vv1_143, .ref m19, vI rdu, .ref m21, .ref m22, vI z68, vI its, .ref m25, .ref m26, vJ lt0]), (m14, aI ca 200 t), (m19, aI ca 6 rd1_143), (m21, aI ca 6 rN), (m22, aI ca 6 rW)] H := hP.sub [2, 3, 4, 0, 1] rfl
                    have hD : va_D A [(hm, oB 8 [.ref m0, vI un, .ref m2, .ref m3, vI mo, vI oft, vI la, vI du, .ref m8, .ref m9, vI to, .ref m11, .ref m12, vJ tr, .ref m14, vI n, vI at1_143, vI sa1_143, vI vv1_143, .ref m19, vI rdu, .ref m21, .ref m22, vI z68, vI its, .ref m25, .ref m26, vJ lt0]), (m14, aI ca 200 t), (m19, aI ca 6 rd1_143), (m21, aI ca 6 rN), (m22, aI ca 6 rW)] := hD.sub [2, 3, 4, 0, 1] (by decide) rfl
                    refine ri_if_eq (tgt := 153) hx hb dX8_takesItem_146 (by decide) ⟨by omega, by omega⟩ (fun c146 => ?_) (fun c146 => ?_)
                    · skip
                      refine lv_iconst (v := Int32.ofInt 0) hx hb dX8_takesItem_153 rfl ?_
                      refine zr_Z hx hb hr hlk hQ (at1_143, sa1_143, vv1_143, rdu, z68, rd1_143, rN, rW) hP hD hS dX8_takesItem_154 (Nat.le_of_ble_eq_true rfl) (Nat.le_of_ble_eq_true rfl) (Or.inl rfl) ?_
                      show (at0 ≤ at1_143 ∧ at1_143 ≤ n) ∧ ((0 = 1 ∧ itc t n at0 sr sl st0 rdu = (0, skp t n at1_143) ∧ rd1_143 = itr t n at0 sr sl st0 rd ∧ rdu = itu t n at0 rdu ∧ rN = itn t n at0 rdu rN ∧ rW = itw t n at0 rdu rW ∧ z68 = fl t n at0 114 sr + 2 * fl t n at0 108 sl + 4 * fl t n at0 116 st0) ∨ (0 = 0 ∧ itc t n at0 sr sl st0 rdu = (1, sa1_143)))
                      refine ⟨by omega, ?_⟩
                      rw [itc_r hat.2 (by omega)]
                      have hsr : sr = 0 := by omega
                      rw [if_pos hsr]
                      have hit := it_r (n := n) (sr := sr) (sl := sl) (st := st0) (du := rdu) (rd := rd) (dn := rN) (dw := rW) hat.2 (show t at0 = 114 by omega) hsr
                      rw [e78] at q121_0 q121_2
                      rcases q121_2 with a9 | a9
                      · first
                        | (exfalso; omega)
                        | (rw [pn_ok a9.2.1, a9.2.2.2]
                           rw [pn_ok a9.2.1, a9.2.2.2] at hit
                           rcases q132_2 with b9 | b9
                           · first
                             | (exfalso; omega)
                             | (rw [pn_ok b9.2.1, b9.2.2.2]
                                rw [pn_ok b9.2.1, b9.2.2.2] at hit
                                rcases q143_2 with c9 | c9
                                · first
                                  | (exfalso; omega)
                                  | (rw [pn_ok c9.2.1, c9.2.2.2]
                                     obtain ⟨i1, i2, i3, i4, i5, i6, i7⟩ := hit
                                     rw [i1, i2, i3, i4, i5, i6, i7]
                                     exact Or.inl ⟨rfl, rfl, by rw [c9.2.2.1, b9.2.2.1, a9.2.2.1], rfl, rfl, rfl, hz67.1 (by omega)⟩)
                                · first
                                  | (exfalso; omega)
                                  | (rw [pn_no c9.2, q143_0]; exact Or.inr ⟨rfl, rfl⟩))
                           · first
                             | (exfalso; omega)
                             | (rw [pn_no b9.2, pn_bad, q132_0]; exact Or.inr ⟨rfl, rfl⟩))
                      · first
                        | (exfalso; omega)
                        | (rw [pn_no a9.2, pn_bad, pn_bad, q121_0]; exact Or.inr ⟨rfl, rfl⟩)
                    · skip
                      refine lv_iconst (v := Int32.ofInt 1) hx hb dX8_takesItem_149 rfl ?_
                      refine lv_goto (tgt := 154) hx hb dX8_takesItem_150 (by decide) ?_
                      refine zr_Z hx hb hr hlk hQ (at1_143, sa1_143, vv1_143, rdu, z68, rd1_143, rN, rW) hP hD hS dX8_takesItem_154 (Nat.le_of_ble_eq_true rfl) (Nat.le_of_ble_eq_true rfl) (Or.inr rfl) ?_
                      show (at0 ≤ at1_143 ∧ at1_143 ≤ n) ∧ ((1 = 1 ∧ itc t n at0 sr sl st0 rdu = (0, skp t n at1_143) ∧ rd1_143 = itr t n at0 sr sl st0 rd ∧ rdu = itu t n at0 rdu ∧ rN = itn t n at0 rdu rN ∧ rW = itw t n at0 rdu rW ∧ z68 = fl t n at0 114 sr + 2 * fl t n at0 108 sl + 4 * fl t n at0 116 st0) ∨ (1 = 0 ∧ itc t n at0 sr sl st0 rdu = (1, sa1_143)))
                      refine ⟨by omega, ?_⟩
                      rw [itc_r hat.2 (by omega)]
                      have hsr : sr = 0 := by omega
                      rw [if_pos hsr]
                      have hit := it_r (n := n) (sr := sr) (sl := sl) (st := st0) (du := rdu) (rd := rd) (dn := rN) (dw := rW) hat.2 (show t at0 = 114 by omega) hsr
                      rw [e78] at q121_0 q121_2
                      rcases q121_2 with a9 | a9
                      · first
                        | (exfalso; omega)
                        | (rw [pn_ok a9.2.1, a9.2.2.2]
                           rw [pn_ok a9.2.1, a9.2.2.2] at hit
                           rcases q132_2 with b9 | b9
                           · first
                             | (exfalso; omega)
                             | (rw [pn_ok b9.2.1, b9.2.2.2]
                                rw [pn_ok b9.2.1, b9.2.2.2] at hit
                                rcases q143_2 with c9 | c9
                                · first
                                  | (exfalso; omega)
                                  | (rw [pn_ok c9.2.1, c9.2.2.2]
                                     obtain ⟨i1, i2, i3, i4, i5, i6, i7⟩ := hit
                                     rw [i1, i2, i3, i4, i5, i6, i7]
                                     exact Or.inl ⟨rfl, rfl, by rw [c9.2.2.1, b9.2.2.1, a9.2.2.1], rfl, rfl, rfl, hz67.1 (by omega)⟩)
                                · first
                                  | (exfalso; omega)
                                  | (rw [pn_no c9.2, q143_0]; exact Or.inr ⟨rfl, rfl⟩))
                           · first
                             | (exfalso; omega)
                             | (rw [pn_no b9.2, pn_bad, q132_0]; exact Or.inr ⟨rfl, rfl⟩))
                      · first
                        | (exfalso; omega)
                        | (rw [pn_no a9.2, pn_bad, pn_bad, q121_0]; exact Or.inr ⟨rfl, rfl⟩)
              by_cases c83_3 : z5 = 116
              · skip
                refine ri_to c83_3 ?_
                refine lv_lookup (tgt := 190) hx hb dX8_takesItem_83 (by decide) (off := 107) (by rw [xi_to ⟨by omega, by omega⟩]; rfl) (by decide) ?_
                refine lv_aload_n hx hb dX8_takesItem_190 rfl (lv_at hl 2 rfl) ?_
                refine lv_iconst (v := Int32.ofInt 5) hx hb dX8_takesItem_191 rfl ?_
                refine lv_iconst (v := Int32.ofInt 0) hx hb dX8_takesItem_192 rfl ?_
                refine lv_bipush (v := Int32.ofInt 9) hx hb dX8_takesItem_193 (by decide) ?_
                refine zc_VI (As := [vI 5, vI 0, vI 9]) (rest := []) (wc := [(hm, oB 8 [.ref m0, vI un, .ref m2, .ref m3, vI mo, vI oft, vI la, vI du, .ref m8, .ref m9, vI to, .ref m11, .ref m12, vJ tr, .ref m14, vI n, vI z78, vI sa, vI vv, .ref m19, vI rdu, .ref m21, .ref m22, vI z68, vI its, .ref m25, .ref m26, vJ lt0]), (m14, aI ca 200 t), (m19, aI ca 6 rd)]) (wr := [(m21, aI ca 6 rN), (m22, aI ca 6 rW)]) (k_X8_takes l g ca hm m0 m2 m3 m8 m9 m11 m12 m14 m19 m21 m22 m25 m26 un mo oft la du to tr n z78 sa vv rdu z68 its lt0 t rd 5 0 9 (by first | assumption | omega) (by first | assumption | omega) (by first | assumption | omega) (by first | assumption | omega)) dX8_takesItem_195 (cwV 3 hts gX8_takesItem_X8_takes rfl rfl rfl (by decide +kernel) (by rw [hR]; exact ⟨Nat.le_of_ble_eq_true rfl, Nat.le_of_ble_eq_true rfl⟩)) ⟨hx, hb, hml, hown, hts⟩ hl.1 hK hP hD hS hA 0 rfl rfl rfl [0, 1, 2] [3, 4] rfl (by decide) rfl (by decide) (by decide) rfl rfl (Nat.le_of_ble_eq_true rfl) (by rw [hR]; exact ⟨Nat.le_of_ble_eq_true rfl, Nat.le_of_ble_eq_true rfl⟩) (fun z195 u H locs q195 hP hD hS => ?_)
                obtain ⟨at1_195, sa1_195, vv1_195, rd1_195⟩ := u
                have q195 : sa1_195 = skp t n z78 ∧ (z78 ≤ at1_195 ∧ at1_195 ≤ n) ∧ ((z195 = 1 ∧ numOK t n (skp t n z78) 0 9 ∧ rd1_195 = zu rd 5 (vl t n (skp t n z78)) ∧ nx t n (skp t n z78) = skp t n at1_195) ∨ (z195 = 0 ∧ ¬ numOK t n (skp t n z78) 0 9)) := q195
                obtain ⟨q195_0, q195_1, q195_2⟩ := q195
                have hP : va_P g vwCl [(hm, oB 8 [.ref m0, vI un, .ref m2, .ref m3, vI mo, vI oft, vI la, vI du, .ref m8, .ref m9, vI to, .ref m11, .ref m12, vJ tr, .ref m14, vI n, vI at1_195, vI sa1_195, vI vv1_195, .ref m19, vI rdu, .ref m21, .ref m22, vI z68, vI its, .ref m25, .ref m26, vJ lt0]), (m14, aI ca 200 t), (m19, aI ca 6 rd1_195), (m21, aI ca 6 rN), (m22, aI ca 6 rW)] H := hP.sub [2, 3, 4, 0, 1] rfl
                have hD : va_D A [(hm, oB 8 [.ref m0, vI un, .ref m2, .ref m3, vI mo, vI oft, vI la, vI du, .ref m8, .ref m9, vI to, .ref m11, .ref m12, vJ tr, .ref m14, vI n, vI at1_195, vI sa1_195, vI vv1_195, .ref m19, vI rdu, .ref m21, .ref m22, vI z68, vI its, .ref m25, .ref m26, vJ lt0]), (m14, aI ca 200 t), (m19, aI ca 6 rd1_195), (m21, aI ca 6 rN), (m22, aI ca 6 rW)] := hD.sub [2, 3, 4, 0, 1] (by decide) rfl
                refine zr_Z hx hb hr hlk hQ (at1_195, sa1_195, vv1_195, rdu, z68, rd1_195, rN, rW) hP hD hS dX8_takesItem_198 (Nat.le_of_ble_eq_true rfl) (Nat.le_of_ble_eq_true rfl) (show z195 = 0 ∨ z195 = 1 from by omega) ?_
                show (at0 ≤ at1_195 ∧ at1_195 ≤ n) ∧ ((z195 = 1 ∧ itc t n at0 sr sl st0 rdu = (0, skp t n at1_195) ∧ rd1_195 = itr t n at0 sr sl st0 rd ∧ rdu = itu t n at0 rdu ∧ rN = itn t n at0 rdu rN ∧ rW = itw t n at0 rdu rW ∧ z68 = fl t n at0 114 sr + 2 * fl t n at0 108 sl + 4 * fl t n at0 116 st0) ∨ (z195 = 0 ∧ itc t n at0 sr sl st0 rdu = (1, sa1_195)))
                refine ⟨by omega, ?_⟩
                rw [itc_t hat.2 (by omega)]
                have hst0 : st0 = 0 := by omega
                rw [if_pos hst0]
                have hit := it_t (n := n) (sr := sr) (sl := sl) (st := st0) (du := rdu) (rd := rd) (dn := rN) (dw := rW) hat.2 (show t at0 = 116 by omega) hst0
                rw [e78] at q195_0 q195_2
                rcases q195_2 with a9 | a9
                · rw [pn_ok a9.2.1, a9.2.2.2]
                  obtain ⟨i1, i2, i3, i4, i5, i6, i7⟩ := hit
                  rw [i1, i2, i3, i4, i5, i6, i7]
                  exact Or.inl ⟨a9.1, rfl, a9.2.2.1, rfl, rfl, rfl, hz67.2.2.1 (by omega)⟩
                · rw [pn_no a9.2, q195_0]
                  exact Or.inr ⟨a9.1, rfl⟩
              refine lv_lookup (tgt := 199) hx hb dX8_takesItem_83 (by decide) (off := 116) (zlk_3 (by rw [xi_to ⟨by omega, by omega⟩]; omega) (by rw [xi_to ⟨by omega, by omega⟩]; omega) (by rw [xi_to ⟨by omega, by omega⟩]; omega)) (by decide) ?_
              refine lv_aload_n hx hb dX8_takesItem_199 rfl (lv_at hl 2 rfl) ?_
              refine zc_VI (As := []) (rest := []) (wc := [(hm, oB 8 [.ref m0, vI un, .ref m2, .ref m3, vI mo, vI oft, vI la, vI du, .ref m8, .ref m9, vI to, .ref m11, .ref m12, vJ tr, .ref m14, vI n, vI z78, vI sa, vI vv, .ref m19, vI rdu, .ref m21, .ref m22, vI z68, vI its, .ref m25, .ref m26, vJ lt0]), (m14, aI ca 200 t), (m21, aI ca 6 rN), (m22, aI ca 6 rW)]) (wr := [(m19, aI ca 6 rd)]) (k_X8_takesDue l g ca hm m0 m2 m3 m8 m9 m11 m12 m14 m19 m21 m22 m25 m26 un mo oft la du to tr n z78 sa vv rdu z68 its lt0 t rN rW (by first | assumption | omega) (by first | assumption | omega) (by first | assumption | omega)) dX8_takesItem_200 (cwV 0 hts gX8_takesItem_X8_takesDue rfl rfl rfl (by decide +kernel) (by rw [hR]; exact ⟨Nat.le_of_ble_eq_true rfl, Nat.le_of_ble_eq_true rfl⟩)) ⟨hx, hb, hml, hown, hts⟩ hl.1 hK hP hD hS hA 0 rfl rfl rfl [0, 1, 3, 4] [2] rfl (by decide) rfl (by decide) (by decide) rfl rfl (Nat.le_of_ble_eq_true rfl) (by rw [hR]; exact ⟨Nat.le_of_ble_eq_true rfl, Nat.le_of_ble_eq_true rfl⟩) (fun z200 u H locs q200 hP hD hS => ?_)
              obtain ⟨at1_200, sa1_200, vv1_200, rdu1_200, rN1_200, rW1_200⟩ := u
              have q200 : (z78 ≤ at1_200 ∧ at1_200 ≤ n) ∧ ((z200 = 1 ∧ rdu < 6 ∧ numOK t n (skp t n z78) 1 120 ∧ numOK t n (nx t n (skp t n z78)) 1 200 ∧ nx t n (nx t n (skp t n z78)) = skp t n at1_200 ∧ rdu1_200 = rdu + 1 ∧ rN1_200 = zu rN rdu (vl t n (skp t n z78)) ∧ rW1_200 = zu rW rdu (vl t n (nx t n (skp t n z78)))) ∨ (z200 = 0 ∧ ((rdu = 6 ∧ sa1_200 = sa) ∨ (rdu < 6 ∧ ¬ numOK t n (skp t n z78) 1 120 ∧ sa1_200 = skp t n z78) ∨ (rdu < 6 ∧ numOK t n (skp t n z78) 1 120 ∧ ¬ numOK t n (nx t n (skp t n z78)) 1 200 ∧ sa1_200 = nx t n (skp t n z78))))) := q200
              obtain ⟨q200_0, q200_1⟩ := q200
              have hP : va_P g vwCl [(hm, oB 8 [.ref m0, vI un, .ref m2, .ref m3, vI mo, vI oft, vI la, vI du, .ref m8, .ref m9, vI to, .ref m11, .ref m12, vJ tr, .ref m14, vI n, vI at1_200, vI sa1_200, vI vv1_200, .ref m19, vI rdu1_200, .ref m21, .ref m22, vI z68, vI its, .ref m25, .ref m26, vJ lt0]), (m14, aI ca 200 t), (m19, aI ca 6 rd), (m21, aI ca 6 rN1_200), (m22, aI ca 6 rW1_200)] H := hP.sub [1, 2, 0, 3, 4] rfl
              have hD : va_D A [(hm, oB 8 [.ref m0, vI un, .ref m2, .ref m3, vI mo, vI oft, vI la, vI du, .ref m8, .ref m9, vI to, .ref m11, .ref m12, vJ tr, .ref m14, vI n, vI at1_200, vI sa1_200, vI vv1_200, .ref m19, vI rdu1_200, .ref m21, .ref m22, vI z68, vI its, .ref m25, .ref m26, vJ lt0]), (m14, aI ca 200 t), (m19, aI ca 6 rd), (m21, aI ca 6 rN1_200), (m22, aI ca 6 rW1_200)] := hD.sub [1, 2, 0, 3, 4] (by decide) rfl
              refine zr_Z hx hb hr hlk hQ (at1_200, sa1_200, vv1_200, rdu1_200, z68, rd, rN1_200, rW1_200) hP hD hS dX8_takesItem_203 (Nat.le_of_ble_eq_true rfl) (Nat.le_of_ble_eq_true rfl) (show z200 = 0 ∨ z200 = 1 from by omega) ?_
              show (at0 ≤ at1_200 ∧ at1_200 ≤ n) ∧ ((z200 = 1 ∧ itc t n at0 sr sl st0 rdu = (0, skp t n at1_200) ∧ rd = itr t n at0 sr sl st0 rd ∧ rdu1_200 = itu t n at0 rdu ∧ rN1_200 = itn t n at0 rdu rN ∧ rW1_200 = itw t n at0 rdu rW ∧ z68 = fl t n at0 114 sr + 2 * fl t n at0 108 sl + 4 * fl t n at0 116 st0) ∨ (z200 = 0 ∧ itc t n at0 sr sl st0 rdu = (1, sa1_200)))
              refine ⟨by omega, ?_⟩
              rw [itc_p hat.2 (by omega)]
              rw [e78] at q200_1
              rcases q200_1 with a9 | a9
              · have hit := it_p (n := n) (sr := sr) (sl := sl) (st := st0) (du := rdu) (rd := rd) (dn := rN) (dw := rW) hat.2 (show t at0 = 112 by omega) a9.2.1
                obtain ⟨g1, g2, g3, g4, g5, g6, g7, g8⟩ := a9
                rw [if_pos g2, pn_ok g3, pn_ok g4, g5]
                rw [pn_ok g3] at hit
                obtain ⟨i1, i2, i3, i4, i5, i6, i7⟩ := hit
                rw [i1, i2, i3, i4, i5, i6, i7]
                exact Or.inl ⟨g1, rfl, rfl, g6, g7, g8, hz67.2.2.2 (by omega)⟩
              · obtain ⟨g1, g2⟩ := a9
                rcases g2 with g2 | g2 | g2
                · rw [if_neg (by omega), g2.2, hsa]; exact Or.inr ⟨g1, rfl⟩
                · rw [if_pos g2.1, pn_no g2.2.1, pn_bad, g2.2.2]; exact Or.inr ⟨g1, rfl⟩
                · rw [if_pos g2.1, pn_ok g2.2.1, pn_no g2.2.2.1, g2.2.2.2]; exact Or.inr ⟨g1, rfl⟩
            · skip
              refine lv_iconst (v := Int32.ofInt 0) hx hb dX8_takesItem_60 rfl ?_
              refine zr_Z hx hb hr hlk hQ (at0, sa, vv, rdu, se, rd, rN, rW) hP hD hS dX8_takesItem_61 (Nat.le_of_ble_eq_true rfl) (Nat.le_of_ble_eq_true rfl) (Or.inl rfl) ?_
              show (at0 ≤ at0 ∧ at0 ≤ n) ∧ ((0 = 1 ∧ itc t n at0 sr sl st0 rdu = (0, skp t n at0) ∧ rd = itr t n at0 sr sl st0 rd ∧ rdu = itu t n at0 rdu ∧ rN = itn t n at0 rdu rN ∧ rW = itw t n at0 rdu rW ∧ se = fl t n at0 114 sr + 2 * fl t n at0 108 sl + 4 * fl t n at0 116 st0) ∨ (0 = 0 ∧ itc t n at0 sr sl st0 rdu = (1, sa)))
              refine ⟨by omega, Or.inr ⟨rfl, ?_⟩⟩
              rw [hsa]
              by_cases h1 : t at0 = 114
              · rw [itc_r hat.2 h1, if_neg (by omega)]
              · by_cases h2 : t at0 = 108
                · rw [itc_l hat.2 h2, if_neg (by omega)]
                · by_cases h3 : t at0 = 116
                  · rw [itc_t hat.2 h3, if_neg (by omega)]
                  · exact itc_x hat.2 (by omega)
      · skip
        refine lv_iconst (v := Int32.ofInt 4) hx hb dX8_takesItem_35 rfl ?_
        refine lv_goto (tgt := 40) hx hb dX8_takesItem_36 (by decide) ?_
        refine lv_istore_n (lv' := [(2, vI 4), (1, vI z5), (0, .ref hm)]) hx hb dX8_takesItem_40 rfl hl (by decide) rfl (fun ls hl => ?_)
        refine lv_iload_n hx hb dX8_takesItem_41 rfl (lv_at hl 0 rfl) ?_
        refine ri_if_ne (tgt := 51) hx hb dX8_takesItem_42 (by decide) ⟨by omega, by omega⟩ (fun c42_ => ?_) (fun c42_ => ?_)
        · skip
          refine lv_aload_n hx hb dX8_takesItem_51 rfl (lv_at hl 2 rfl) ?_
          refine va_get (D := g) (ci := 8) (v := vI se) (C := RX8) (T := TX8) (N := 28) hx hb hts inF_X8 hown hK.1 hP 0 rfl rfl 23 (by decide) lk_f61 (fun _ h9 => h9) rfl dX8_takesItem_52 ?_
          refine lv_iload_n hx hb dX8_takesItem_55 rfl (lv_at hl 0 rfl) ?_
          refine ri_and hx hb dX8_takesItem_56 ⟨by omega, by omega⟩ (by omega) (fun z56 e56 => ?_)
          have hz56 : (t at0 = 114 → z56 = sr) ∧ (t at0 = 108 → z56 = 2 * sl) ∧ (t at0 = 116 → z56 = 4 * st0) ∧ (t at0 = 112 → z56 = 0) := by
            refine ⟨fun q => ?_, fun q => ?_, fun q => ?_, fun q => ?_⟩
            · first | (exfalso; omega) | (rw [e56]; exact hand.1)
            · first | (exfalso; omega) | (rw [e56]; exact hand.2.1)
            · first | (exfalso; omega) | (rw [e56]; exact hand.2.2.1)
            · first | (exfalso; omega) | (rw [e56]; exact hand.2.2.2)
          refine ri_if_eq (tgt := 62) hx hb dX8_takesItem_57 (by decide) ⟨by omega, by omega⟩ (fun c57 => ?_) (fun c57 => ?_)
          · skip
            refine lv_aload_n hx hb dX8_takesItem_62 rfl (lv_at hl 2 rfl) ?_
            refine lv_dup hx hb dX8_takesItem_63 rfl ?_
            refine va_get (D := g) (ci := 8) (v := vI se) (C := RX8) (T := TX8) (N := 28) hx hb hts inF_X8 hown hK.1 hP 0 rfl rfl 23 (by decide) lk_f61 (fun _ h9 => h9) rfl dX8_takesItem_64 ?_
            refine lv_iload_n hx hb dX8_takesItem_67 rfl (lv_at hl 0 rfl) ?_
            refine ri_or hx hb dX8_takesItem_68 ⟨by omega, by omega⟩ (by omega) (fun z68 e68 => ?_)
            refine va_put (D := g) (ci := 8) (v := vI z68) (ty := .int) (C := RX8) (T := TX8) (N := 28) hx hb hts inF_X8 tyX8 tyX8_ok nmX8 hown hK.1 hP hD hS 0 rfl rfl 23 (by decide) lk_f61 (fun _ h9 => h9) rfl (by decide +kernel) rfl rfl (Nat.le_of_ble_eq_true rfl) dX8_takesItem_69 (fun H locs hP hD hS => ?_)
            have hP : va_P g vwCl [(hm, oB 8 [.ref m0, vI un, .ref m2, .ref m3, vI mo, vI oft, vI la, vI du, .ref m8, .ref m9, vI to, .ref m11, .ref m12, vJ tr, .ref m14, vI n, vI at0, vI sa, vI vv, .ref m19, vI rdu, .ref m21, .ref m22, vI z68, vI its, .ref m25, .ref m26, vJ lt0]), (m14, aI ca 200 t), (m19, aI ca 6 rd), (m21, aI ca 6 rN), (m22, aI ca 6 rW)] H := hP
            have hD : va_D A [(hm, oB 8 [.ref m0, vI un, .ref m2, .ref m3, vI mo, vI oft, vI la, vI du, .ref m8, .ref m9, vI to, .ref m11, .ref m12, vJ tr, .ref m14, vI n, vI at0, vI sa, vI vv, .ref m19, vI rdu, .ref m21, .ref m22, vI z68, vI its, .ref m25, .ref m26, vJ lt0]), (m14, aI ca 200 t), (m19, aI ca 6 rd), (m21, aI ca 6 rN), (m22, aI ca 6 rW)] := hD
            have hz67 : (t at0 = 114 → z68 = 1 + 2 * sl + 4 * st0) ∧ (t at0 = 108 → z68 = sr + 2 * 1 + 4 * st0) ∧ (t at0 = 116 → z68 = sr + 2 * sl + 4 * 1) ∧ (t at0 = 112 → z68 = sr + 2 * sl + 4 * st0) := by
              refine ⟨fun q => ?_, fun q => ?_, fun q => ?_, fun q => ?_⟩
              · first | (exfalso; omega) | (rw [e68]; exact hor.1)
              · first | (exfalso; omega) | (rw [e68]; exact hor.2.1)
              · first | (exfalso; omega) | (rw [e68]; exact hor.2.2.1)
              · first | (exfalso; omega) | (rw [e68, hor.2.2.2]; exact hse)
            refine lv_aload_n hx hb dX8_takesItem_72 rfl (lv_at hl 2 rfl) ?_
            refine lv_dup hx hb dX8_takesItem_73 rfl ?_
            refine va_get (D := g) (ci := 8) (v := vI at0) (C := RX8) (T := TX8) (N := 28) hx hb hts inF_X8 hown hK.1 hP 0 rfl rfl 16 (by decide) lk_f98 (fun _ h9 => h9) rfl dX8_takesItem_74 ?_
            refine lv_iconst (v := Int32.ofInt 1) hx hb dX8_takesItem_77 rfl ?_
            refine ri_add hx hb dX8_takesItem_78 (fun z78 e78 => ?_)
            refine va_put (D := g) (ci := 8) (v := vI z78) (ty := .int) (C := RX8) (T := TX8) (N := 28) hx hb hts inF_X8 tyX8 tyX8_ok nmX8 hown hK.1 hP hD hS 0 rfl rfl 16 (by decide) lk_f98 (fun _ h9 => h9) rfl (by decide +kernel) rfl rfl (Nat.le_of_ble_eq_true rfl) dX8_takesItem_79 (fun H locs hP hD hS => ?_)
            have hP : va_P g vwCl [(hm, oB 8 [.ref m0, vI un, .ref m2, .ref m3, vI mo, vI oft, vI la, vI du, .ref m8, .ref m9, vI to, .ref m11, .ref m12, vJ tr, .ref m14, vI n, vI z78, vI sa, vI vv, .ref m19, vI rdu, .ref m21, .ref m22, vI z68, vI its, .ref m25, .ref m26, vJ lt0]), (m14, aI ca 200 t), (m19, aI ca 6 rd), (m21, aI ca 6 rN), (m22, aI ca 6 rW)] H := hP
            have hD : va_D A [(hm, oB 8 [.ref m0, vI un, .ref m2, .ref m3, vI mo, vI oft, vI la, vI du, .ref m8, .ref m9, vI to, .ref m11, .ref m12, vJ tr, .ref m14, vI n, vI z78, vI sa, vI vv, .ref m19, vI rdu, .ref m21, .ref m22, vI z68, vI its, .ref m25, .ref m26, vJ lt0]), (m14, aI ca 200 t), (m19, aI ca 6 rd), (m21, aI ca 6 rN), (m22, aI ca 6 rW)] := hD
            refine lv_iload_n hx hb dX8_takesItem_82 rfl (lv_at hl 1 rfl) ?_
            by_cases c83 : z5 = 108
            · skip
              refine ri_to c83 ?_
              refine lv_lookup (tgt := 155) hx hb dX8_takesItem_83 (by decide) (off := 72) (by rw [xi_to ⟨by omega, by omega⟩]; rfl) (by decide) ?_
              refine lv_aload_n hx hb dX8_takesItem_155 rfl (lv_at hl 2 rfl) ?_
              refine lv_iconst (v := Int32.ofInt 3) hx hb dX8_takesItem_156 rfl ?_
              refine lv_iconst (v := Int32.ofInt 1) hx hb dX8_takesItem_157 rfl ?_
              refine lv_bipush (v := Int32.ofInt 8) hx hb dX8_takesItem_158 (by decide) ?_
              refine zc_VI (As := [vI 3, vI 1, vI 8]) (rest := []) (wc := [(hm, oB 8 [.ref m0, vI un, .ref m2, .ref m3, vI mo, vI oft, vI la, vI du, .ref m8, .ref m9, vI to, .ref m11, .ref m12, vJ tr, .ref m14, vI n, vI z78, vI sa, vI vv, .ref m19, vI rdu, .ref m21, .ref m22, vI z68, vI its, .ref m25, .ref m26, vJ lt0]), (m14, aI ca 200 t), (m19, aI ca 6 rd)]) (wr := [(m21, aI ca 6 rN), (m22, aI ca 6 rW)]) (k_X8_takes l g ca hm m0 m2 m3 m8 m9 m11 m12 m14 m19 m21 m22 m25 m26 un mo oft la du to tr n z78 sa vv rdu z68 its lt0 t rd 3 1 8 (by first | assumption | omega) (by first | assumption | omega) (by first | assumption | omega) (by first | assumption | omega)) dX8_takesItem_160 (cwV 3 hts gX8_takesItem_X8_takes rfl rfl rfl (by decide +kernel) (by rw [hR]; exact ⟨Nat.le_of_ble_eq_true rfl, Nat.le_of_ble_eq_true rfl⟩)) ⟨hx, hb, hml, hown, hts⟩ hl.1 hK hP hD hS hA 0 rfl rfl rfl [0, 1, 2] [3, 4] rfl (by decide) rfl (by decide) (by decide) rfl rfl (Nat.le_of_ble_eq_true rfl) (by rw [hR]; exact ⟨Nat.le_of_ble_eq_true rfl, Nat.le_of_ble_eq_true rfl⟩) (fun z160 u H locs q160 hP hD hS => ?_)
              obtain ⟨at1_160, sa1_160, vv1_160, rd1_160⟩ := u
              have q160 : sa1_160 = skp t n z78 ∧ (z78 ≤ at1_160 ∧ at1_160 ≤ n) ∧ ((z160 = 1 ∧ numOK t n (skp t n z78) 1 8 ∧ rd1_160 = zu rd 3 (vl t n (skp t n z78)) ∧ nx t n (skp t n z78) = skp t n at1_160) ∨ (z160 = 0 ∧ ¬ numOK t n (skp t n z78) 1 8)) := q160
              obtain ⟨q160_0, q160_1, q160_2⟩ := q160
              have hP : va_P g vwCl [(hm, oB 8 [.ref m0, vI un, .ref m2, .ref m3, vI mo, vI oft, vI la, vI du, .ref m8, .ref m9, vI to, .ref m11, .ref m12, vJ tr, .ref m14, vI n, vI at1_160, vI sa1_160, vI vv1_160, .ref m19, vI rdu, .ref m21, .ref m22, vI z68, vI its, .ref m25, .ref m26, vJ lt0]), (m14, aI ca 200 t), (m19, aI ca 6 rd1_160), (m21, aI ca 6 rN), (m22, aI ca 6 rW)] H := hP.sub [2, 3, 4, 0, 1] rfl
              have hD : va_D A [(hm, oB 8 [.ref m0, vI un, .ref m2, .ref m3, vI mo, vI oft, vI la, vI du, .ref m8, .ref m9, vI to, .ref m11, .ref m12, vJ tr, .ref m14, vI n, vI at1_160, vI sa1_160, vI vv1_160, .ref m19, vI rdu, .ref m21, .ref m22, vI z68, vI its, .ref m25, .ref m26, vJ lt0]), (m14, aI ca 200 t), (m19, aI ca 6 rd1_160), (m21, aI ca 6 rN), (m22, aI ca 6 rW)] := hD.sub [2, 3, 4, 0, 1] (by decide) rfl
              refine ri_if_eq (tgt := 188) hx hb dX8_takesItem_163 (by decide) ⟨by omega, by omega⟩ (fun c163 => ?_) (fun c163 => ?_)
              · skip
                refine lv_iconst (v := Int32.ofInt 0) hx hb dX8_takesItem_188 rfl ?_
                refine zr_Z hx hb hr hlk hQ (at1_160, sa1_160, vv1_160, rdu, z68, rd1_160, rN, rW) hP hD hS dX8_takesItem_189 (Nat.le_of_ble_eq_true rfl) (Nat.le_of_ble_eq_true rfl) (Or.inl rfl) ?_
                show (at0 ≤ at1_160 ∧ at1_160 ≤ n) ∧ ((0 = 1 ∧ itc t n at0 sr sl st0 rdu = (0, skp t n at1_160) ∧ rd1_160 = itr t n at0 sr sl st0 rd ∧ rdu = itu t n at0 rdu ∧ rN = itn t n at0 rdu rN ∧ rW = itw t n at0 rdu rW ∧ z68 = fl t n at0 114 sr + 2 * fl t n at0 108 sl + 4 * fl t n at0 116 st0) ∨ (0 = 0 ∧ itc t n at0 sr sl st0 rdu = (1, sa1_160)))
                refine ⟨by omega, ?_⟩
                rw [itc_l hat.2 (by omega)]
                have hsl : sl = 0 := by omega
                rw [if_pos hsl]
                have hit := it_l (n := n) (sr := sr) (sl := sl) (st := st0) (du := rdu) (rd := rd) (dn := rN) (dw := rW) hat.2 (show t at0 = 108 by omega) hsl
                rw [e78] at q160_0 q160_2
                rcases q160_2 with a9 | a9
                · first
                  | (exfalso; omega)
                  | (rw [pn_ok a9.2.1, a9.2.2.2]
                     rw [pn_ok a9.2.1, a9.2.2.2] at hit
                     rw [e175, hr178, e78] at q178_2
                     rcases q178_2 with b9 | b9
                     · first
                       | (exfalso; omega)
                       | (rw [pn_ok b9.2.1, b9.2.2.2]
                          obtain ⟨i1, i2, i3, i4, i5, i6, i7⟩ := hit
                          rw [i1, i2, i3, i4, i5, i6, i7]
                          exact Or.inl ⟨rfl, rfl, by rw [b9.2.2.1, a9.2.2.1], rfl, rfl, rfl, hz67.2.1 (by omega)⟩)
                     · first
                       | (exfalso; omega)
                       | (rw [pn_no b9.2, q178_0]; exact Or.inr ⟨rfl, rfl⟩))
                · first
                  | (exfalso; omega)
                  | (rw [pn_no a9.2, pn_bad, q160_0]; exact Or.inr ⟨rfl, rfl⟩)
              · skip
                refine lv_aload_n hx hb dX8_takesItem_166 rfl (lv_at hl 2 rfl) ?_
                refine lv_iconst (v := Int32.ofInt 4) hx hb dX8_takesItem_167 rfl ?_
                refine lv_aload_n hx hb dX8_takesItem_168 rfl (lv_at hl 2 rfl) ?_
                refine va_get (D := g) (ci := 8) (v := .ref m19) (C := RX8) (T := TX8) (N := 28) hx hb hts inF_X8 hown hK.1 hP 0 rfl rfl 19 (by decide) lk_f36 (fun _ h9 => h9) rfl dX8_takesItem_169 ?_
                refine lv_iconst (v := Int32.ofInt 3) hx hb dX8_takesItem_172 rfl ?_
                refine ra_ild hx hb hK hP 2 rfl dX8_takesItem_173 ⟨by omega, by omega⟩ (by omega) ?_
                refine lv_iconst (v := Int32.ofInt 1) hx hb dX8_takesItem_174 rfl ?_
                have hv178 := vl_bd t n (skp t n z78)
                have hr178 : rd1_160 3 = vl t n (skp t n z78) := by
                  rcases q160_2 with q9 | q9
                  · rw [q9.2.2.1, zu_s]
                  · omega
                refine ri_add hx hb dX8_takesItem_175 (fun z175 e175 => ?_)
                refine lv_bipush (v := Int32.ofInt 9) hx hb dX8_takesItem_176 (by decide) ?_
                refine zc_VI (As := [vI 4, vI z175, vI 9]) (rest := []) (wc := [(hm, oB 8 [.ref m0, vI un, .ref m2, .ref m3, vI mo, vI oft, vI la, vI du, .ref m8, .ref m9, vI to, .ref m11, .ref m12, vJ tr, .ref m14, vI n, vI at1_160, vI sa1_160, vI vv1_160, .ref m19, vI rdu, .ref m21, .ref m22, vI z68, vI its, .ref m25, .ref m26, vJ lt0]), (m14, aI ca 200 t), (m19, aI ca 6 rd1_160)]) (wr := [(m21, aI ca 6 rN), (m22, aI ca 6 rW)]) (k_X8_takes l g ca hm m0 m2 m3 m8 m9 m11 m12 m14 m19 m21 m22 m25 m26 un mo oft la du to tr n at1_160 sa1_160 vv1_160 rdu z68 its lt0 t rd1_160 4 z175 9 (by first | assumption | omega) (by first | assumption | omega) (by first | assumption | omega) (by first | assumption | omega)) dX8_takesItem_178 (cwV 3 hts gX8_takesItem_X8_takes rfl rfl rfl (by decide +kernel) (by rw [hR]; exact ⟨Nat.le_of_ble_eq_true rfl, Nat.le_of_ble_eq_true rfl⟩)) ⟨hx, hb, hml, hown, hts⟩ hl.1 hK hP hD hS hA 0 rfl rfl rfl [0, 1, 2] [3, 4] rfl (by decide) rfl (by decide) (by decide) rfl rfl (Nat.le_of_ble_eq_true rfl) (by rw [hR]; exact ⟨Nat.le_of_ble_eq_true rfl, Nat.le_of_ble_eq_true rfl⟩) (fun z178 u H locs q178 hP hD hS => ?_)
                obtain ⟨at1_178, sa1_178, vv1_178, rd1_178⟩ := u
                have q178 : sa1_178 = skp t n at1_160 ∧ (at1_160 ≤ at1_178 ∧ at1_178 ≤ n) ∧ ((z178 = 1 ∧ numOK t n (skp t n at1_160) z175 9 ∧ rd1_178 = zu rd1_160 4 (vl t n (skp t n at1_160)) ∧ nx t n (skp t n at1_160) = skp t n at1_178) ∨ (z178 = 0 ∧ ¬ numOK t n (skp t n at1_160) z175 9)) := q178
                obtain ⟨q178_0, q178_1, q178_2⟩ := q178
                have hP : va_P g vwCl [(hm, oB 8 [.ref m0, vI un, .ref m2, .ref m3, vI mo, vI oft, vI la, vI du, .ref m8, .ref m9, vI to, .ref m11, .ref m12, vJ tr, .ref m14, vI n, vI at1_178, vI sa1_178, vI vv1_178, .ref m19, vI rdu, .ref m21, .ref m22, vI z68, vI its, .ref m25, .ref m26, vJ lt0]), (m14, aI ca 200 t), (m19, aI ca 6 rd1_178), (m21, aI ca 6 rN), (m22, aI ca 6 rW)] H := hP.sub [2, 3, 4, 0, 1] rfl
                have hD : va_D A [(hm, oB 8 [.ref m0, vI un, .ref m2, .ref m3, vI mo, vI oft, vI la, vI du, .ref m8, .ref m9, vI to, .ref m11, .ref m12, vJ tr, .ref m14, vI n, vI at1_178, vI sa1_178, vI vv1_178, .ref m19, vI rdu, .ref m21, .ref m22, vI z68, vI its, .ref m25, .ref m26, vJ lt0]), (m14, aI ca 200 t), (m19, aI ca 6 rd1_178), (m21, aI ca 6 rN), (m22, aI ca 6 rW)] := hD.sub [2, 3, 4, 0, 1] (by decide) rfl
                refine ri_if_eq (tgt := 188) hx hb dX8_takesItem_181 (by decide) ⟨by omega, by omega⟩ (fun c181 => ?_) (fun c181 => ?_)
                · skip
                  refine lv_iconst (v := Int32.ofInt 0) hx hb dX8_takesItem_188 rfl ?_
                  refine zr_Z hx hb hr hlk hQ (at1_178, sa1_178, vv1_178, rdu, z68, rd1_178, rN, rW) hP hD hS dX8_takesItem_189 (Nat.le_of_ble_eq_true rfl) (Nat.le_of_ble_eq_true rfl) (Or.inl rfl) ?_
                  show (at0 ≤ at1_178 ∧ at1_178 ≤ n) ∧ ((0 = 1 ∧ itc t n at0 sr sl st0 rdu = (0, skp t n at1_178) ∧ rd1_178 = itr t n at0 sr sl st0 rd ∧ rdu = itu t n at0 rdu ∧ rN = itn t n at0 rdu rN ∧ rW = itw t n at0 rdu rW ∧ z68 = fl t n at0 114 sr + 2 * fl t n at0 108 sl + 4 * fl t n at0 116 st0) ∨ (0 = 0 ∧ itc t n at0 sr sl st0 rdu = (1, sa1_178)))
                  refine ⟨by omega, ?_⟩
                  rw [itc_l hat.2 (by omega)]
                  have hsl : sl = 0 := by omega
                  rw [if_pos hsl]
                  have hit := it_l (n := n) (sr := sr) (sl := sl) (st := st0) (du := rdu) (rd := rd) (dn := rN) (dw := rW) hat.2 (show t at0 = 108 by omega) hsl
                  rw [e78] at q160_0 q160_2
                  rcases q160_2 with a9 | a9
                  · first
                    | (exfalso; omega)
                    | (rw [pn_ok a9.2.1, a9.2.2.2]
                       rw [pn_ok a9.2.1, a9.2.2.2] at hit
                       rw [e175, hr178, e78] at q178_2
                       rcases q178_2 with b9 | b9
                       · first
                         | (exfalso; omega)
                         | (rw [pn_ok b9.2.1, b9.2.2.2]
                            obtain ⟨i1, i2, i3, i4, i5, i6, i7⟩ := hit
                            rw [i1, i2, i3, i4, i5, i6, i7]
                            exact Or.inl ⟨rfl, rfl, by rw [b9.2.2.1, a9.2.2.1], rfl, rfl, rfl, hz67.2.1 (by omega)⟩)
                       · first
                         | (exfalso; omega)
                         | (rw [pn_no b9.2, q178_0]; exact Or.inr ⟨rfl, rfl⟩))
                  · first
                    | (exfalso; omega)
                    | (rw [pn_no a9.2, pn_bad, q160_0]; exact Or.inr ⟨rfl, rfl⟩)
                · skip
                  refine lv_iconst (v := Int32.ofInt 1) hx hb dX8_takesItem_184 rfl ?_
                  refine lv_goto (tgt := 189) hx hb dX8_takesItem_185 (by decide) ?_
                  refine zr_Z hx hb hr hlk hQ (at1_178, sa1_178, vv1_178, rdu, z68, rd1_178, rN, rW) hP hD hS dX8_takesItem_189 (Nat.le_of_ble_eq_true rfl) (Nat.le_of_ble_eq_true rfl) (Or.inr rfl) ?_
                  show (at0 ≤ at1_178 ∧ at1_178 ≤ n) ∧ ((1 = 1 ∧ itc t n at0 sr sl st0 rdu = (0, skp t n at1_178) ∧ rd1_178 = itr t n at0 sr sl st0 rd ∧ rdu = itu t n at0 rdu ∧ rN = itn t n at0 rdu rN ∧ rW = itw t n at0 rdu rW ∧ z68 = fl t n at0 114 sr + 2 * fl t n at0 108 sl + 4 * fl t n at0 116 st0) ∨ (1 = 0 ∧ itc t n at0 sr sl st0 rdu = (1, sa1_178)))
                  refine ⟨by omega, ?_⟩
                  rw [itc_l hat.2 (by omega)]
                  have hsl : sl = 0 := by omega
                  rw [if_pos hsl]
                  have hit := it_l (n := n) (sr := sr) (sl := sl) (st := st0) (du := rdu) (rd := rd) (dn := rN) (dw := rW) hat.2 (show t at0 = 108 by omega) hsl
                  rw [e78] at q160_0 q160_2
                  rcases q160_2 with a9 | a9
                  · first
                    | (exfalso; omega)
                    | (rw [pn_ok a9.2.1, a9.2.2.2]
                       rw [pn_ok a9.2.1, a9.2.2.2] at hit
                       rw [e175, hr178, e78] at q178_2
                       rcases q178_2 with b9 | b9
                       · first
                         | (exfalso; omega)
                         | (rw [pn_ok b9.2.1, b9.2.2.2]
                            obtain ⟨i1, i2, i3, i4, i5, i6, i7⟩ := hit
                            rw [i1, i2, i3, i4, i5, i6, i7]
                            exact Or.inl ⟨rfl, rfl, by rw [b9.2.2.1, a9.2.2.1], rfl, rfl, rfl, hz67.2.1 (by omega)⟩)
                       · first
                         | (exfalso; omega)
                         | (rw [pn_no b9.2, q178_0]; exact Or.inr ⟨rfl, rfl⟩))
                  · first
                    | (exfalso; omega)
                    | (rw [pn_no a9.2, pn_bad, q160_0]; exact Or.inr ⟨rfl, rfl⟩)
            by_cases c83_2 : z5 = 114
            · skip
              refine ri_to c83_2 ?_
              refine lv_lookup (tgt := 116) hx hb dX8_takesItem_83 (by decide) (off := 33) (by rw [xi_to ⟨by omega, by omega⟩]; rfl) (by decide) ?_
              refine lv_aload_n hx hb dX8_takesItem_116 rfl (lv_at hl 2 rfl) ?_
              refine lv_iconst (v := Int32.ofInt 0) hx hb dX8_takesItem_117 rfl ?_
              refine lv_iconst (v := Int32.ofInt 1) hx hb dX8_takesItem_118 rfl ?_
              refine lv_bipush (v := Int32.ofInt 99) hx hb dX8_takesItem_119 (by decide) ?_
              refine zc_VI (As := [vI 0, vI 1, vI 99]) (rest := []) (wc := [(hm, oB 8 [.ref m0, vI un, .ref m2, .ref m3, vI mo, vI oft, vI la, vI du, .ref m8, .ref m9, vI to, .ref m11, .ref m12, vJ tr, .ref m14, vI n, vI z78, vI sa, vI vv, .ref m19, vI rdu, .ref m21, .ref m22, vI z68, vI its, .ref m25, .ref m26, vJ lt0]), (m14, aI ca 200 t), (m19, aI ca 6 rd)]) (wr := [(m21, aI ca 6 rN), (m22, aI ca 6 rW)]) (k_X8_takes l g ca hm m0 m2 m3 m8 m9 m11 m12 m14 m19 m21 m22 m25 m26 un mo oft la du to tr n z78 sa vv rdu z68 its lt0 t rd 0 1 99 (by first | assumption | omega) (by first | assumption | omega) (by first | assumption | omega) (by first | assumption | omega)) dX8_takesItem_121 (cwV 3 hts gX8_takesItem_X8_takes rfl rfl rfl (by decide +kernel) (by rw [hR]; exact ⟨Nat.le_of_ble_eq_true rfl, Nat.le_of_ble_eq_true rfl⟩)) ⟨hx, hb, hml, hown, hts⟩ hl.1 hK hP hD hS hA 0 rfl rfl rfl [0, 1, 2] [3, 4] rfl (by decide) rfl (by decide) (by decide) rfl rfl (Nat.le_of_ble_eq_true rfl) (by rw [hR]; exact ⟨Nat.le_of_ble_eq_true rfl, Nat.le_of_ble_eq_true rfl⟩) (fun z121 u H locs q121 hP hD hS => ?_)
              obtain ⟨at1_121, sa1_121, vv1_121, rd1_121⟩ := u
              have q121 : sa1_121 = skp t n z78 ∧ (z78 ≤ at1_121 ∧ at1_121 ≤ n) ∧ ((z121 = 1 ∧ numOK t n (skp t n z78) 1 99 ∧ rd1_121 = zu rd 0 (vl t n (skp t n z78)) ∧ nx t n (skp t n z78) = skp t n at1_121) ∨ (z121 = 0 ∧ ¬ numOK t n (skp t n z78) 1 99)) := q121
              obtain ⟨q121_0, q121_1, q121_2⟩ := q121
              have hP : va_P g vwCl [(hm, oB 8 [.ref m0, vI un, .ref m2, .ref m3, vI mo, vI oft, vI la, vI du, .ref m8, .ref m9, vI to, .ref m11, .ref m12, vJ tr, .ref m14, vI n, vI at1_121, vI sa1_121, vI vv1_121, .ref m19, vI rdu, .ref m21, .ref m22, vI z68, vI its, .ref m25, .ref m26, vJ lt0]), (m14, aI ca 200 t), (m19, aI ca 6 rd1_121), (m21, aI ca 6 rN), (m22, aI ca 6 rW)] H := hP.sub [2, 3, 4, 0, 1] rfl
              have hD : va_D A [(hm, oB 8 [.ref m0, vI un, .ref m2, .ref m3, vI mo, vI oft, vI la, vI du, .ref m8, .ref m9, vI to, .ref m11, .ref m12, vJ tr, .ref m14, vI n, vI at1_121, vI sa1_121, vI vv1_121, .ref m19, vI rdu, .ref m21, .ref m22, vI z68, vI its, .ref m25, .ref m26, vJ lt0]), (m14, aI ca 200 t), (m19, aI ca 6 rd1_121), (m21, aI ca 6 rN), (m22, aI ca 6 rW)] := hD.sub [2, 3, 4, 0, 1] (by decide) rfl
              refine ri_if_eq (tgt := 153) hx hb dX8_takesItem_124 (by decide) ⟨by omega, by omega⟩ (fun c124 => ?_) (fun c124 => ?_)
              · skip
                refine lv_iconst (v := Int32.ofInt 0) hx hb dX8_takesItem_153 rfl ?_
                refine zr_Z hx hb hr hlk hQ (at1_121, sa1_121, vv1_121, rdu, z68, rd1_121, rN, rW) hP hD hS dX8_takesItem_154 (Nat.le_of_ble_eq_true rfl) (Nat.le_of_ble_eq_true rfl) (Or.inl rfl) ?_
                show (at0 ≤ at1_121 ∧ at1_121 ≤ n) ∧ ((0 = 1 ∧ itc t n at0 sr sl st0 rdu = (0, skp t n at1_121) ∧ rd1_121 = itr t n at0 sr sl st0 rd ∧ rdu = itu t n at0 rdu ∧ rN = itn t n at0 rdu rN ∧ rW = itw t n at0 rdu rW ∧ z68 = fl t n at0 114 sr + 2 * fl t n at0 108 sl + 4 * fl t n at0 116 st0) ∨ (0 = 0 ∧ itc t n at0 sr sl st0 rdu = (1, sa1_121)))
                refine ⟨by omega, ?_⟩
                rw [itc_r hat.2 (by omega)]
                have hsr : sr = 0 := by omega
                rw [if_pos hsr]
                have hit := it_r (n := n) (sr := sr) (sl := sl) (st := st0) (du := rdu) (rd := rd) (dn := rN) (dw := rW) hat.2 (show t at0 = 114 by omega) hsr
                rw [e78] at q121_0 q121_2
                rcases q121_2 with a9 | a9
                · first
                  | (exfalso; omega)
                  | (rw [pn_ok a9.2.1, a9.2.2.2]
                     rw [pn_ok a9.2.1, a9.2.2.2] at hit
                     rcases q132_2 with b9 | b9
                     · first
                       | (exfalso; omega)
                       | (rw [pn_ok b9.2.1, b9.2.2.2]
                          rw [pn_ok b9.2.1, b9.2.2.2] at hit
                          rcases q143_2 with c9 | c9
                          · first
                            | (exfalso; omega)
                            | (rw [pn_ok c9.2.1, c9.2.2.2]
                               obtain ⟨i1, i2, i3, i4, i5, i6, i7⟩ := hit
                               rw [i1, i2, i3, i4, i5, i6, i7]
                               exact Or.inl ⟨rfl, rfl, by rw [c9.2.2.1, b9.2.2.1, a9.2.2.1], rfl, rfl, rfl, hz67.1 (by omega)⟩)
                          · first
                            | (exfalso; omega)
                            | (rw [pn_no c9.2, q143_0]; exact Or.inr ⟨rfl, rfl⟩))
                     · first
                       | (exfalso; omega)
                       | (rw [pn_no b9.2, pn_bad, q132_0]; exact Or.inr ⟨rfl, rfl⟩))
                · first
                  | (exfalso; omega)
                  | (rw [pn_no a9.2, pn_bad, pn_bad, q121_0]; exact Or.inr ⟨rfl, rfl⟩)
              · skip
                refine lv_aload_n hx hb dX8_takesItem_127 rfl (lv_at hl 2 rfl) ?_
                refine lv_iconst (v := Int32.ofInt 1) hx hb dX8_takesItem_128 rfl ?_
                refine lv_iconst (v := Int32.ofInt 1) hx hb dX8_takesItem_129 rfl ?_
                refine lv_bipush (v := Int32.ofInt 9) hx hb dX8_takesItem_130 (by decide) ?_
                refine zc_VI (As := [vI 1, vI 1, vI 9]) (rest := []) (wc := [(hm, oB 8 [.ref m0, vI un, .ref m2, .ref m3, vI mo, vI oft, vI la, vI du, .ref m8, .ref m9, vI to, .ref m11, .ref m12, vJ tr, .ref m14, vI n, vI at1_121, vI sa1_121, vI vv1_121, .ref m19, vI rdu, .ref m21, .ref m22, vI z68, vI its, .ref m25, .ref m26, vJ lt0]), (m14, aI ca 200 t), (m19, aI ca 6 rd1_121)]) (wr := [(m21, aI ca 6 rN), (m22, aI ca 6 rW)]) (k_X8_takes l g ca hm m0 m2 m3 m8 m9 m11 m12 m14 m19 m21 m22 m25 m26 un mo oft la du to tr n at1_121 sa1_121 vv1_121 rdu z68 its lt0 t rd1_121 1 1 9 (by first | assumption | omega) (by first | assumption | omega) (by first | assumption | omega) (by first | assumption | omega)) dX8_takesItem_132 (cwV 3 hts gX8_takesItem_X8_takes rfl rfl rfl (by decide +kernel) (by rw [hR]; exact ⟨Nat.le_of_ble_eq_true rfl, Nat.le_of_ble_eq_true rfl⟩)) ⟨hx, hb, hml, hown, hts⟩ hl.1 hK hP hD hS hA 0 rfl rfl rfl [0, 1, 2] [3, 4] rfl (by decide) rfl (by decide) (by decide) rfl rfl (Nat.le_of_ble_eq_true rfl) (by rw [hR]; exact ⟨Nat.le_of_ble_eq_true rfl, Nat.le_of_ble_eq_true rfl⟩) (fun z132 u H locs q132 hP hD hS => ?_)
                obtain ⟨at1_132, sa1_132, vv1_132, rd1_132⟩ := u
                have q132 : sa1_132 = skp t n at1_121 ∧ (at1_121 ≤ at1_132 ∧ at1_132 ≤ n) ∧ ((z132 = 1 ∧ numOK t n (skp t n at1_121) 1 9 ∧ rd1_132 = zu rd1_121 1 (vl t n (skp t n at1_121)) ∧ nx t n (skp t n at1_121) = skp t n at1_132) ∨ (z132 = 0 ∧ ¬ numOK t n (skp t n at1_121) 1 9)) := q132
                obtain ⟨q132_0, q132_1, q132_2⟩ := q132
                have hP : va_P g vwCl [(hm, oB 8 [.ref m0, vI un, .ref m2, .ref m3, vI mo, vI oft, vI la, vI du, .ref m8, .ref m9, vI to, .ref m11, .ref m12, vJ tr, .ref m14, vI n, vI at1_132, vI sa1_132, vI vv1_132, .ref m19, vI rdu, .ref m21, .ref m22, vI z68, vI its, .ref m25, .ref m26, vJ lt0]), (m14, aI ca 200 t), (m19, aI ca 6 rd1_132), (m21, aI ca 6 rN), (m22, aI ca 6 rW)] H := hP.sub [2, 3, 4, 0, 1] rfl
                have hD : va_D A [(hm, oB 8 [.ref m0, vI un, .ref m2, .ref m3, vI mo, vI oft, vI la, vI du, .ref m8, .ref m9, vI to, .ref m11, .ref m12, vJ tr, .ref m14, vI n, vI at1_132, vI sa1_132, vI vv1_132, .ref m19, vI rdu, .ref m21, .ref m22, vI z68, vI its, .ref m25, .ref m26, vJ lt0]), (m14, aI ca 200 t), (m19, aI ca 6 rd1_132), (m21, aI ca 6 rN), (m22, aI ca 6 rW)] := hD.sub [2, 3, 4, 0, 1] (by decide) rfl
                refine ri_if_eq (tgt := 153) hx hb dX8_takesItem_135 (by decide) ⟨by omega, by omega⟩ (fun c135 => ?_) (fun c135 => ?_)
                · skip
                  refine lv_iconst (v := Int32.ofInt 0) hx hb dX8_takesItem_153 rfl ?_
                  refine zr_Z hx hb hr hlk hQ (at1_132, sa1_132, vv1_132, rdu, z68, rd1_132, rN, rW) hP hD hS dX8_takesItem_154 (Nat.le_of_ble_eq_true rfl) (Nat.le_of_ble_eq_true rfl) (Or.inl rfl) ?_
                  show (at0 ≤ at1_132 ∧ at1_132 ≤ n) ∧ ((0 = 1 ∧ itc t n at0 sr sl st0 rdu = (0, skp t n at1_132) ∧ rd1_132 = itr t n at0 sr sl st0 rd ∧ rdu = itu t n at0 rdu ∧ rN = itn t n at0 rdu rN ∧ rW = itw t n at0 rdu rW ∧ z68 = fl t n at0 114 sr + 2 * fl t n at0 108 sl + 4 * fl t n at0 116 st0) ∨ (0 = 0 ∧ itc t n at0 sr sl st0 rdu = (1, sa1_132)))
                  refine ⟨by omega, ?_⟩
                  rw [itc_r hat.2 (by omega)]
                  have hsr : sr = 0 := by omega
                  rw [if_pos hsr]
                  have hit := it_r (n := n) (sr := sr) (sl := sl) (st := st0) (du := rdu) (rd := rd) (dn := rN) (dw := rW) hat.2 (show t at0 = 114 by omega) hsr
                  rw [e78] at q121_0 q121_2
                  rcases q121_2 with a9 | a9
                  · first
                    | (exfalso; omega)
                    | (rw [pn_ok a9.2.1, a9.2.2.2]
                       rw [pn_ok a9.2.1, a9.2.2.2] at hit
                       rcases q132_2 with b9 | b9
                       · first
                         | (exfalso; omega)
                         | (rw [pn_ok b9.2.1, b9.2.2.2]
                            rw [pn_ok b9.2.1, b9.2.2.2] at hit
                            rcases q143_2 with c9 | c9
                            · first
                              | (exfalso; omega)
                              | (rw [pn_ok c9.2.1, c9.2.2.2]
                                 obtain ⟨i1, i2, i3, i4, i5, i6, i7⟩ := hit
                                 rw [i1, i2, i3, i4, i5, i6, i7]
                                 exact Or.inl ⟨rfl, rfl, by rw [c9.2.2.1, b9.2.2.1, a9.2.2.1], rfl, rfl, rfl, hz67.1 (by omega)⟩)
                            · first
                              | (exfalso; omega)
                              | (rw [pn_no c9.2, q143_0]; exact Or.inr ⟨rfl, rfl⟩))
                       · first
                         | (exfalso; omega)
                         | (rw [pn_no b9.2, pn_bad, q132_0]; exact Or.inr ⟨rfl, rfl⟩))
                  · first
                    | (exfalso; omega)
                    | (rw [pn_no a9.2, pn_bad, pn_bad, q121_0]; exact Or.inr ⟨rfl, rfl⟩)
                · skip
                  refine lv_aload_n hx hb dX8_takesItem_138 rfl (lv_at hl 2 rfl) ?_
                  refine lv_iconst (v := Int32.ofInt 2) hx hb dX8_takesItem_139 rfl ?_
                  refine lv_iconst (v := Int32.ofInt 1) hx hb dX8_takesItem_140 rfl ?_
                  refine lv_bipush (v := Int32.ofInt 20) hx hb dX8_takesItem_141 (by decide) ?_
                  refine zc_VI (As := [vI 2, vI 1, vI 20]) (rest := []) (wc := [(hm, oB 8 [.ref m0, vI un, .ref m2, .ref m3, vI mo, vI oft, vI la, vI du, .ref m8, .ref m9, vI to, .ref m11, .ref m12, vJ tr, .ref m14, vI n, vI at1_132, vI sa1_132, vI vv1_132, .ref m19, vI rdu, .ref m21, .ref m22, vI z68, vI its, .ref m25, .ref m26, vJ lt0]), (m14, aI ca 200 t), (m19, aI ca 6 rd1_132)]) (wr := [(m21, aI ca 6 rN), (m22, aI ca 6 rW)]) (k_X8_takes l g ca hm m0 m2 m3 m8 m9 m11 m12 m14 m19 m21 m22 m25 m26 un mo oft la du to tr n at1_132 sa1_132 vv1_132 rdu z68 its lt0 t rd1_132 2 1 20 (by first | assumption | omega) (by first | assumption | omega) (by first | assumption | omega) (by first | assumption | omega)) dX8_takesItem_143 (cwV 3 hts gX8_takesItem_X8_takes rfl rfl rfl (by decide +kernel) (by rw [hR]; exact ⟨Nat.le_of_ble_eq_true rfl, Nat.le_of_ble_eq_true rfl⟩)) ⟨hx, hb, hml, hown, hts⟩ hl.1 hK hP hD hS hA 0 rfl rfl rfl [0, 1, 2] [3, 4] rfl (by decide) rfl (by decide) (by decide) rfl rfl (Nat.le_of_ble_eq_true rfl) (by rw [hR]; exact ⟨Nat.le_of_ble_eq_true rfl, Nat.le_of_ble_eq_true rfl⟩) (fun z143 u H locs q143 hP hD hS => ?_)
                  obtain ⟨at1_143, sa1_143, vv1_143, rd1_143⟩ := u
                  have q143 : sa1_143 = skp t n at1_132 ∧ (at1_132 ≤ at1_143 ∧ at1_143 ≤ n) ∧ ((z143 = 1 ∧ numOK t n (skp t n at1_132) 1 20 ∧ rd1_143 = zu rd1_132 2 (vl t n (skp t n at1_132)) ∧ nx t n (skp t n at1_132) = skp t n at1_143) ∨ (z143 = 0 ∧ ¬ numOK t n (skp t n at1_132) 1 20)) := q143
                  obtain ⟨q143_0, q143_1, q143_2⟩ := q143
                  have hP : va_P g vwCl [(hm, oB 8 [.ref m0, vI un, .ref m2, .ref m3, vI mo, vI oft, vI la, vI du, .ref m8, .ref m9, vI to, .ref m11, .ref m12, vJ tr, .ref m14, vI n, vI at1_143, vI sa1_143, vI vv1_143, .ref m19, vI rdu, .ref m21, .ref m22, vI z68, vI its, .ref m25, .ref m26, vJ lt0]), (m14, aI ca 200 t), (m19, aI ca 6 rd1_143), (m21, aI ca 6 rN), (m22, aI ca 6 rW)] H := hP.sub [2, 3, 4, 0, 1] rfl
                  have hD : va_D A [(hm, oB 8 [.ref m0, vI un, .ref m2, .ref m3, vI mo, vI oft, vI la, vI du, .ref m8, .ref m9, vI to, .ref m11, .ref m12, vJ tr, .ref m14, vI n, vI at1_143, vI sa1_143, vI vv1_143, .ref m19, vI rdu, .ref m21, .ref m22, vI z68, vI its, .ref m25, .ref m26, vJ lt0]), (m14, aI ca 200 t), (m19, aI ca 6 rd1_143), (m21, aI ca 6 rN), (m22, aI ca 6 rW)] := hD.sub [2, 3, 4, 0, 1] (by decide) rfl
                  refine ri_if_eq (tgt := 153) hx hb dX8_takesItem_146 (by decide) ⟨by omega, by omega⟩ (fun c146 => ?_) (fun c146 => ?_)
                  · skip
                    refine lv_iconst (v := Int32.ofInt 0) hx hb dX8_takesItem_153 rfl ?_
                    refine zr_Z hx hb hr hlk hQ (at1_143, sa1_143, vv1_143, rdu, z68, rd1_143, rN, rW) hP hD hS dX8_takesItem_154 (Nat.le_of_ble_eq_true rfl) (Nat.le_of_ble_eq_true rfl) (Or.inl rfl) ?_
                    show (at0 ≤ at1_143 ∧ at1_143 ≤ n) ∧ ((0 = 1 ∧ itc t n at0 sr sl st0 rdu = (0, skp t n at1_143) ∧ rd1_143 = itr t n at0 sr sl st0 rd ∧ rdu = itu t n at0 rdu ∧ rN = itn t n at0 rdu rN ∧ rW = itw t n at0 rdu rW ∧ z68 = fl t n at0 114 sr + 2 * fl t n at0 108 sl + 4 * fl t n at0 116 st0) ∨ (0 = 0 ∧ itc t n at0 sr sl st0 rdu = (1, sa1_143)))
                    refine ⟨by omega, ?_⟩
                    rw [itc_r hat.2 (by omega)]
                    have hsr : sr = 0 := by omega
                    rw [if_pos hsr]
                    have hit := it_r (n := n) (sr := sr) (sl := sl) (st := st0) (du := rdu) (rd := rd) (dn := rN) (dw := rW) hat.2 (show t at0 = 114 by omega) hsr
                    rw [e78] at q121_0 q121_2
                    rcases q121_2 with a9 | a9
                    · first
                      | (exfalso; omega)
                      | (rw [pn_ok a9.2.1, a9.2.2.2]
                         rw [pn_ok a9.2.1, a9.2.2.2] at hit
                         rcases q132_2 with b9 | b9
                         · first
                           | (exfalso; omega)
                           | (rw [pn_ok b9.2.1, b9.2.2.2]
                              rw [pn_ok b9.2.1, b9.2.2.2] at hit
                              rcases q143_2 with c9 | c9
                              · first
                                | (exfalso; omega)
                                | (rw [pn_ok c9.2.1, c9.2.2.2]
                                   obtain ⟨i1, i2, i3, i4, i5, i6, i7⟩ := hit
                                   rw [i1, i2, i3, i4, i5, i6, i7]
                                   exact Or.inl ⟨rfl, rfl, by rw [c9.2.2.1, b9.2.2.1, a9.2.2.1], rfl, rfl, rfl, hz67.1 (by omega)⟩)
                              · first
                                | (exfalso; omega)
                                | (rw [pn_no c9.2, q143_0]; exact Or.inr ⟨rfl, rfl⟩))
                         · first
                           | (exfalso; omega)
                           | (rw [pn_no b9.2, pn_bad, q132_0]; exact Or.inr ⟨rfl, rfl⟩))
                    · first
                      | (exfalso; omega)
                      | (rw [pn_no a9.2, pn_bad, pn_bad, q121_0]; exact Or.inr ⟨rfl, rfl⟩)
                  · skip
                    refine lv_iconst (v := Int32.ofInt 1) hx hb dX8_takesItem_149 rfl ?_
                    refine lv_goto (tgt := 154) hx hb dX8_takesItem_150 (by decide) ?_
                    refine zr_Z hx hb hr hlk hQ (at1_143, sa1_143, vv1_143, rdu, z68, rd1_143, rN, rW) hP hD hS dX8_takesItem_154 (Nat.le_of_ble_eq_true rfl) (Nat.le_of_ble_eq_true rfl) (Or.inr rfl) ?_
                    show (at0 ≤ at1_143 ∧ at1_143 ≤ n) ∧ ((1 = 1 ∧ itc t n at0 sr sl st0 rdu = (0, skp t n at1_143) ∧ rd1_143 = itr t n at0 sr sl st0 rd ∧ rdu = itu t n at0 rdu ∧ rN = itn t n at0 rdu rN ∧ rW = itw t n at0 rdu rW ∧ z68 = fl t n at0 114 sr + 2 * fl t n at0 108 sl + 4 * fl t n at0 116 st0) ∨ (1 = 0 ∧ itc t n at0 sr sl st0 rdu = (1, sa1_143)))
                    refine ⟨by omega, ?_⟩
                    rw [itc_r hat.2 (by omega)]
                    have hsr : sr = 0 := by omega
                    rw [if_pos hsr]
                    have hit := it_r (n := n) (sr := sr) (sl := sl) (st := st0) (du := rdu) (rd := rd) (dn := rN) (dw := rW) hat.2 (show t at0 = 114 by omega) hsr
                    rw [e78] at q121_0 q121_2
                    rcases q121_2 with a9 | a9
                    · first
                      | (exfalso; omega)
                      | (rw [pn_ok a9.2.1, a9.2.2.2]
                         rw [pn_ok a9.2.1, a9.2.2.2] at hit
                         rcases q132_2 with b9 | b9
                         · first
                           | (exfalso; omega)
                           | (rw [pn_ok b9.2.1, b9.2.2.2]
                              rw [pn_ok b9.2.1, b9.2.2.2] at hit
                              rcases q143_2 with c9 | c9
                              · first
                                | (exfalso; omega)
                                | (rw [pn_ok c9.2.1, c9.2.2.2]
                                   obtain ⟨i1, i2, i3, i4, i5, i6, i7⟩ := hit
                                   rw [i1, i2, i3, i4, i5, i6, i7]
                                   exact Or.inl ⟨rfl, rfl, by rw [c9.2.2.1, b9.2.2.1, a9.2.2.1], rfl, rfl, rfl, hz67.1 (by omega)⟩)
                              · first
                                | (exfalso; omega)
                                | (rw [pn_no c9.2, q143_0]; exact Or.inr ⟨rfl, rfl⟩))
                         · first
                           | (exfalso; omega)
                           | (rw [pn_no b9.2, pn_bad, q132_0]; exact Or.inr ⟨rfl, rfl⟩))
                    · first
                      | (exfalso; omega)
                      | (rw [pn_no a9.2, pn_bad, pn_bad, q121_0]; exact Or.inr ⟨rfl, rfl⟩)
            by_cases c83_3 : z5 = 116
            · skip
              refine ri_to c83_3 ?_
              refine lv_lookup (tgt := 190) hx hb dX8_takesItem_83 (by decide) (off := 107) (by rw [xi_to ⟨by omega, by omega⟩]; rfl) (by decide) ?_
              refine lv_aload_n hx hb dX8_takesItem_190 rfl (lv_at hl 2 rfl) ?_
              refine lv_iconst (v := Int32.ofInt 5) hx hb dX8_takesItem_191 rfl ?_
              refine lv_iconst (v := Int32.ofInt 0) hx hb dX8_takesItem_192 rfl ?_
              refine lv_bipush (v := Int32.ofInt 9) hx hb dX8_takesItem_193 (by decide) ?_
              refine zc_VI (As := [vI 5, vI 0, vI 9]) (rest := []) (wc := [(hm, oB 8 [.ref m0, vI un, .ref m2, .ref m3, vI mo, vI oft, vI la, vI du, .ref m8, .ref m9, vI to, .ref m11, .ref m12, vJ tr, .ref m14, vI n, vI z78, vI sa, vI vv, .ref m19, vI rdu, .ref m21, .ref m22, vI z68, vI its, .ref m25, .ref m26, vJ lt0]), (m14, aI ca 200 t), (m19, aI ca 6 rd)]) (wr := [(m21, aI ca 6 rN), (m22, aI ca 6 rW)]) (k_X8_takes l g ca hm m0 m2 m3 m8 m9 m11 m12 m14 m19 m21 m22 m25 m26 un mo oft la du to tr n z78 sa vv rdu z68 its lt0 t rd 5 0 9 (by first | assumption | omega) (by first | assumption | omega) (by first | assumption | omega) (by first | assumption | omega)) dX8_takesItem_195 (cwV 3 hts gX8_takesItem_X8_takes rfl rfl rfl (by decide +kernel) (by rw [hR]; exact ⟨Nat.le_of_ble_eq_true rfl, Nat.le_of_ble_eq_true rfl⟩)) ⟨hx, hb, hml, hown, hts⟩ hl.1 hK hP hD hS hA 0 rfl rfl rfl [0, 1, 2] [3, 4] rfl (by decide) rfl (by decide) (by decide) rfl rfl (Nat.le_of_ble_eq_true rfl) (by rw [hR]; exact ⟨Nat.le_of_ble_eq_true rfl, Nat.le_of_ble_eq_true rfl⟩) (fun z195 u H locs q195 hP hD hS => ?_)
              obtain ⟨at1_195, sa1_195, vv1_195, rd1_195⟩ := u
              have q195 : sa1_195 = skp t n z78 ∧ (z78 ≤ at1_195 ∧ at1_195 ≤ n) ∧ ((z195 = 1 ∧ numOK t n (skp t n z78) 0 9 ∧ rd1_195 = zu rd 5 (vl t n (skp t n z78)) ∧ nx t n (skp t n z78) = skp t n at1_195) ∨ (z195 = 0 ∧ ¬ numOK t n (skp t n z78) 0 9)) := q195
              obtain ⟨q195_0, q195_1, q195_2⟩ := q195
              have hP : va_P g vwCl [(hm, oB 8 [.ref m0, vI un, .ref m2, .ref m3, vI mo, vI oft, vI la, vI du, .ref m8, .ref m9, vI to, .ref m11, .ref m12, vJ tr, .ref m14, vI n, vI at1_195, vI sa1_195, vI vv1_195, .ref m19, vI rdu, .ref m21, .ref m22, vI z68, vI its, .ref m25, .ref m26, vJ lt0]), (m14, aI ca 200 t), (m19, aI ca 6 rd1_195), (m21, aI ca 6 rN), (m22, aI ca 6 rW)] H := hP.sub [2, 3, 4, 0, 1] rfl
              have hD : va_D A [(hm, oB 8 [.ref m0, vI un, .ref m2, .ref m3, vI mo, vI oft, vI la, vI du, .ref m8, .ref m9, vI to, .ref m11, .ref m12, vJ tr, .ref m14, vI n, vI at1_195, vI sa1_195, vI vv1_195, .ref m19, vI rdu, .ref m21, .ref m22, vI z68, vI its, .ref m25, .ref m26, vJ lt0]), (m14, aI ca 200 t), (m19, aI ca 6 rd1_195), (m21, aI ca 6 rN), (m22, aI ca 6 rW)] := hD.sub [2, 3, 4, 0, 1] (by decide) rfl
              refine zr_Z hx hb hr hlk hQ (at1_195, sa1_195, vv1_195, rdu, z68, rd1_195, rN, rW) hP hD hS dX8_takesItem_198 (Nat.le_of_ble_eq_true rfl) (Nat.le_of_ble_eq_true rfl) (show z195 = 0 ∨ z195 = 1 from by omega) ?_
              show (at0 ≤ at1_195 ∧ at1_195 ≤ n) ∧ ((z195 = 1 ∧ itc t n at0 sr sl st0 rdu = (0, skp t n at1_195) ∧ rd1_195 = itr t n at0 sr sl st0 rd ∧ rdu = itu t n at0 rdu ∧ rN = itn t n at0 rdu rN ∧ rW = itw t n at0 rdu rW ∧ z68 = fl t n at0 114 sr + 2 * fl t n at0 108 sl + 4 * fl t n at0 116 st0) ∨ (z195 = 0 ∧ itc t n at0 sr sl st0 rdu = (1, sa1_195)))
              refine ⟨by omega, ?_⟩
              rw [itc_t hat.2 (by omega)]
              have hst0 : st0 = 0 := by omega
              rw [if_pos hst0]
              have hit := it_t (n := n) (sr := sr) (sl := sl) (st := st0) (du := rdu) (rd := rd) (dn := rN) (dw := rW) hat.2 (show t at0 = 116 by omega) hst0
              rw [e78] at q195_0 q195_2
              rcases q195_2 with a9 | a9
              · rw [pn_ok a9.2.1, a9.2.2.2]
                obtain ⟨i1, i2, i3, i4, i5, i6, i7⟩ := hit
                rw [i1, i2, i3, i4, i5, i6, i7]
                exact Or.inl ⟨a9.1, rfl, a9.2.2.1, rfl, rfl, rfl, hz67.2.2.1 (by omega)⟩
              · rw [pn_no a9.2, q195_0]
                exact Or.inr ⟨a9.1, rfl⟩
            refine lv_lookup (tgt := 199) hx hb dX8_takesItem_83 (by decide) (off := 116) (zlk_3 (by rw [xi_to ⟨by omega, by omega⟩]; omega) (by rw [xi_to ⟨by omega, by omega⟩]; omega) (by rw [xi_to ⟨by omega, by omega⟩]; omega)) (by decide) ?_
            refine lv_aload_n hx hb dX8_takesItem_199 rfl (lv_at hl 2 rfl) ?_
            refine zc_VI (As := []) (rest := []) (wc := [(hm, oB 8 [.ref m0, vI un, .ref m2, .ref m3, vI mo, vI oft, vI la, vI du, .ref m8, .ref m9, vI to, .ref m11, .ref m12, vJ tr, .ref m14, vI n, vI z78, vI sa, vI vv, .ref m19, vI rdu, .ref m21, .ref m22, vI z68, vI its, .ref m25, .ref m26, vJ lt0]), (m14, aI ca 200 t), (m21, aI ca 6 rN), (m22, aI ca 6 rW)]) (wr := [(m19, aI ca 6 rd)]) (k_X8_takesDue l g ca hm m0 m2 m3 m8 m9 m11 m12 m14 m19 m21 m22 m25 m26 un mo oft la du to tr n z78 sa vv rdu z68 its lt0 t rN rW (by first | assumption | omega) (by first | assumption | omega) (by first | assumption | omega)) dX8_takesItem_200 (cwV 0 hts gX8_takesItem_X8_takesDue rfl rfl rfl (by decide +kernel) (by rw [hR]; exact ⟨Nat.le_of_ble_eq_true rfl, Nat.le_of_ble_eq_true rfl⟩)) ⟨hx, hb, hml, hown, hts⟩ hl.1 hK hP hD hS hA 0 rfl rfl rfl [0, 1, 3, 4] [2] rfl (by decide) rfl (by decide) (by decide) rfl rfl (Nat.le_of_ble_eq_true rfl) (by rw [hR]; exact ⟨Nat.le_of_ble_eq_true rfl, Nat.le_of_ble_eq_true rfl⟩) (fun z200 u H locs q200 hP hD hS => ?_)
            obtain ⟨at1_200, sa1_200, vv1_200, rdu1_200, rN1_200, rW1_200⟩ := u
            have q200 : (z78 ≤ at1_200 ∧ at1_200 ≤ n) ∧ ((z200 = 1 ∧ rdu < 6 ∧ numOK t n (skp t n z78) 1 120 ∧ numOK t n (nx t n (skp t n z78)) 1 200 ∧ nx t n (nx t n (skp t n z78)) = skp t n at1_200 ∧ rdu1_200 = rdu + 1 ∧ rN1_200 = zu rN rdu (vl t n (skp t n z78)) ∧ rW1_200 = zu rW rdu (vl t n (nx t n (skp t n z78)))) ∨ (z200 = 0 ∧ ((rdu = 6 ∧ sa1_200 = sa) ∨ (rdu < 6 ∧ ¬ numOK t n (skp t n z78) 1 120 ∧ sa1_200 = skp t n z78) ∨ (rdu < 6 ∧ numOK t n (skp t n z78) 1 120 ∧ ¬ numOK t n (nx t n (skp t n z78)) 1 200 ∧ sa1_200 = nx t n (skp t n z78))))) := q200
            obtain ⟨q200_0, q200_1⟩ := q200
            have hP : va_P g vwCl [(hm, oB 8 [.ref m0, vI un, .ref m2, .ref m3, vI mo, vI oft, vI la, vI du, .ref m8, .ref m9, vI to, .ref m11, .ref m12, vJ tr, .ref m14, vI n, vI at1_200, vI sa1_200, vI vv1_200, .ref m19, vI rdu1_200, .ref m21, .ref m22, vI z68, vI its, .ref m25, .ref m26, vJ lt0]), (m14, aI ca 200 t), (m19, aI ca 6 rd), (m21, aI ca 6 rN1_200), (m22, aI ca 6 rW1_200)] H := hP.sub [1, 2, 0, 3, 4] rfl
            have hD : va_D A [(hm, oB 8 [.ref m0, vI un, .ref m2, .ref m3, vI mo, vI oft, vI la, vI du, .ref m8, .ref m9, vI to, .ref m11, .ref m12, vJ tr, .ref m14, vI n, vI at1_200, vI sa1_200, vI vv1_200, .ref m19, vI rdu1_200, .ref m21, .ref m22, vI z68, vI its, .ref m25, .ref m26, vJ lt0]), (m14, aI ca 200 t), (m19, aI ca 6 rd), (m21, aI ca 6 rN1_200), (m22, aI ca 6 rW1_200)] := hD.sub [1, 2, 0, 3, 4] (by decide) rfl
            refine zr_Z hx hb hr hlk hQ (at1_200, sa1_200, vv1_200, rdu1_200, z68, rd, rN1_200, rW1_200) hP hD hS dX8_takesItem_203 (Nat.le_of_ble_eq_true rfl) (Nat.le_of_ble_eq_true rfl) (show z200 = 0 ∨ z200 = 1 from by omega) ?_
            show (at0 ≤ at1_200 ∧ at1_200 ≤ n) ∧ ((z200 = 1 ∧ itc t n at0 sr sl st0 rdu = (0, skp t n at1_200) ∧ rd = itr t n at0 sr sl st0 rd ∧ rdu1_200 = itu t n at0 rdu ∧ rN1_200 = itn t n at0 rdu rN ∧ rW1_200 = itw t n at0 rdu rW ∧ z68 = fl t n at0 114 sr + 2 * fl t n at0 108 sl + 4 * fl t n at0 116 st0) ∨ (z200 = 0 ∧ itc t n at0 sr sl st0 rdu = (1, sa1_200)))
            refine ⟨by omega, ?_⟩
            rw [itc_p hat.2 (by omega)]
            rw [e78] at q200_1
            rcases q200_1 with a9 | a9
            · have hit := it_p (n := n) (sr := sr) (sl := sl) (st := st0) (du := rdu) (rd := rd) (dn := rN) (dw := rW) hat.2 (show t at0 = 112 by omega) a9.2.1
              obtain ⟨g1, g2, g3, g4, g5, g6, g7, g8⟩ := a9
              rw [if_pos g2, pn_ok g3, pn_ok g4, g5]
              rw [pn_ok g3] at hit
              obtain ⟨i1, i2, i3, i4, i5, i6, i7⟩ := hit
              rw [i1, i2, i3, i4, i5, i6, i7]
              exact Or.inl ⟨g1, rfl, rfl, g6, g7, g8, hz67.2.2.2 (by omega)⟩
            · obtain ⟨g1, g2⟩ := a9
              rcases g2 with g2 | g2 | g2
              · rw [if_neg (by omega), g2.2, hsa]; exact Or.inr ⟨g1, rfl⟩
              · rw [if_pos g2.1, pn_no g2.2.1, pn_bad, g2.2.2]; exact Or.inr ⟨g1, rfl⟩
              · rw [if_pos g2.1, pn_ok g2.2.1, pn_no g2.2.2.1, g2.2.2.2]; exact Or.inr ⟨g1, rfl⟩
          · skip
            refine lv_iconst (v := Int32.ofInt 0) hx hb dX8_takesItem_60 rfl ?_
            refine zr_Z hx hb hr hlk hQ (at0, sa, vv, rdu, se, rd, rN, rW) hP hD hS dX8_takesItem_61 (Nat.le_of_ble_eq_true rfl) (Nat.le_of_ble_eq_true rfl) (Or.inl rfl) ?_
            show (at0 ≤ at0 ∧ at0 ≤ n) ∧ ((0 = 1 ∧ itc t n at0 sr sl st0 rdu = (0, skp t n at0) ∧ rd = itr t n at0 sr sl st0 rd ∧ rdu = itu t n at0 rdu ∧ rN = itn t n at0 rdu rN ∧ rW = itw t n at0 rdu rW ∧ se = fl t n at0 114 sr + 2 * fl t n at0 108 sl + 4 * fl t n at0 116 st0) ∨ (0 = 0 ∧ itc t n at0 sr sl st0 rdu = (1, sa)))
            refine ⟨by omega, Or.inr ⟨rfl, ?_⟩⟩
            rw [hsa]
            by_cases h1 : t at0 = 114
            · rw [itc_r hat.2 h1, if_neg (by omega)]
            · by_cases h2 : t at0 = 108
              · rw [itc_l hat.2 h2, if_neg (by omega)]
              · by_cases h3 : t at0 = 116
                · rw [itc_t hat.2 h3, if_neg (by omega)]
                · exact itc_x hat.2 (by omega)
        · exact absurd c42_ (by decide)
    · skip
      refine lv_iconst (v := Int32.ofInt 2) hx hb dX8_takesItem_25 rfl ?_
      refine lv_goto (tgt := 40) hx hb dX8_takesItem_26 (by decide) ?_
      refine lv_istore_n (lv' := [(2, vI 2), (1, vI z5), (0, .ref hm)]) hx hb dX8_takesItem_40 rfl hl (by decide) rfl (fun ls hl => ?_)
      refine lv_iload_n hx hb dX8_takesItem_41 rfl (lv_at hl 0 rfl) ?_
      refine ri_if_ne (tgt := 51) hx hb dX8_takesItem_42 (by decide) ⟨by omega, by omega⟩ (fun c42_ => ?_) (fun c42_ => ?_)
      · skip
        refine lv_aload_n hx hb dX8_takesItem_51 rfl (lv_at hl 2 rfl) ?_
        refine va_get (D := g) (ci := 8) (v := vI se) (C := RX8) (T := TX8) (N := 28) hx hb hts inF_X8 hown hK.1 hP 0 rfl rfl 23 (by decide) lk_f61 (fun _ h9 => h9) rfl dX8_takesItem_52 ?_
        refine lv_iload_n hx hb dX8_takesItem_55 rfl (lv_at hl 0 rfl) ?_
        refine ri_and hx hb dX8_takesItem_56 ⟨by omega, by omega⟩ (by omega) (fun z56 e56 => ?_)
        have hz56 : (t at0 = 114 → z56 = sr) ∧ (t at0 = 108 → z56 = 2 * sl) ∧ (t at0 = 116 → z56 = 4 * st0) ∧ (t at0 = 112 → z56 = 0) := by
          refine ⟨fun q => ?_, fun q => ?_, fun q => ?_, fun q => ?_⟩
          · first | (exfalso; omega) | (rw [e56]; exact hand.1)
          · first | (exfalso; omega) | (rw [e56]; exact hand.2.1)
          · first | (exfalso; omega) | (rw [e56]; exact hand.2.2.1)
          · first | (exfalso; omega) | (rw [e56]; exact hand.2.2.2)
        refine ri_if_eq (tgt := 62) hx hb dX8_takesItem_57 (by decide) ⟨by omega, by omega⟩ (fun c57 => ?_) (fun c57 => ?_)
        · skip
          refine lv_aload_n hx hb dX8_takesItem_62 rfl (lv_at hl 2 rfl) ?_
          refine lv_dup hx hb dX8_takesItem_63 rfl ?_
          refine va_get (D := g) (ci := 8) (v := vI se) (C := RX8) (T := TX8) (N := 28) hx hb hts inF_X8 hown hK.1 hP 0 rfl rfl 23 (by decide) lk_f61 (fun _ h9 => h9) rfl dX8_takesItem_64 ?_
          refine lv_iload_n hx hb dX8_takesItem_67 rfl (lv_at hl 0 rfl) ?_
          refine ri_or hx hb dX8_takesItem_68 ⟨by omega, by omega⟩ (by omega) (fun z68 e68 => ?_)
          refine va_put (D := g) (ci := 8) (v := vI z68) (ty := .int) (C := RX8) (T := TX8) (N := 28) hx hb hts inF_X8 tyX8 tyX8_ok nmX8 hown hK.1 hP hD hS 0 rfl rfl 23 (by decide) lk_f61 (fun _ h9 => h9) rfl (by decide +kernel) rfl rfl (Nat.le_of_ble_eq_true rfl) dX8_takesItem_69 (fun H locs hP hD hS => ?_)
          have hP : va_P g vwCl [(hm, oB 8 [.ref m0, vI un, .ref m2, .ref m3, vI mo, vI oft, vI la, vI du, .ref m8, .ref m9, vI to, .ref m11, .ref m12, vJ tr, .ref m14, vI n, vI at0, vI sa, vI vv, .ref m19, vI rdu, .ref m21, .ref m22, vI z68, vI its, .ref m25, .ref m26, vJ lt0]), (m14, aI ca 200 t), (m19, aI ca 6 rd), (m21, aI ca 6 rN), (m22, aI ca 6 rW)] H := hP
          have hD : va_D A [(hm, oB 8 [.ref m0, vI un, .ref m2, .ref m3, vI mo, vI oft, vI la, vI du, .ref m8, .ref m9, vI to, .ref m11, .ref m12, vJ tr, .ref m14, vI n, vI at0, vI sa, vI vv, .ref m19, vI rdu, .ref m21, .ref m22, vI z68, vI its, .ref m25, .ref m26, vJ lt0]), (m14, aI ca 200 t), (m19, aI ca 6 rd), (m21, aI ca 6 rN), (m22, aI ca 6 rW)] := hD
          have hz67 : (t at0 = 114 → z68 = 1 + 2 * sl + 4 * st0) ∧ (t at0 = 108 → z68 = sr + 2 * 1 + 4 * st0) ∧ (t at0 = 116 → z68 = sr + 2 * sl + 4 * 1) ∧ (t at0 = 112 → z68 = sr + 2 * sl + 4 * st0) := by
            refine ⟨fun q => ?_, fun q => ?_, fun q => ?_, fun q => ?_⟩
            · first | (exfalso; omega) | (rw [e68]; exact hor.1)
            · first | (exfalso; omega) | (rw [e68]; exact hor.2.1)
            · first | (exfalso; omega) | (rw [e68]; exact hor.2.2.1)
            · first | (exfalso; omega) | (rw [e68, hor.2.2.2]; exact hse)
          refine lv_aload_n hx hb dX8_takesItem_72 rfl (lv_at hl 2 rfl) ?_
          refine lv_dup hx hb dX8_takesItem_73 rfl ?_
          refine va_get (D := g) (ci := 8) (v := vI at0) (C := RX8) (T := TX8) (N := 28) hx hb hts inF_X8 hown hK.1 hP 0 rfl rfl 16 (by decide) lk_f98 (fun _ h9 => h9) rfl dX8_takesItem_74 ?_
          refine lv_iconst (v := Int32.ofInt 1) hx hb dX8_takesItem_77 rfl ?_
          refine ri_add hx hb dX8_takesItem_78 (fun z78 e78 => ?_)
          refine va_put (D := g) (ci := 8) (v := vI z78) (ty := .int) (C := RX8) (T := TX8) (N := 28) hx hb hts inF_X8 tyX8 tyX8_ok nmX8 hown hK.1 hP hD hS 0 rfl rfl 16 (by decide) lk_f98 (fun _ h9 => h9) rfl (by decide +kernel) rfl rfl (Nat.le_of_ble_eq_true rfl) dX8_takesItem_79 (fun H locs hP hD hS => ?_)
          have hP : va_P g vwCl [(hm, oB 8 [.ref m0, vI un, .ref m2, .ref m3, vI mo, vI oft, vI la, vI du, .ref m8, .ref m9, vI to, .ref m11, .ref m12, vJ tr, .ref m14, vI n, vI z78, vI sa, vI vv, .ref m19, vI rdu, .ref m21, .ref m22, vI z68, vI its, .ref m25, .ref m26, vJ lt0]), (m14, aI ca 200 t), (m19, aI ca 6 rd), (m21, aI ca 6 rN), (m22, aI ca 6 rW)] H := hP
          have hD : va_D A [(hm, oB 8 [.ref m0, vI un, .ref m2, .ref m3, vI mo, vI oft, vI la, vI du, .ref m8, .ref m9, vI to, .ref m11, .ref m12, vJ tr, .ref m14, vI n, vI z78, vI sa, vI vv, .ref m19, vI rdu, .ref m21, .ref m22, vI z68, vI its, .ref m25, .ref m26, vJ lt0]), (m14, aI ca 200 t), (m19, aI ca 6 rd), (m21, aI ca 6 rN), (m22, aI ca 6 rW)] := hD
          refine lv_iload_n hx hb dX8_takesItem_82 rfl (lv_at hl 1 rfl) ?_
          by_cases c83 : z5 = 108
          · skip
            refine ri_to c83 ?_
            refine lv_lookup (tgt := 155) hx hb dX8_takesItem_83 (by decide) (off := 72) (by rw [xi_to ⟨by omega, by omega⟩]; rfl) (by decide) ?_
            refine lv_aload_n hx hb dX8_takesItem_155 rfl (lv_at hl 2 rfl) ?_
            refine lv_iconst (v := Int32.ofInt 3) hx hb dX8_takesItem_156 rfl ?_
            refine lv_iconst (v := Int32.ofInt 1) hx hb dX8_takesItem_157 rfl ?_
            refine lv_bipush (v := Int32.ofInt 8) hx hb dX8_takesItem_158 (by decide) ?_
            refine zc_VI (As := [vI 3, vI 1, vI 8]) (rest := []) (wc := [(hm, oB 8 [.ref m0, vI un, .ref m2, .ref m3, vI mo, vI oft, vI la, vI du, .ref m8, .ref m9, vI to, .ref m11, .ref m12, vJ tr, .ref m14, vI n, vI z78, vI sa, vI vv, .ref m19, vI rdu, .ref m21, .ref m22, vI z68, vI its, .ref m25, .ref m26, vJ lt0]), (m14, aI ca 200 t), (m19, aI ca 6 rd)]) (wr := [(m21, aI ca 6 rN), (m22, aI ca 6 rW)]) (k_X8_takes l g ca hm m0 m2 m3 m8 m9 m11 m12 m14 m19 m21 m22 m25 m26 un mo oft la du to tr n z78 sa vv rdu z68 its lt0 t rd 3 1 8 (by first | assumption | omega) (by first | assumption | omega) (by first | assumption | omega) (by first | assumption | omega)) dX8_takesItem_160 (cwV 3 hts gX8_takesItem_X8_takes rfl rfl rfl (by decide +kernel) (by rw [hR]; exact ⟨Nat.le_of_ble_eq_true rfl, Nat.le_of_ble_eq_true rfl⟩)) ⟨hx, hb, hml, hown, hts⟩ hl.1 hK hP hD hS hA 0 rfl rfl rfl [0, 1, 2] [3, 4] rfl (by decide) rfl (by decide) (by decide) rfl rfl (Nat.le_of_ble_eq_true rfl) (by rw [hR]; exact ⟨Nat.le_of_ble_eq_true rfl, Nat.le_of_ble_eq_true rfl⟩) (fun z160 u H locs q160 hP hD hS => ?_)
            obtain ⟨at1_160, sa1_160, vv1_160, rd1_160⟩ := u
            have q160 : sa1_160 = skp t n z78 ∧ (z78 ≤ at1_160 ∧ at1_160 ≤ n) ∧ ((z160 = 1 ∧ numOK t n (skp t n z78) 1 8 ∧ rd1_160 = zu rd 3 (vl t n (skp t n z78)) ∧ nx t n (skp t n z78) = skp t n at1_160) ∨ (z160 = 0 ∧ ¬ numOK t n (skp t n z78) 1 8)) := q160
            obtain ⟨q160_0, q160_1, q160_2⟩ := q160
            have hP : va_P g vwCl [(hm, oB 8 [.ref m0, vI un, .ref m2, .ref m3, vI mo, vI oft, vI la, vI du, .ref m8, .ref m9, vI to, .ref m11, .ref m12, vJ tr, .ref m14, vI n, vI at1_160, vI sa1_160, vI vv1_160, .ref m19, vI rdu, .ref m21, .ref m22, vI z68, vI its, .ref m25, .ref m26, vJ lt0]), (m14, aI ca 200 t), (m19, aI ca 6 rd1_160), (m21, aI ca 6 rN), (m22, aI ca 6 rW)] H := hP.sub [2, 3, 4, 0, 1] rfl
            have hD : va_D A [(hm, oB 8 [.ref m0, vI un, .ref m2, .ref m3, vI mo, vI oft, vI la, vI du, .ref m8, .ref m9, vI to, .ref m11, .ref m12, vJ tr, .ref m14, vI n, vI at1_160, vI sa1_160, vI vv1_160, .ref m19, vI rdu, .ref m21, .ref m22, vI z68, vI its, .ref m25, .ref m26, vJ lt0]), (m14, aI ca 200 t), (m19, aI ca 6 rd1_160), (m21, aI ca 6 rN), (m22, aI ca 6 rW)] := hD.sub [2, 3, 4, 0, 1] (by decide) rfl
            refine ri_if_eq (tgt := 188) hx hb dX8_takesItem_163 (by decide) ⟨by omega, by omega⟩ (fun c163 => ?_) (fun c163 => ?_)
            · skip
              refine lv_iconst (v := Int32.ofInt 0) hx hb dX8_takesItem_188 rfl ?_
              refine zr_Z hx hb hr hlk hQ (at1_160, sa1_160, vv1_160, rdu, z68, rd1_160, rN, rW) hP hD hS dX8_takesItem_189 (Nat.le_of_ble_eq_true rfl) (Nat.le_of_ble_eq_true rfl) (Or.inl rfl) ?_
              show (at0 ≤ at1_160 ∧ at1_160 ≤ n) ∧ ((0 = 1 ∧ itc t n at0 sr sl st0 rdu = (0, skp t n at1_160) ∧ rd1_160 = itr t n at0 sr sl st0 rd ∧ rdu = itu t n at0 rdu ∧ rN = itn t n at0 rdu rN ∧ rW = itw t n at0 rdu rW ∧ z68 = fl t n at0 114 sr + 2 * fl t n at0 108 sl + 4 * fl t n at0 116 st0) ∨ (0 = 0 ∧ itc t n at0 sr sl st0 rdu = (1, sa1_160)))
              refine ⟨by omega, ?_⟩
              rw [itc_l hat.2 (by omega)]
              have hsl : sl = 0 := by omega
              rw [if_pos hsl]
              have hit := it_l (n := n) (sr := sr) (sl := sl) (st := st0) (du := rdu) (rd := rd) (dn := rN) (dw := rW) hat.2 (show t at0 = 108 by omega) hsl
              rw [e78] at q160_0 q160_2
              rcases q160_2 with a9 | a9
              · first
                | (exfalso; omega)
                | (rw [pn_ok a9.2.1, a9.2.2.2]
                   rw [pn_ok a9.2.1, a9.2.2.2] at hit
                   rw [e175, hr178, e78] at q178_2
                   rcases q178_2 with b9 | b9
                   · first
                     | (exfalso; omega)
                     | (rw [pn_ok b9.2.1, b9.2.2.2]
                        obtain ⟨i1, i2, i3, i4, i5, i6, i7⟩ := hit
                        rw [i1, i2, i3, i4, i5, i6, i7]
                        exact Or.inl ⟨rfl, rfl, by rw [b9.2.2.1, a9.2.2.1], rfl, rfl, rfl, hz67.2.1 (by omega)⟩)
                   · first
                     | (exfalso; omega)
                     | (rw [pn_no b9.2, q178_0]; exact Or.inr ⟨rfl, rfl⟩))
              · first
                | (exfalso; omega)
                | (rw [pn_no a9.2, pn_bad, q160_0]; exact Or.inr ⟨rfl, rfl⟩)
            · skip
              refine lv_aload_n hx hb dX8_takesItem_166 rfl (lv_at hl 2 rfl) ?_
              refine lv_iconst (v := Int32.ofInt 4) hx hb dX8_takesItem_167 rfl ?_
              refine lv_aload_n hx hb dX8_takesItem_168 rfl (lv_at hl 2 rfl) ?_
              refine va_get (D := g) (ci := 8) (v := .ref m19) (C := RX8) (T := TX8) (N := 28) hx hb hts inF_X8 hown hK.1 hP 0 rfl rfl 19 (by decide) lk_f36 (fun _ h9 => h9) rfl dX8_takesItem_169 ?_
              refine lv_iconst (v := Int32.ofInt 3) hx hb dX8_takesItem_172 rfl ?_
              refine ra_ild hx hb hK hP 2 rfl dX8_takesItem_173 ⟨by omega, by omega⟩ (by omega) ?_
              refine lv_iconst (v := Int32.ofInt 1) hx hb dX8_takesItem_174 rfl ?_
              have hv178 := vl_bd t n (skp t n z78)
              have hr178 : rd1_160 3 = vl t n (skp t n z78) := by
                rcases q160_2 with q9 | q9
                · rw [q9.2.2.1, zu_s]
                · omega
              refine ri_add hx hb dX8_takesItem_175 (fun z175 e175 => ?_)
              refine lv_bipush (v := Int32.ofInt 9) hx hb dX8_takesItem_176 (by decide) ?_
              refine zc_VI (As := [vI 4, vI z175, vI 9]) (rest := []) (wc := [(hm, oB 8 [.ref m0, vI un, .ref m2, .ref m3, vI mo, vI oft, vI la, vI du, .ref m8, .ref m9, vI to, .ref m11, .ref m12, vJ tr, .ref m14, vI n, vI at1_160, vI sa1_160, vI vv1_160, .ref m19, vI rdu, .ref m21, .ref m22, vI z68, vI its, .ref m25, .ref m26, vJ lt0]), (m14, aI ca 200 t), (m19, aI ca 6 rd1_160)]) (wr := [(m21, aI ca 6 rN), (m22, aI ca 6 rW)]) (k_X8_takes l g ca hm m0 m2 m3 m8 m9 m11 m12 m14 m19 m21 m22 m25 m26 un mo oft la du to tr n at1_160 sa1_160 vv1_160 rdu z68 its lt0 t rd1_160 4 z175 9 (by first | assumption | omega) (by first | assumption | omega) (by first | assumption | omega) (by first | assumption | omega)) dX8_takesItem_178 (cwV 3 hts gX8_takesItem_X8_takes rfl rfl rfl (by decide +kernel) (by rw [hR]; exact ⟨Nat.le_of_ble_eq_true rfl, Nat.le_of_ble_eq_true rfl⟩)) ⟨hx, hb, hml, hown, hts⟩ hl.1 hK hP hD hS hA 0 rfl rfl rfl [0, 1, 2] [3, 4] rfl (by decide) rfl (by decide) (by decide) rfl rfl (Nat.le_of_ble_eq_true rfl) (by rw [hR]; exact ⟨Nat.le_of_ble_eq_true rfl, Nat.le_of_ble_eq_true rfl⟩) (fun z178 u H locs q178 hP hD hS => ?_)
              obtain ⟨at1_178, sa1_178, vv1_178, rd1_178⟩ := u
              have q178 : sa1_178 = skp t n at1_160 ∧ (at1_160 ≤ at1_178 ∧ at1_178 ≤ n) ∧ ((z178 = 1 ∧ numOK t n (skp t n at1_160) z175 9 ∧ rd1_178 = zu rd1_160 4 (vl t n (skp t n at1_160)) ∧ nx t n (skp t n at1_160) = skp t n at1_178) ∨ (z178 = 0 ∧ ¬ numOK t n (skp t n at1_160) z175 9)) := q178
              obtain ⟨q178_0, q178_1, q178_2⟩ := q178
              have hP : va_P g vwCl [(hm, oB 8 [.ref m0, vI un, .ref m2, .ref m3, vI mo, vI oft, vI la, vI du, .ref m8, .ref m9, vI to, .ref m11, .ref m12, vJ tr, .ref m14, vI n, vI at1_178, vI sa1_178, vI vv1_178, .ref m19, vI rdu, .ref m21, .ref m22, vI z68, vI its, .ref m25, .ref m26, vJ lt0]), (m14, aI ca 200 t), (m19, aI ca 6 rd1_178), (m21, aI ca 6 rN), (m22, aI ca 6 rW)] H := hP.sub [2, 3, 4, 0, 1] rfl
              have hD : va_D A [(hm, oB 8 [.ref m0, vI un, .ref m2, .ref m3, vI mo, vI oft, vI la, vI du, .ref m8, .ref m9, vI to, .ref m11, .ref m12, vJ tr, .ref m14, vI n, vI at1_178, vI sa1_178, vI vv1_178, .ref m19, vI rdu, .ref m21, .ref m22, vI z68, vI its, .ref m25, .ref m26, vJ lt0]), (m14, aI ca 200 t), (m19, aI ca 6 rd1_178), (m21, aI ca 6 rN), (m22, aI ca 6 rW)] := hD.sub [2, 3, 4, 0, 1] (by decide) rfl
              refine ri_if_eq (tgt := 188) hx hb dX8_takesItem_181 (by decide) ⟨by omega, by omega⟩ (fun c181 => ?_) (fun c181 => ?_)
              · skip
                refine lv_iconst (v := Int32.ofInt 0) hx hb dX8_takesItem_188 rfl ?_
                refine zr_Z hx hb hr hlk hQ (at1_178, sa1_178, vv1_178, rdu, z68, rd1_178, rN, rW) hP hD hS dX8_takesItem_189 (Nat.le_of_ble_eq_true rfl) (Nat.le_of_ble_eq_true rfl) (Or.inl rfl) ?_
                show (at0 ≤ at1_178 ∧ at1_178 ≤ n) ∧ ((0 = 1 ∧ itc t n at0 sr sl st0 rdu = (0, skp t n at1_178) ∧ rd1_178 = itr t n at0 sr sl st0 rd ∧ rdu = itu t n at0 rdu ∧ rN = itn t n at0 rdu rN ∧ rW = itw t n at0 rdu rW ∧ z68 = fl t n at0 114 sr + 2 * fl t n at0 108 sl + 4 * fl t n at0 116 st0) ∨ (0 = 0 ∧ itc t n at0 sr sl st0 rdu = (1, sa1_178)))
                refine ⟨by omega, ?_⟩
                rw [itc_l hat.2 (by omega)]
                have hsl : sl = 0 := by omega
                rw [if_pos hsl]
                have hit := it_l (n := n) (sr := sr) (sl := sl) (st := st0) (du := rdu) (rd := rd) (dn := rN) (dw := rW) hat.2 (show t at0 = 108 by omega) hsl
                rw [e78] at q160_0 q160_2
                rcases q160_2 with a9 | a9
                · first
                  | (exfalso; omega)
                  | (rw [pn_ok a9.2.1, a9.2.2.2]
                     rw [pn_ok a9.2.1, a9.2.2.2] at hit
                     rw [e175, hr178, e78] at q178_2
                     rcases q178_2 with b9 | b9
                     · first
                       | (exfalso; omega)
                       | (rw [pn_ok b9.2.1, b9.2.2.2]
                          obtain ⟨i1, i2, i3, i4, i5, i6, i7⟩ := hit
                          rw [i1, i2, i3, i4, i5, i6, i7]
                          exact Or.inl ⟨rfl, rfl, by rw [b9.2.2.1, a9.2.2.1], rfl, rfl, rfl, hz67.2.1 (by omega)⟩)
                     · first
                       | (exfalso; omega)
                       | (rw [pn_no b9.2, q178_0]; exact Or.inr ⟨rfl, rfl⟩))
                · first
                  | (exfalso; omega)
                  | (rw [pn_no a9.2, pn_bad, q160_0]; exact Or.inr ⟨rfl, rfl⟩)
              · skip
                refine lv_iconst (v := Int32.ofInt 1) hx hb dX8_takesItem_184 rfl ?_
                refine lv_goto (tgt := 189) hx hb dX8_takesItem_185 (by decide) ?_
                refine zr_Z hx hb hr hlk hQ (at1_178, sa1_178, vv1_178, rdu, z68, rd1_178, rN, rW) hP hD hS dX8_takesItem_189 (Nat.le_of_ble_eq_true rfl) (Nat.le_of_ble_eq_true rfl) (Or.inr rfl) ?_
                show (at0 ≤ at1_178 ∧ at1_178 ≤ n) ∧ ((1 = 1 ∧ itc t n at0 sr sl st0 rdu = (0, skp t n at1_178) ∧ rd1_178 = itr t n at0 sr sl st0 rd ∧ rdu = itu t n at0 rdu ∧ rN = itn t n at0 rdu rN ∧ rW = itw t n at0 rdu rW ∧ z68 = fl t n at0 114 sr + 2 * fl t n at0 108 sl + 4 * fl t n at0 116 st0) ∨ (1 = 0 ∧ itc t n at0 sr sl st0 rdu = (1, sa1_178)))
                refine ⟨by omega, ?_⟩
                rw [itc_l hat.2 (by omega)]
                have hsl : sl = 0 := by omega
                rw [if_pos hsl]
                have hit := it_l (n := n) (sr := sr) (sl := sl) (st := st0) (du := rdu) (rd := rd) (dn := rN) (dw := rW) hat.2 (show t at0 = 108 by omega) hsl
                rw [e78] at q160_0 q160_2
                rcases q160_2 with a9 | a9
                · first
                  | (exfalso; omega)
                  | (rw [pn_ok a9.2.1, a9.2.2.2]
                     rw [pn_ok a9.2.1, a9.2.2.2] at hit
                     rw [e175, hr178, e78] at q178_2
                     rcases q178_2 with b9 | b9
                     · first
                       | (exfalso; omega)
                       | (rw [pn_ok b9.2.1, b9.2.2.2]
                          obtain ⟨i1, i2, i3, i4, i5, i6, i7⟩ := hit
                          rw [i1, i2, i3, i4, i5, i6, i7]
                          exact Or.inl ⟨rfl, rfl, by rw [b9.2.2.1, a9.2.2.1], rfl, rfl, rfl, hz67.2.1 (by omega)⟩)
                     · first
                       | (exfalso; omega)
                       | (rw [pn_no b9.2, q178_0]; exact Or.inr ⟨rfl, rfl⟩))
                · first
                  | (exfalso; omega)
                  | (rw [pn_no a9.2, pn_bad, q160_0]; exact Or.inr ⟨rfl, rfl⟩)
          by_cases c83_2 : z5 = 114
          · skip
            refine ri_to c83_2 ?_
            refine lv_lookup (tgt := 116) hx hb dX8_takesItem_83 (by decide) (off := 33) (by rw [xi_to ⟨by omega, by omega⟩]; rfl) (by decide) ?_
            refine lv_aload_n hx hb dX8_takesItem_116 rfl (lv_at hl 2 rfl) ?_
            refine lv_iconst (v := Int32.ofInt 0) hx hb dX8_takesItem_117 rfl ?_
            refine lv_iconst (v := Int32.ofInt 1) hx hb dX8_takesItem_118 rfl ?_
            refine lv_bipush (v := Int32.ofInt 99) hx hb dX8_takesItem_119 (by decide) ?_
            refine zc_VI (As := [vI 0, vI 1, vI 99]) (rest := []) (wc := [(hm, oB 8 [.ref m0, vI un, .ref m2, .ref m3, vI mo, vI oft, vI la, vI du, .ref m8, .ref m9, vI to, .ref m11, .ref m12, vJ tr, .ref m14, vI n, vI z78, vI sa, vI vv, .ref m19, vI rdu, .ref m21, .ref m22, vI z68, vI its, .ref m25, .ref m26, vJ lt0]), (m14, aI ca 200 t), (m19, aI ca 6 rd)]) (wr := [(m21, aI ca 6 rN), (m22, aI ca 6 rW)]) (k_X8_takes l g ca hm m0 m2 m3 m8 m9 m11 m12 m14 m19 m21 m22 m25 m26 un mo oft la du to tr n z78 sa vv rdu z68 its lt0 t rd 0 1 99 (by first | assumption | omega) (by first | assumption | omega) (by first | assumption | omega) (by first | assumption | omega)) dX8_takesItem_121 (cwV 3 hts gX8_takesItem_X8_takes rfl rfl rfl (by decide +kernel) (by rw [hR]; exact ⟨Nat.le_of_ble_eq_true rfl, Nat.le_of_ble_eq_true rfl⟩)) ⟨hx, hb, hml, hown, hts⟩ hl.1 hK hP hD hS hA 0 rfl rfl rfl [0, 1, 2] [3, 4] rfl (by decide) rfl (by decide) (by decide) rfl rfl (Nat.le_of_ble_eq_true rfl) (by rw [hR]; exact ⟨Nat.le_of_ble_eq_true rfl, Nat.le_of_ble_eq_true rfl⟩) (fun z121 u H locs q121 hP hD hS => ?_)
            obtain ⟨at1_121, sa1_121, vv1_121, rd1_121⟩ := u
            have q121 : sa1_121 = skp t n z78 ∧ (z78 ≤ at1_121 ∧ at1_121 ≤ n) ∧ ((z121 = 1 ∧ numOK t n (skp t n z78) 1 99 ∧ rd1_121 = zu rd 0 (vl t n (skp t n z78)) ∧ nx t n (skp t n z78) = skp t n at1_121) ∨ (z121 = 0 ∧ ¬ numOK t n (skp t n z78) 1 99)) := q121
            obtain ⟨q121_0, q121_1, q121_2⟩ := q121
            have hP : va_P g vwCl [(hm, oB 8 [.ref m0, vI un, .ref m2, .ref m3, vI mo, vI oft, vI la, vI du, .ref m8, .ref m9, vI to, .ref m11, .ref m12, vJ tr, .ref m14, vI n, vI at1_121, vI sa1_121, vI vv1_121, .ref m19, vI rdu, .ref m21, .ref m22, vI z68, vI its, .ref m25, .ref m26, vJ lt0]), (m14, aI ca 200 t), (m19, aI ca 6 rd1_121), (m21, aI ca 6 rN), (m22, aI ca 6 rW)] H := hP.sub [2, 3, 4, 0, 1] rfl
            have hD : va_D A [(hm, oB 8 [.ref m0, vI un, .ref m2, .ref m3, vI mo, vI oft, vI la, vI du, .ref m8, .ref m9, vI to, .ref m11, .ref m12, vJ tr, .ref m14, vI n, vI at1_121, vI sa1_121, vI vv1_121, .ref m19, vI rdu, .ref m21, .ref m22, vI z68, vI its, .ref m25, .ref m26, vJ lt0]), (m14, aI ca 200 t), (m19, aI ca 6 rd1_121), (m21, aI ca 6 rN), (m22, aI ca 6 rW)] := hD.sub [2, 3, 4, 0, 1] (by decide) rfl
            refine ri_if_eq (tgt := 153) hx hb dX8_takesItem_124 (by decide) ⟨by omega, by omega⟩ (fun c124 => ?_) (fun c124 => ?_)
            · skip
              refine lv_iconst (v := Int32.ofInt 0) hx hb dX8_takesItem_153 rfl ?_
              refine zr_Z hx hb hr hlk hQ (at1_121, sa1_121, vv1_121, rdu, z68, rd1_121, rN, rW) hP hD hS dX8_takesItem_154 (Nat.le_of_ble_eq_true rfl) (Nat.le_of_ble_eq_true rfl) (Or.inl rfl) ?_
              show (at0 ≤ at1_121 ∧ at1_121 ≤ n) ∧ ((0 = 1 ∧ itc t n at0 sr sl st0 rdu = (0, skp t n at1_121) ∧ rd1_121 = itr t n at0 sr sl st0 rd ∧ rdu = itu t n at0 rdu ∧ rN = itn t n at0 rdu rN ∧ rW = itw t n at0 rdu rW ∧ z68 = fl t n at0 114 sr + 2 * fl t n at0 108 sl + 4 * fl t n at0 116 st0) ∨ (0 = 0 ∧ itc t n at0 sr sl st0 rdu = (1, sa1_121)))
              refine ⟨by omega, ?_⟩
              rw [itc_r hat.2 (by omega)]
              have hsr : sr = 0 := by omega
              rw [if_pos hsr]
              have hit := it_r (n := n) (sr := sr) (sl := sl) (st := st0) (du := rdu) (rd := rd) (dn := rN) (dw := rW) hat.2 (show t at0 = 114 by omega) hsr
              rw [e78] at q121_0 q121_2
              rcases q121_2 with a9 | a9
              · first
                | (exfalso; omega)
                | (rw [pn_ok a9.2.1, a9.2.2.2]
                   rw [pn_ok a9.2.1, a9.2.2.2] at hit
                   rcases q132_2 with b9 | b9
                   · first
                     | (exfalso; omega)
                     | (rw [pn_ok b9.2.1, b9.2.2.2]
                        rw [pn_ok b9.2.1, b9.2.2.2] at hit
                        rcases q143_2 with c9 | c9
                        · first
                          | (exfalso; omega)
                          | (rw [pn_ok c9.2.1, c9.2.2.2]
                             obtain ⟨i1, i2, i3, i4, i5, i6, i7⟩ := hit
                             rw [i1, i2, i3, i4, i5, i6, i7]
                             exact Or.inl ⟨rfl, rfl, by rw [c9.2.2.1, b9.2.2.1, a9.2.2.1], rfl, rfl, rfl, hz67.1 (by omega)⟩)
                        · first
                          | (exfalso; omega)
                          | (rw [pn_no c9.2, q143_0]; exact Or.inr ⟨rfl, rfl⟩))
                   · first
                     | (exfalso; omega)
                     | (rw [pn_no b9.2, pn_bad, q132_0]; exact Or.inr ⟨rfl, rfl⟩))
              · first
                | (exfalso; omega)
                | (rw [pn_no a9.2, pn_bad, pn_bad, q121_0]; exact Or.inr ⟨rfl, rfl⟩)
            · skip
              refine lv_aload_n hx hb dX8_takesItem_127 rfl (lv_at hl 2 rfl) ?_
              refine lv_iconst (v := Int32.ofInt 1) hx hb dX8_takesItem_128 rfl ?_
              refine lv_iconst (v := Int32.ofInt 1) hx hb dX8_takesItem_129 rfl ?_
              refine lv_bipush (v := Int32.ofInt 9) hx hb dX8_takesItem_130 (by decide) ?_
              refine zc_VI (As := [vI 1, vI 1, vI 9]) (rest := []) (wc := [(hm, oB 8 [.ref m0, vI un, .ref m2, .ref m3, vI mo, vI oft, vI la, vI du, .ref m8, .ref m9, vI to, .ref m11, .ref m12, vJ tr, .ref m14, vI n, vI at1_121, vI sa1_121, vI vv1_121, .ref m19, vI rdu, .ref m21, .ref m22, vI z68, vI its, .ref m25, .ref m26, vJ lt0]), (m14, aI ca 200 t), (m19, aI ca 6 rd1_121)]) (wr := [(m21, aI ca 6 rN), (m22, aI ca 6 rW)]) (k_X8_takes l g ca hm m0 m2 m3 m8 m9 m11 m12 m14 m19 m21 m22 m25 m26 un mo oft la du to tr n at1_121 sa1_121 vv1_121 rdu z68 its lt0 t rd1_121 1 1 9 (by first | assumption | omega) (by first | assumption | omega) (by first | assumption | omega) (by first | assumption | omega)) dX8_takesItem_132 (cwV 3 hts gX8_takesItem_X8_takes rfl rfl rfl (by decide +kernel) (by rw [hR]; exact ⟨Nat.le_of_ble_eq_true rfl, Nat.le_of_ble_eq_true rfl⟩)) ⟨hx, hb, hml, hown, hts⟩ hl.1 hK hP hD hS hA 0 rfl rfl rfl [0, 1, 2] [3, 4] rfl (by decide) rfl (by decide) (by decide) rfl rfl (Nat.le_of_ble_eq_true rfl) (by rw [hR]; exact ⟨Nat.le_of_ble_eq_true rfl, Nat.le_of_ble_eq_true rfl⟩) (fun z132 u H locs q132 hP hD hS => ?_)
              obtain ⟨at1_132, sa1_132, vv1_132, rd1_132⟩ := u
              have q132 : sa1_132 = skp t n at1_121 ∧ (at1_121 ≤ at1_132 ∧ at1_132 ≤ n) ∧ ((z132 = 1 ∧ numOK t n (skp t n at1_121) 1 9 ∧ rd1_132 = zu rd1_121 1 (vl t n (skp t n at1_121)) ∧ nx t n (skp t n at1_121) = skp t n at1_132) ∨ (z132 = 0 ∧ ¬ numOK t n (skp t n at1_121) 1 9)) := q132
              obtain ⟨q132_0, q132_1, q132_2⟩ := q132
              have hP : va_P g vwCl [(hm, oB 8 [.ref m0, vI un, .ref m2, .ref m3, vI mo, vI oft, vI la, vI du, .ref m8, .ref m9, vI to, .ref m11, .ref m12, vJ tr, .ref m14, vI n, vI at1_132, vI sa1_132, vI vv1_132, .ref m19, vI rdu, .ref m21, .ref m22, vI z68, vI its, .ref m25, .ref m26, vJ lt0]), (m14, aI ca 200 t), (m19, aI ca 6 rd1_132), (m21, aI ca 6 rN), (m22, aI ca 6 rW)] H := hP.sub [2, 3, 4, 0, 1] rfl
              have hD : va_D A [(hm, oB 8 [.ref m0, vI un, .ref m2, .ref m3, vI mo, vI oft, vI la, vI du, .ref m8, .ref m9, vI to, .ref m11, .ref m12, vJ tr, .ref m14, vI n, vI at1_132, vI sa1_132, vI vv1_132, .ref m19, vI rdu, .ref m21, .ref m22, vI z68, vI its, .ref m25, .ref m26, vJ lt0]), (m14, aI ca 200 t), (m19, aI ca 6 rd1_132), (m21, aI ca 6 rN), (m22, aI ca 6 rW)] := hD.sub [2, 3, 4, 0, 1] (by decide) rfl
              refine ri_if_eq (tgt := 153) hx hb dX8_takesItem_135 (by decide) ⟨by omega, by omega⟩ (fun c135 => ?_) (fun c135 => ?_)
              · skip
                refine lv_iconst (v := Int32.ofInt 0) hx hb dX8_takesItem_153 rfl ?_
                refine zr_Z hx hb hr hlk hQ (at1_132, sa1_132, vv1_132, rdu, z68, rd1_132, rN, rW) hP hD hS dX8_takesItem_154 (Nat.le_of_ble_eq_true rfl) (Nat.le_of_ble_eq_true rfl) (Or.inl rfl) ?_
                show (at0 ≤ at1_132 ∧ at1_132 ≤ n) ∧ ((0 = 1 ∧ itc t n at0 sr sl st0 rdu = (0, skp t n at1_132) ∧ rd1_132 = itr t n at0 sr sl st0 rd ∧ rdu = itu t n at0 rdu ∧ rN = itn t n at0 rdu rN ∧ rW = itw t n at0 rdu rW ∧ z68 = fl t n at0 114 sr + 2 * fl t n at0 108 sl + 4 * fl t n at0 116 st0) ∨ (0 = 0 ∧ itc t n at0 sr sl st0 rdu = (1, sa1_132)))
                refine ⟨by omega, ?_⟩
                rw [itc_r hat.2 (by omega)]
                have hsr : sr = 0 := by omega
                rw [if_pos hsr]
                have hit := it_r (n := n) (sr := sr) (sl := sl) (st := st0) (du := rdu) (rd := rd) (dn := rN) (dw := rW) hat.2 (show t at0 = 114 by omega) hsr
                rw [e78] at q121_0 q121_2
                rcases q121_2 with a9 | a9
                · first
                  | (exfalso; omega)
                  | (rw [pn_ok a9.2.1, a9.2.2.2]
                     rw [pn_ok a9.2.1, a9.2.2.2] at hit
                     rcases q132_2 with b9 | b9
                     · first
                       | (exfalso; omega)
                       | (rw [pn_ok b9.2.1, b9.2.2.2]
                          rw [pn_ok b9.2.1, b9.2.2.2] at hit
                          rcases q143_2 with c9 | c9
                          · first
                            | (exfalso; omega)
                            | (rw [pn_ok c9.2.1, c9.2.2.2]
                               obtain ⟨i1, i2, i3, i4, i5, i6, i7⟩ := hit
                               rw [i1, i2, i3, i4, i5, i6, i7]
                               exact Or.inl ⟨rfl, rfl, by rw [c9.2.2.1, b9.2.2.1, a9.2.2.1], rfl, rfl, rfl, hz67.1 (by omega)⟩)
                          · first
                            | (exfalso; omega)
                            | (rw [pn_no c9.2, q143_0]; exact Or.inr ⟨rfl, rfl⟩))
                     · first
                       | (exfalso; omega)
                       | (rw [pn_no b9.2, pn_bad, q132_0]; exact Or.inr ⟨rfl, rfl⟩))
                · first
                  | (exfalso; omega)
                  | (rw [pn_no a9.2, pn_bad, pn_bad, q121_0]; exact Or.inr ⟨rfl, rfl⟩)
              · skip
                refine lv_aload_n hx hb dX8_takesItem_138 rfl (lv_at hl 2 rfl) ?_
                refine lv_iconst (v := Int32.ofInt 2) hx hb dX8_takesItem_139 rfl ?_
                refine lv_iconst (v := Int32.ofInt 1) hx hb dX8_takesItem_140 rfl ?_
                refine lv_bipush (v := Int32.ofInt 20) hx hb dX8_takesItem_141 (by decide) ?_
                refine zc_VI (As := [vI 2, vI 1, vI 20]) (rest := []) (wc := [(hm, oB 8 [.ref m0, vI un, .ref m2, .ref m3, vI mo, vI oft, vI la, vI du, .ref m8, .ref m9, vI to, .ref m11, .ref m12, vJ tr, .ref m14, vI n, vI at1_132, vI sa1_132, vI vv1_132, .ref m19, vI rdu, .ref m21, .ref m22, vI z68, vI its, .ref m25, .ref m26, vJ lt0]), (m14, aI ca 200 t), (m19, aI ca 6 rd1_132)]) (wr := [(m21, aI ca 6 rN), (m22, aI ca 6 rW)]) (k_X8_takes l g ca hm m0 m2 m3 m8 m9 m11 m12 m14 m19 m21 m22 m25 m26 un mo oft la du to tr n at1_132 sa1_132 vv1_132 rdu z68 its lt0 t rd1_132 2 1 20 (by first | assumption | omega) (by first | assumption | omega) (by first | assumption | omega) (by first | assumption | omega)) dX8_takesItem_143 (cwV 3 hts gX8_takesItem_X8_takes rfl rfl rfl (by decide +kernel) (by rw [hR]; exact ⟨Nat.le_of_ble_eq_true rfl, Nat.le_of_ble_eq_true rfl⟩)) ⟨hx, hb, hml, hown, hts⟩ hl.1 hK hP hD hS hA 0 rfl rfl rfl [0, 1, 2] [3, 4] rfl (by decide) rfl (by decide) (by decide) rfl rfl (Nat.le_of_ble_eq_true rfl) (by rw [hR]; exact ⟨Nat.le_of_ble_eq_true rfl, Nat.le_of_ble_eq_true rfl⟩) (fun z143 u H locs q143 hP hD hS => ?_)
                obtain ⟨at1_143, sa1_143, vv1_143, rd1_143⟩ := u
                have q143 : sa1_143 = skp t n at1_132 ∧ (at1_132 ≤ at1_143 ∧ at1_143 ≤ n) ∧ ((z143 = 1 ∧ numOK t n (skp t n at1_132) 1 20 ∧ rd1_143 = zu rd1_132 2 (vl t n (skp t n at1_132)) ∧ nx t n (skp t n at1_132) = skp t n at1_143) ∨ (z143 = 0 ∧ ¬ numOK t n (skp t n at1_132) 1 20)) := q143
                obtain ⟨q143_0, q143_1, q143_2⟩ := q143
                have hP : va_P g vwCl [(hm, oB 8 [.ref m0, vI un, .ref m2, .ref m3, vI mo, vI oft, vI la, vI du, .ref m8, .ref m9, vI to, .ref m11, .ref m12, vJ tr, .ref m14, vI n, vI at1_143, vI sa1_143, vI vv1_143, .ref m19, vI rdu, .ref m21, .ref m22, vI z68, vI its, .ref m25, .ref m26, vJ lt0]), (m14, aI ca 200 t), (m19, aI ca 6 rd1_143), (m21, aI ca 6 rN), (m22, aI ca 6 rW)] H := hP.sub [2, 3, 4, 0, 1] rfl
                have hD : va_D A [(hm, oB 8 [.ref m0, vI un, .ref m2, .ref m3, vI mo, vI oft, vI la, vI du, .ref m8, .ref m9, vI to, .ref m11, .ref m12, vJ tr, .ref m14, vI n, vI at1_143, vI sa1_143, vI vv1_143, .ref m19, vI rdu, .ref m21, .ref m22, vI z68, vI its, .ref m25, .ref m26, vJ lt0]), (m14, aI ca 200 t), (m19, aI ca 6 rd1_143), (m21, aI ca 6 rN), (m22, aI ca 6 rW)] := hD.sub [2, 3, 4, 0, 1] (by decide) rfl
                refine ri_if_eq (tgt := 153) hx hb dX8_takesItem_146 (by decide) ⟨by omega, by omega⟩ (fun c146 => ?_) (fun c146 => ?_)
                · skip
                  refine lv_iconst (v := Int32.ofInt 0) hx hb dX8_takesItem_153 rfl ?_
                  refine zr_Z hx hb hr hlk hQ (at1_143, sa1_143, vv1_143, rdu, z68, rd1_143, rN, rW) hP hD hS dX8_takesItem_154 (Nat.le_of_ble_eq_true rfl) (Nat.le_of_ble_eq_true rfl) (Or.inl rfl) ?_
                  show (at0 ≤ at1_143 ∧ at1_143 ≤ n) ∧ ((0 = 1 ∧ itc t n at0 sr sl st0 rdu = (0, skp t n at1_143) ∧ rd1_143 = itr t n at0 sr sl st0 rd ∧ rdu = itu t n at0 rdu ∧ rN = itn t n at0 rdu rN ∧ rW = itw t n at0 rdu rW ∧ z68 = fl t n at0 114 sr + 2 * fl t n at0 108 sl + 4 * fl t n at0 116 st0) ∨ (0 = 0 ∧ itc t n at0 sr sl st0 rdu = (1, sa1_143)))
                  refine ⟨by omega, ?_⟩
                  rw [itc_r hat.2 (by omega)]
                  have hsr : sr = 0 := by omega
                  rw [if_pos hsr]
                  have hit := it_r (n := n) (sr := sr) (sl := sl) (st := st0) (du := rdu) (rd := rd) (dn := rN) (dw := rW) hat.2 (show t at0 = 114 by omega) hsr
                  rw [e78] at q121_0 q121_2
                  rcases q121_2 with a9 | a9
                  · first
                    | (exfalso; omega)
                    | (rw [pn_ok a9.2.1, a9.2.2.2]
                       rw [pn_ok a9.2.1, a9.2.2.2] at hit
                       rcases q132_2 with b9 | b9
                       · first
                         | (exfalso; omega)
                         | (rw [pn_ok b9.2.1, b9.2.2.2]
                            rw [pn_ok b9.2.1, b9.2.2.2] at hit
                            rcases q143_2 with c9 | c9
                            · first
                              | (exfalso; omega)
                              | (rw [pn_ok c9.2.1, c9.2.2.2]
                                 obtain ⟨i1, i2, i3, i4, i5, i6, i7⟩ := hit
                                 rw [i1, i2, i3, i4, i5, i6, i7]
                                 exact Or.inl ⟨rfl, rfl, by rw [c9.2.2.1, b9.2.2.1, a9.2.2.1], rfl, rfl, rfl, hz67.1 (by omega)⟩)
                            · first
                              | (exfalso; omega)
                              | (rw [pn_no c9.2, q143_0]; exact Or.inr ⟨rfl, rfl⟩))
                       · first
                         | (exfalso; omega)
                         | (rw [pn_no b9.2, pn_bad, q132_0]; exact Or.inr ⟨rfl, rfl⟩))
                  · first
                    | (exfalso; omega)
                    | (rw [pn_no a9.2, pn_bad, pn_bad, q121_0]; exact Or.inr ⟨rfl, rfl⟩)
                · skip
                  refine lv_iconst (v := Int32.ofInt 1) hx hb dX8_takesItem_149 rfl ?_
                  refine lv_goto (tgt := 154) hx hb dX8_takesItem_150 (by decide) ?_
                  refine zr_Z hx hb hr hlk hQ (at1_143, sa1_143, vv1_143, rdu, z68, rd1_143, rN, rW) hP hD hS dX8_takesItem_154 (Nat.le_of_ble_eq_true rfl) (Nat.le_of_ble_eq_true rfl) (Or.inr rfl) ?_
                  show (at0 ≤ at1_143 ∧ at1_143 ≤ n) ∧ ((1 = 1 ∧ itc t n at0 sr sl st0 rdu = (0, skp t n at1_143) ∧ rd1_143 = itr t n at0 sr sl st0 rd ∧ rdu = itu t n at0 rdu ∧ rN = itn t n at0 rdu rN ∧ rW = itw t n at0 rdu rW ∧ z68 = fl t n at0 114 sr + 2 * fl t n at0 108 sl + 4 * fl t n at0 116 st0) ∨ (1 = 0 ∧ itc t n at0 sr sl st0 rdu = (1, sa1_143)))
                  refine ⟨by omega, ?_⟩
                  rw [itc_r hat.2 (by omega)]
                  have hsr : sr = 0 := by omega
                  rw [if_pos hsr]
                  have hit := it_r (n := n) (sr := sr) (sl := sl) (st := st0) (du := rdu) (rd := rd) (dn := rN) (dw := rW) hat.2 (show t at0 = 114 by omega) hsr
                  rw [e78] at q121_0 q121_2
                  rcases q121_2 with a9 | a9
                  · first
                    | (exfalso; omega)
                    | (rw [pn_ok a9.2.1, a9.2.2.2]
                       rw [pn_ok a9.2.1, a9.2.2.2] at hit
                       rcases q132_2 with b9 | b9
                       · first
                         | (exfalso; omega)
                         | (rw [pn_ok b9.2.1, b9.2.2.2]
                            rw [pn_ok b9.2.1, b9.2.2.2] at hit
                            rcases q143_2 with c9 | c9
                            · first
                              | (exfalso; omega)
                              | (rw [pn_ok c9.2.1, c9.2.2.2]
                                 obtain ⟨i1, i2, i3, i4, i5, i6, i7⟩ := hit
                                 rw [i1, i2, i3, i4, i5, i6, i7]
                                 exact Or.inl ⟨rfl, rfl, by rw [c9.2.2.1, b9.2.2.1, a9.2.2.1], rfl, rfl, rfl, hz67.1 (by omega)⟩)
                            · first
                              | (exfalso; omega)
                              | (rw [pn_no c9.2, q143_0]; exact Or.inr ⟨rfl, rfl⟩))
                       · first
                         | (exfalso; omega)
                         | (rw [pn_no b9.2, pn_bad, q132_0]; exact Or.inr ⟨rfl, rfl⟩))
                  · first
                    | (exfalso; omega)
                    | (rw [pn_no a9.2, pn_bad, pn_bad, q121_0]; exact Or.inr ⟨rfl, rfl⟩)
          by_cases c83_3 : z5 = 116
          · skip
            refine ri_to c83_3 ?_
            refine lv_lookup (tgt := 190) hx hb dX8_takesItem_83 (by decide) (off := 107) (by rw [xi_to ⟨by omega, by omega⟩]; rfl) (by decide) ?_
            refine lv_aload_n hx hb dX8_takesItem_190 rfl (lv_at hl 2 rfl) ?_
            refine lv_iconst (v := Int32.ofInt 5) hx hb dX8_takesItem_191 rfl ?_
            refine lv_iconst (v := Int32.ofInt 0) hx hb dX8_takesItem_192 rfl ?_
            refine lv_bipush (v := Int32.ofInt 9) hx hb dX8_takesItem_193 (by decide) ?_
            refine zc_VI (As := [vI 5, vI 0, vI 9]) (rest := []) (wc := [(hm, oB 8 [.ref m0, vI un, .ref m2, .ref m3, vI mo, vI oft, vI la, vI du, .ref m8, .ref m9, vI to, .ref m11, .ref m12, vJ tr, .ref m14, vI n, vI z78, vI sa, vI vv, .ref m19, vI rdu, .ref m21, .ref m22, vI z68, vI its, .ref m25, .ref m26, vJ lt0]), (m14, aI ca 200 t), (m19, aI ca 6 rd)]) (wr := [(m21, aI ca 6 rN), (m22, aI ca 6 rW)]) (k_X8_takes l g ca hm m0 m2 m3 m8 m9 m11 m12 m14 m19 m21 m22 m25 m26 un mo oft la du to tr n z78 sa vv rdu z68 its lt0 t rd 5 0 9 (by first | assumption | omega) (by first | assumption | omega) (by first | assumption | omega) (by first | assumption | omega)) dX8_takesItem_195 (cwV 3 hts gX8_takesItem_X8_takes rfl rfl rfl (by decide +kernel) (by rw [hR]; exact ⟨Nat.le_of_ble_eq_true rfl, Nat.le_of_ble_eq_true rfl⟩)) ⟨hx, hb, hml, hown, hts⟩ hl.1 hK hP hD hS hA 0 rfl rfl rfl [0, 1, 2] [3, 4] rfl (by decide) rfl (by decide) (by decide) rfl rfl (Nat.le_of_ble_eq_true rfl) (by rw [hR]; exact ⟨Nat.le_of_ble_eq_true rfl, Nat.le_of_ble_eq_true rfl⟩) (fun z195 u H locs q195 hP hD hS => ?_)
            obtain ⟨at1_195, sa1_195, vv1_195, rd1_195⟩ := u
            have q195 : sa1_195 = skp t n z78 ∧ (z78 ≤ at1_195 ∧ at1_195 ≤ n) ∧ ((z195 = 1 ∧ numOK t n (skp t n z78) 0 9 ∧ rd1_195 = zu rd 5 (vl t n (skp t n z78)) ∧ nx t n (skp t n z78) = skp t n at1_195) ∨ (z195 = 0 ∧ ¬ numOK t n (skp t n z78) 0 9)) := q195
            obtain ⟨q195_0, q195_1, q195_2⟩ := q195
            have hP : va_P g vwCl [(hm, oB 8 [.ref m0, vI un, .ref m2, .ref m3, vI mo, vI oft, vI la, vI du, .ref m8, .ref m9, vI to, .ref m11, .ref m12, vJ tr, .ref m14, vI n, vI at1_195, vI sa1_195, vI vv1_195, .ref m19, vI rdu, .ref m21, .ref m22, vI z68, vI its, .ref m25, .ref m26, vJ lt0]), (m14, aI ca 200 t), (m19, aI ca 6 rd1_195), (m21, aI ca 6 rN), (m22, aI ca 6 rW)] H := hP.sub [2, 3, 4, 0, 1] rfl
            have hD : va_D A [(hm, oB 8 [.ref m0, vI un, .ref m2, .ref m3, vI mo, vI oft, vI la, vI du, .ref m8, .ref m9, vI to, .ref m11, .ref m12, vJ tr, .ref m14, vI n, vI at1_195, vI sa1_195, vI vv1_195, .ref m19, vI rdu, .ref m21, .ref m22, vI z68, vI its, .ref m25, .ref m26, vJ lt0]), (m14, aI ca 200 t), (m19, aI ca 6 rd1_195), (m21, aI ca 6 rN), (m22, aI ca 6 rW)] := hD.sub [2, 3, 4, 0, 1] (by decide) rfl
            refine zr_Z hx hb hr hlk hQ (at1_195, sa1_195, vv1_195, rdu, z68, rd1_195, rN, rW) hP hD hS dX8_takesItem_198 (Nat.le_of_ble_eq_true rfl) (Nat.le_of_ble_eq_true rfl) (show z195 = 0 ∨ z195 = 1 from by omega) ?_
            show (at0 ≤ at1_195 ∧ at1_195 ≤ n) ∧ ((z195 = 1 ∧ itc t n at0 sr sl st0 rdu = (0, skp t n at1_195) ∧ rd1_195 = itr t n at0 sr sl st0 rd ∧ rdu = itu t n at0 rdu ∧ rN = itn t n at0 rdu rN ∧ rW = itw t n at0 rdu rW ∧ z68 = fl t n at0 114 sr + 2 * fl t n at0 108 sl + 4 * fl t n at0 116 st0) ∨ (z195 = 0 ∧ itc t n at0 sr sl st0 rdu = (1, sa1_195)))
            refine ⟨by omega, ?_⟩
            rw [itc_t hat.2 (by omega)]
            have hst0 : st0 = 0 := by omega
            rw [if_pos hst0]
            have hit := it_t (n := n) (sr := sr) (sl := sl) (st := st0) (du := rdu) (rd := rd) (dn := rN) (dw := rW) hat.2 (show t at0 = 116 by omega) hst0
            rw [e78] at q195_0 q195_2
            rcases q195_2 with a9 | a9
            · rw [pn_ok a9.2.1, a9.2.2.2]
              obtain ⟨i1, i2, i3, i4, i5, i6, i7⟩ := hit
              rw [i1, i2, i3, i4, i5, i6, i7]
              exact Or.inl ⟨a9.1, rfl, a9.2.2.1, rfl, rfl, rfl, hz67.2.2.1 (by omega)⟩
            · rw [pn_no a9.2, q195_0]
              exact Or.inr ⟨a9.1, rfl⟩
          refine lv_lookup (tgt := 199) hx hb dX8_takesItem_83 (by decide) (off := 116) (zlk_3 (by rw [xi_to ⟨by omega, by omega⟩]; omega) (by rw [xi_to ⟨by omega, by omega⟩]; omega) (by rw [xi_to ⟨by omega, by omega⟩]; omega)) (by decide) ?_
          refine lv_aload_n hx hb dX8_takesItem_199 rfl (lv_at hl 2 rfl) ?_
          refine zc_VI (As := []) (rest := []) (wc := [(hm, oB 8 [.ref m0, vI un, .ref m2, .ref m3, vI mo, vI oft, vI la, vI du, .ref m8, .ref m9, vI to, .ref m11, .ref m12, vJ tr, .ref m14, vI n, vI z78, vI sa, vI vv, .ref m19, vI rdu, .ref m21, .ref m22, vI z68, vI its, .ref m25, .ref m26, vJ lt0]), (m14, aI ca 200 t), (m21, aI ca 6 rN), (m22, aI ca 6 rW)]) (wr := [(m19, aI ca 6 rd)]) (k_X8_takesDue l g ca hm m0 m2 m3 m8 m9 m11 m12 m14 m19 m21 m22 m25 m26 un mo oft la du to tr n z78 sa vv rdu z68 its lt0 t rN rW (by first | assumption | omega) (by first | assumption | omega) (by first | assumption | omega)) dX8_takesItem_200 (cwV 0 hts gX8_takesItem_X8_takesDue rfl rfl rfl (by decide +kernel) (by rw [hR]; exact ⟨Nat.le_of_ble_eq_true rfl, Nat.le_of_ble_eq_true rfl⟩)) ⟨hx, hb, hml, hown, hts⟩ hl.1 hK hP hD hS hA 0 rfl rfl rfl [0, 1, 3, 4] [2] rfl (by decide) rfl (by decide) (by decide) rfl rfl (Nat.le_of_ble_eq_true rfl) (by rw [hR]; exact ⟨Nat.le_of_ble_eq_true rfl, Nat.le_of_ble_eq_true rfl⟩) (fun z200 u H locs q200 hP hD hS => ?_)
          obtain ⟨at1_200, sa1_200, vv1_200, rdu1_200, rN1_200, rW1_200⟩ := u
          have q200 : (z78 ≤ at1_200 ∧ at1_200 ≤ n) ∧ ((z200 = 1 ∧ rdu < 6 ∧ numOK t n (skp t n z78) 1 120 ∧ numOK t n (nx t n (skp t n z78)) 1 200 ∧ nx t n (nx t n (skp t n z78)) = skp t n at1_200 ∧ rdu1_200 = rdu + 1 ∧ rN1_200 = zu rN rdu (vl t n (skp t n z78)) ∧ rW1_200 = zu rW rdu (vl t n (nx t n (skp t n z78)))) ∨ (z200 = 0 ∧ ((rdu = 6 ∧ sa1_200 = sa) ∨ (rdu < 6 ∧ ¬ numOK t n (skp t n z78) 1 120 ∧ sa1_200 = skp t n z78) ∨ (rdu < 6 ∧ numOK t n (skp t n z78) 1 120 ∧ ¬ numOK t n (nx t n (skp t n z78)) 1 200 ∧ sa1_200 = nx t n (skp t n z78))))) := q200
          obtain ⟨q200_0, q200_1⟩ := q200
          have hP : va_P g vwCl [(hm, oB 8 [.ref m0, vI un, .ref m2, .ref m3, vI mo, vI oft, vI la, vI du, .ref m8, .ref m9, vI to, .ref m11, .ref m12, vJ tr, .ref m14, vI n, vI at1_200, vI sa1_200, vI vv1_200, .ref m19, vI rdu1_200, .ref m21, .ref m22, vI z68, vI its, .ref m25, .ref m26, vJ lt0]), (m14, aI ca 200 t), (m19, aI ca 6 rd), (m21, aI ca 6 rN1_200), (m22, aI ca 6 rW1_200)] H := hP.sub [1, 2, 0, 3, 4] rfl
          have hD : va_D A [(hm, oB 8 [.ref m0, vI un, .ref m2, .ref m3, vI mo, vI oft, vI la, vI du, .ref m8, .ref m9, vI to, .ref m11, .ref m12, vJ tr, .ref m14, vI n, vI at1_200, vI sa1_200, vI vv1_200, .ref m19, vI rdu1_200, .ref m21, .ref m22, vI z68, vI its, .ref m25, .ref m26, vJ lt0]), (m14, aI ca 200 t), (m19, aI ca 6 rd), (m21, aI ca 6 rN1_200), (m22, aI ca 6 rW1_200)] := hD.sub [1, 2, 0, 3, 4] (by decide) rfl
          refine zr_Z hx hb hr hlk hQ (at1_200, sa1_200, vv1_200, rdu1_200, z68, rd, rN1_200, rW1_200) hP hD hS dX8_takesItem_203 (Nat.le_of_ble_eq_true rfl) (Nat.le_of_ble_eq_true rfl) (show z200 = 0 ∨ z200 = 1 from by omega) ?_
          show (at0 ≤ at1_200 ∧ at1_200 ≤ n) ∧ ((z200 = 1 ∧ itc t n at0 sr sl st0 rdu = (0, skp t n at1_200) ∧ rd = itr t n at0 sr sl st0 rd ∧ rdu1_200 = itu t n at0 rdu ∧ rN1_200 = itn t n at0 rdu rN ∧ rW1_200 = itw t n at0 rdu rW ∧ z68 = fl t n at0 114 sr + 2 * fl t n at0 108 sl + 4 * fl t n at0 116 st0) ∨ (z200 = 0 ∧ itc t n at0 sr sl st0 rdu = (1, sa1_200)))
          refine ⟨by omega, ?_⟩
          rw [itc_p hat.2 (by omega)]
          rw [e78] at q200_1
          rcases q200_1 with a9 | a9
          · have hit := it_p (n := n) (sr := sr) (sl := sl) (st := st0) (du := rdu) (rd := rd) (dn := rN) (dw := rW) hat.2 (show t at0 = 112 by omega) a9.2.1
            obtain ⟨g1, g2, g3, g4, g5, g6, g7, g8⟩ := a9
            rw [if_pos g2, pn_ok g3, pn_ok g4, g5]
            rw [pn_ok g3] at hit
            obtain ⟨i1, i2, i3, i4, i5, i6, i7⟩ := hit
            rw [i1, i2, i3, i4, i5, i6, i7]
            exact Or.inl ⟨g1, rfl, rfl, g6, g7, g8, hz67.2.2.2 (by omega)⟩
          · obtain ⟨g1, g2⟩ := a9
            rcases g2 with g2 | g2 | g2
            · rw [if_neg (by omega), g2.2, hsa]; exact Or.inr ⟨g1, rfl⟩
            · rw [if_pos g2.1, pn_no g2.2.1, pn_bad, g2.2.2]; exact Or.inr ⟨g1, rfl⟩
            · rw [if_pos g2.1, pn_ok g2.2.1, pn_no g2.2.2.1, g2.2.2.2]; exact Or.inr ⟨g1, rfl⟩
        · skip
          refine lv_iconst (v := Int32.ofInt 0) hx hb dX8_takesItem_60 rfl ?_
          refine zr_Z hx hb hr hlk hQ (at0, sa, vv, rdu, se, rd, rN, rW) hP hD hS dX8_takesItem_61 (Nat.le_of_ble_eq_true rfl) (Nat.le_of_ble_eq_true rfl) (Or.inl rfl) ?_
          show (at0 ≤ at0 ∧ at0 ≤ n) ∧ ((0 = 1 ∧ itc t n at0 sr sl st0 rdu = (0, skp t n at0) ∧ rd = itr t n at0 sr sl st0 rd ∧ rdu = itu t n at0 rdu ∧ rN = itn t n at0 rdu rN ∧ rW = itw t n at0 rdu rW ∧ se = fl t n at0 114 sr + 2 * fl t n at0 108 sl + 4 * fl t n at0 116 st0) ∨ (0 = 0 ∧ itc t n at0 sr sl st0 rdu = (1, sa)))
          refine ⟨by omega, Or.inr ⟨rfl, ?_⟩⟩
          rw [hsa]
          by_cases h1 : t at0 = 114
          · rw [itc_r hat.2 h1, if_neg (by omega)]
          · by_cases h2 : t at0 = 108
            · rw [itc_l hat.2 h2, if_neg (by omega)]
            · by_cases h3 : t at0 = 116
              · rw [itc_t hat.2 h3, if_neg (by omega)]
              · exact itc_x hat.2 (by omega)
      · exact absurd c42_ (by decide)
  · skip
    refine lv_iconst (v := Int32.ofInt 1) hx hb dX8_takesItem_15 rfl ?_
    refine lv_goto (tgt := 40) hx hb dX8_takesItem_16 (by decide) ?_
    refine lv_istore_n (lv' := [(2, vI 1), (1, vI z5), (0, .ref hm)]) hx hb dX8_takesItem_40 rfl hl (by decide) rfl (fun ls hl => ?_)
    refine lv_iload_n hx hb dX8_takesItem_41 rfl (lv_at hl 0 rfl) ?_
    refine ri_if_ne (tgt := 51) hx hb dX8_takesItem_42 (by decide) ⟨by omega, by omega⟩ (fun c42_ => ?_) (fun c42_ => ?_)
    · skip
      refine lv_aload_n hx hb dX8_takesItem_51 rfl (lv_at hl 2 rfl) ?_
      refine va_get (D := g) (ci := 8) (v := vI se) (C := RX8) (T := TX8) (N := 28) hx hb hts inF_X8 hown hK.1 hP 0 rfl rfl 23 (by decide) lk_f61 (fun _ h9 => h9) rfl dX8_takesItem_52 ?_
      refine lv_iload_n hx hb dX8_takesItem_55 rfl (lv_at hl 0 rfl) ?_
      refine ri_and hx hb dX8_takesItem_56 ⟨by omega, by omega⟩ (by omega) (fun z56 e56 => ?_)
      have hz56 : (t at0 = 114 → z56 = sr) ∧ (t at0 = 108 → z56 = 2 * sl) ∧ (t at0 = 116 → z56 = 4 * st0) ∧ (t at0 = 112 → z56 = 0) := by
        refine ⟨fun q => ?_, fun q => ?_, fun q => ?_, fun q => ?_⟩
        · first | (exfalso; omega) | (rw [e56]; exact hand.1)
        · first | (exfalso; omega) | (rw [e56]; exact hand.2.1)
        · first | (exfalso; omega) | (rw [e56]; exact hand.2.2.1)
        · first | (exfalso; omega) | (rw [e56]; exact hand.2.2.2)
      refine ri_if_eq (tgt := 62) hx hb dX8_takesItem_57 (by decide) ⟨by omega, by omega⟩ (fun c57 => ?_) (fun c57 => ?_)
      · skip
        refine lv_aload_n hx hb dX8_takesItem_62 rfl (lv_at hl 2 rfl) ?_
        refine lv_dup hx hb dX8_takesItem_63 rfl ?_
        refine va_get (D := g) (ci := 8) (v := vI se) (C := RX8) (T := TX8) (N := 28) hx hb hts inF_X8 hown hK.1 hP 0 rfl rfl 23 (by decide) lk_f61 (fun _ h9 => h9) rfl dX8_takesItem_64 ?_
        refine lv_iload_n hx hb dX8_takesItem_67 rfl (lv_at hl 0 rfl) ?_
        refine ri_or hx hb dX8_takesItem_68 ⟨by omega, by omega⟩ (by omega) (fun z68 e68 => ?_)
        refine va_put (D := g) (ci := 8) (v := vI z68) (ty := .int) (C := RX8) (T := TX8) (N := 28) hx hb hts inF_X8 tyX8 tyX8_ok nmX8 hown hK.1 hP hD hS 0 rfl rfl 23 (by decide) lk_f61 (fun _ h9 => h9) rfl (by decide +kernel) rfl rfl (Nat.le_of_ble_eq_true rfl) dX8_takesItem_69 (fun H locs hP hD hS => ?_)
        have hP : va_P g vwCl [(hm, oB 8 [.ref m0, vI un, .ref m2, .ref m3, vI mo, vI oft, vI la, vI du, .ref m8, .ref m9, vI to, .ref m11, .ref m12, vJ tr, .ref m14, vI n, vI at0, vI sa, vI vv, .ref m19, vI rdu, .ref m21, .ref m22, vI z68, vI its, .ref m25, .ref m26, vJ lt0]), (m14, aI ca 200 t), (m19, aI ca 6 rd), (m21, aI ca 6 rN), (m22, aI ca 6 rW)] H := hP
        have hD : va_D A [(hm, oB 8 [.ref m0, vI un, .ref m2, .ref m3, vI mo, vI oft, vI la, vI du, .ref m8, .ref m9, vI to, .ref m11, .ref m12, vJ tr, .ref m14, vI n, vI at0, vI sa, vI vv, .ref m19, vI rdu, .ref m21, .ref m22, vI z68, vI its, .ref m25, .ref m26, vJ lt0]), (m14, aI ca 200 t), (m19, aI ca 6 rd), (m21, aI ca 6 rN), (m22, aI ca 6 rW)] := hD
        have hz67 : (t at0 = 114 → z68 = 1 + 2 * sl + 4 * st0) ∧ (t at0 = 108 → z68 = sr + 2 * 1 + 4 * st0) ∧ (t at0 = 116 → z68 = sr + 2 * sl + 4 * 1) ∧ (t at0 = 112 → z68 = sr + 2 * sl + 4 * st0) := by
          refine ⟨fun q => ?_, fun q => ?_, fun q => ?_, fun q => ?_⟩
          · first | (exfalso; omega) | (rw [e68]; exact hor.1)
          · first | (exfalso; omega) | (rw [e68]; exact hor.2.1)
          · first | (exfalso; omega) | (rw [e68]; exact hor.2.2.1)
          · first | (exfalso; omega) | (rw [e68, hor.2.2.2]; exact hse)
        refine lv_aload_n hx hb dX8_takesItem_72 rfl (lv_at hl 2 rfl) ?_
        refine lv_dup hx hb dX8_takesItem_73 rfl ?_
        refine va_get (D := g) (ci := 8) (v := vI at0) (C := RX8) (T := TX8) (N := 28) hx hb hts inF_X8 hown hK.1 hP 0 rfl rfl 16 (by decide) lk_f98 (fun _ h9 => h9) rfl dX8_takesItem_74 ?_
        refine lv_iconst (v := Int32.ofInt 1) hx hb dX8_takesItem_77 rfl ?_
        refine ri_add hx hb dX8_takesItem_78 (fun z78 e78 => ?_)
        refine va_put (D := g) (ci := 8) (v := vI z78) (ty := .int) (C := RX8) (T := TX8) (N := 28) hx hb hts inF_X8 tyX8 tyX8_ok nmX8 hown hK.1 hP hD hS 0 rfl rfl 16 (by decide) lk_f98 (fun _ h9 => h9) rfl (by decide +kernel) rfl rfl (Nat.le_of_ble_eq_true rfl) dX8_takesItem_79 (fun H locs hP hD hS => ?_)
        have hP : va_P g vwCl [(hm, oB 8 [.ref m0, vI un, .ref m2, .ref m3, vI mo, vI oft, vI la, vI du, .ref m8, .ref m9, vI to, .ref m11, .ref m12, vJ tr, .ref m14, vI n, vI z78, vI sa, vI vv, .ref m19, vI rdu, .ref m21, .ref m22, vI z68, vI its, .ref m25, .ref m26, vJ lt0]), (m14, aI ca 200 t), (m19, aI ca 6 rd), (m21, aI ca 6 rN), (m22, aI ca 6 rW)] H := hP
        have hD : va_D A [(hm, oB 8 [.ref m0, vI un, .ref m2, .ref m3, vI mo, vI oft, vI la, vI du, .ref m8, .ref m9, vI to, .ref m11, .ref m12, vJ tr, .ref m14, vI n, vI z78, vI sa, vI vv, .ref m19, vI rdu, .ref m21, .ref m22, vI z68, vI its, .ref m25, .ref m26, vJ lt0]), (m14, aI ca 200 t), (m19, aI ca 6 rd), (m21, aI ca 6 rN), (m22, aI ca 6 rW)] := hD
        refine lv_iload_n hx hb dX8_takesItem_82 rfl (lv_at hl 1 rfl) ?_
        by_cases c83 : z5 = 108
        · skip
          refine ri_to c83 ?_
          refine lv_lookup (tgt := 155) hx hb dX8_takesItem_83 (by decide) (off := 72) (by rw [xi_to ⟨by omega, by omega⟩]; rfl) (by decide) ?_
          refine lv_aload_n hx hb dX8_takesItem_155 rfl (lv_at hl 2 rfl) ?_
          refine lv_iconst (v := Int32.ofInt 3) hx hb dX8_takesItem_156 rfl ?_
          refine lv_iconst (v := Int32.ofInt 1) hx hb dX8_takesItem_157 rfl ?_
          refine lv_bipush (v := Int32.ofInt 8) hx hb dX8_takesItem_158 (by decide) ?_
          refine zc_VI (As := [vI 3, vI 1, vI 8]) (rest := []) (wc := [(hm, oB 8 [.ref m0, vI un, .ref m2, .ref m3, vI mo, vI oft, vI la, vI du, .ref m8, .ref m9, vI to, .ref m11, .ref m12, vJ tr, .ref m14, vI n, vI z78, vI sa, vI vv, .ref m19, vI rdu, .ref m21, .ref m22, vI z68, vI its, .ref m25, .ref m26, vJ lt0]), (m14, aI ca 200 t), (m19, aI ca 6 rd)]) (wr := [(m21, aI ca 6 rN), (m22, aI ca 6 rW)]) (k_X8_takes l g ca hm m0 m2 m3 m8 m9 m11 m12 m14 m19 m21 m22 m25 m26 un mo oft la du to tr n z78 sa vv rdu z68 its lt0 t rd 3 1 8 (by first | assumption | omega) (by first | assumption | omega) (by first | assumption | omega) (by first | assumption | omega)) dX8_takesItem_160 (cwV 3 hts gX8_takesItem_X8_takes rfl rfl rfl (by decide +kernel) (by rw [hR]; exact ⟨Nat.le_of_ble_eq_true rfl, Nat.le_of_ble_eq_true rfl⟩)) ⟨hx, hb, hml, hown, hts⟩ hl.1 hK hP hD hS hA 0 rfl rfl rfl [0, 1, 2] [3, 4] rfl (by decide) rfl (by decide) (by decide) rfl rfl (Nat.le_of_ble_eq_true rfl) (by rw [hR]; exact ⟨Nat.le_of_ble_eq_true rfl, Nat.le_of_ble_eq_true rfl⟩) (fun z160 u H locs q160 hP hD hS => ?_)
          obtain ⟨at1_160, sa1_160, vv1_160, rd1_160⟩ := u
          have q160 : sa1_160 = skp t n z78 ∧ (z78 ≤ at1_160 ∧ at1_160 ≤ n) ∧ ((z160 = 1 ∧ numOK t n (skp t n z78) 1 8 ∧ rd1_160 = zu rd 3 (vl t n (skp t n z78)) ∧ nx t n (skp t n z78) = skp t n at1_160) ∨ (z160 = 0 ∧ ¬ numOK t n (skp t n z78) 1 8)) := q160
          obtain ⟨q160_0, q160_1, q160_2⟩ := q160
          have hP : va_P g vwCl [(hm, oB 8 [.ref m0, vI un, .ref m2, .ref m3, vI mo, vI oft, vI la, vI du, .ref m8, .ref m9, vI to, .ref m11, .ref m12, vJ tr, .ref m14, vI n, vI at1_160, vI sa1_160, vI vv1_160, .ref m19, vI rdu, .ref m21, .ref m22, vI z68, vI its, .ref m25, .ref m26, vJ lt0]), (m14, aI ca 200 t), (m19, aI ca 6 rd1_160), (m21, aI ca 6 rN), (m22, aI ca 6 rW)] H := hP.sub [2, 3, 4, 0, 1] rfl
          have hD : va_D A [(hm, oB 8 [.ref m0, vI un, .ref m2, .ref m3, vI mo, vI oft, vI la, vI du, .ref m8, .ref m9, vI to, .ref m11, .ref m12, vJ tr, .ref m14, vI n, vI at1_160, vI sa1_160, vI vv1_160, .ref m19, vI rdu, .ref m21, .ref m22, vI z68, vI its, .ref m25, .ref m26, vJ lt0]), (m14, aI ca 200 t), (m19, aI ca 6 rd1_160), (m21, aI ca 6 rN), (m22, aI ca 6 rW)] := hD.sub [2, 3, 4, 0, 1] (by decide) rfl
          refine ri_if_eq (tgt := 188) hx hb dX8_takesItem_163 (by decide) ⟨by omega, by omega⟩ (fun c163 => ?_) (fun c163 => ?_)
          · skip
            refine lv_iconst (v := Int32.ofInt 0) hx hb dX8_takesItem_188 rfl ?_
            refine zr_Z hx hb hr hlk hQ (at1_160, sa1_160, vv1_160, rdu, z68, rd1_160, rN, rW) hP hD hS dX8_takesItem_189 (Nat.le_of_ble_eq_true rfl) (Nat.le_of_ble_eq_true rfl) (Or.inl rfl) ?_
            show (at0 ≤ at1_160 ∧ at1_160 ≤ n) ∧ ((0 = 1 ∧ itc t n at0 sr sl st0 rdu = (0, skp t n at1_160) ∧ rd1_160 = itr t n at0 sr sl st0 rd ∧ rdu = itu t n at0 rdu ∧ rN = itn t n at0 rdu rN ∧ rW = itw t n at0 rdu rW ∧ z68 = fl t n at0 114 sr + 2 * fl t n at0 108 sl + 4 * fl t n at0 116 st0) ∨ (0 = 0 ∧ itc t n at0 sr sl st0 rdu = (1, sa1_160)))
            refine ⟨by omega, ?_⟩
            rw [itc_l hat.2 (by omega)]
            have hsl : sl = 0 := by omega
            rw [if_pos hsl]
            have hit := it_l (n := n) (sr := sr) (sl := sl) (st := st0) (du := rdu) (rd := rd) (dn := rN) (dw := rW) hat.2 (show t at0 = 108 by omega) hsl
            rw [e78] at q160_0 q160_2
            rcases q160_2 with a9 | a9
            · first
              | (exfalso; omega)
              | (rw [pn_ok a9.2.1, a9.2.2.2]
                 rw [pn_ok a9.2.1, a9.2.2.2] at hit
                 rw [e175, hr178, e78] at q178_2
                 rcases q178_2 with b9 | b9
                 · first
                   | (exfalso; omega)
                   | (rw [pn_ok b9.2.1, b9.2.2.2]
                      obtain ⟨i1, i2, i3, i4, i5, i6, i7⟩ := hit
                      rw [i1, i2, i3, i4, i5, i6, i7]
                      exact Or.inl ⟨rfl, rfl, by rw [b9.2.2.1, a9.2.2.1], rfl, rfl, rfl, hz67.2.1 (by omega)⟩)
                 · first
                   | (exfalso; omega)
                   | (rw [pn_no b9.2, q178_0]; exact Or.inr ⟨rfl, rfl⟩))
            · first
              | (exfalso; omega)
              | (rw [pn_no a9.2, pn_bad, q160_0]; exact Or.inr ⟨rfl, rfl⟩)
          · skip
            refine lv_aload_n hx hb dX8_takesItem_166 rfl (lv_at hl 2 rfl) ?_
            refine lv_iconst (v := Int32.ofInt 4) hx hb dX8_takesItem_167 rfl ?_
            refine lv_aload_n hx hb dX8_takesItem_168 rfl (lv_at hl 2 rfl) ?_
            refine va_get (D := g) (ci := 8) (v := .ref m19) (C := RX8) (T := TX8) (N := 28) hx hb hts inF_X8 hown hK.1 hP 0 rfl rfl 19 (by decide) lk_f36 (fun _ h9 => h9) rfl dX8_takesItem_169 ?_
            refine lv_iconst (v := Int32.ofInt 3) hx hb dX8_takesItem_172 rfl ?_
            refine ra_ild hx hb hK hP 2 rfl dX8_takesItem_173 ⟨by omega, by omega⟩ (by omega) ?_
            refine lv_iconst (v := Int32.ofInt 1) hx hb dX8_takesItem_174 rfl ?_
            have hv178 := vl_bd t n (skp t n z78)
            have hr178 : rd1_160 3 = vl t n (skp t n z78) := by
              rcases q160_2 with q9 | q9
              · rw [q9.2.2.1, zu_s]
              · omega
            refine ri_add hx hb dX8_takesItem_175 (fun z175 e175 => ?_)
            refine lv_bipush (v := Int32.ofInt 9) hx hb dX8_takesItem_176 (by decide) ?_
            refine zc_VI (As := [vI 4, vI z175, vI 9]) (rest := []) (wc := [(hm, oB 8 [.ref m0, vI un, .ref m2, .ref m3, vI mo, vI oft, vI la, vI du, .ref m8, .ref m9, vI to, .ref m11, .ref m12, vJ tr, .ref m14, vI n, vI at1_160, vI sa1_160, vI vv1_160, .ref m19, vI rdu, .ref m21, .ref m22, vI z68, vI its, .ref m25, .ref m26, vJ lt0]), (m14, aI ca 200 t), (m19, aI ca 6 rd1_160)]) (wr := [(m21, aI ca 6 rN), (m22, aI ca 6 rW)]) (k_X8_takes l g ca hm m0 m2 m3 m8 m9 m11 m12 m14 m19 m21 m22 m25 m26 un mo oft la du to tr n at1_160 sa1_160 vv1_160 rdu z68 its lt0 t rd1_160 4 z175 9 (by first | assumption | omega) (by first | assumption | omega) (by first | assumption | omega) (by first | assumption | omega)) dX8_takesItem_178 (cwV 3 hts gX8_takesItem_X8_takes rfl rfl rfl (by decide +kernel) (by rw [hR]; exact ⟨Nat.le_of_ble_eq_true rfl, Nat.le_of_ble_eq_true rfl⟩)) ⟨hx, hb, hml, hown, hts⟩ hl.1 hK hP hD hS hA 0 rfl rfl rfl [0, 1, 2] [3, 4] rfl (by decide) rfl (by decide) (by decide) rfl rfl (Nat.le_of_ble_eq_true rfl) (by rw [hR]; exact ⟨Nat.le_of_ble_eq_true rfl, Nat.le_of_ble_eq_true rfl⟩) (fun z178 u H locs q178 hP hD hS => ?_)
            obtain ⟨at1_178, sa1_178, vv1_178, rd1_178⟩ := u
            have q178 : sa1_178 = skp t n at1_160 ∧ (at1_160 ≤ at1_178 ∧ at1_178 ≤ n) ∧ ((z178 = 1 ∧ numOK t n (skp t n at1_160) z175 9 ∧ rd1_178 = zu rd1_160 4 (vl t n (skp t n at1_160)) ∧ nx t n (skp t n at1_160) = skp t n at1_178) ∨ (z178 = 0 ∧ ¬ numOK t n (skp t n at1_160) z175 9)) := q178
            obtain ⟨q178_0, q178_1, q178_2⟩ := q178
            have hP : va_P g vwCl [(hm, oB 8 [.ref m0, vI un, .ref m2, .ref m3, vI mo, vI oft, vI la, vI du, .ref m8, .ref m9, vI to, .ref m11, .ref m12, vJ tr, .ref m14, vI n, vI at1_178, vI sa1_178, vI vv1_178, .ref m19, vI rdu, .ref m21, .ref m22, vI z68, vI its, .ref m25, .ref m26, vJ lt0]), (m14, aI ca 200 t), (m19, aI ca 6 rd1_178), (m21, aI ca 6 rN), (m22, aI ca 6 rW)] H := hP.sub [2, 3, 4, 0, 1] rfl
            have hD : va_D A [(hm, oB 8 [.ref m0, vI un, .ref m2, .ref m3, vI mo, vI oft, vI la, vI du, .ref m8, .ref m9, vI to, .ref m11, .ref m12, vJ tr, .ref m14, vI n, vI at1_178, vI sa1_178, vI vv1_178, .ref m19, vI rdu, .ref m21, .ref m22, vI z68, vI its, .ref m25, .ref m26, vJ lt0]), (m14, aI ca 200 t), (m19, aI ca 6 rd1_178), (m21, aI ca 6 rN), (m22, aI ca 6 rW)] := hD.sub [2, 3, 4, 0, 1] (by decide) rfl
            refine ri_if_eq (tgt := 188) hx hb dX8_takesItem_181 (by decide) ⟨by omega, by omega⟩ (fun c181 => ?_) (fun c181 => ?_)
            · skip
              refine lv_iconst (v := Int32.ofInt 0) hx hb dX8_takesItem_188 rfl ?_
              refine zr_Z hx hb hr hlk hQ (at1_178, sa1_178, vv1_178, rdu, z68, rd1_178, rN, rW) hP hD hS dX8_takesItem_189 (Nat.le_of_ble_eq_true rfl) (Nat.le_of_ble_eq_true rfl) (Or.inl rfl) ?_
              show (at0 ≤ at1_178 ∧ at1_178 ≤ n) ∧ ((0 = 1 ∧ itc t n at0 sr sl st0 rdu = (0, skp t n at1_178) ∧ rd1_178 = itr t n at0 sr sl st0 rd ∧ rdu = itu t n at0 rdu ∧ rN = itn t n at0 rdu rN ∧ rW = itw t n at0 rdu rW ∧ z68 = fl t n at0 114 sr + 2 * fl t n at0 108 sl + 4 * fl t n at0 116 st0) ∨ (0 = 0 ∧ itc t n at0 sr sl st0 rdu = (1, sa1_178)))
              refine ⟨by omega, ?_⟩
              rw [itc_l hat.2 (by omega)]
              have hsl : sl = 0 := by omega
              rw [if_pos hsl]
              have hit := it_l (n := n) (sr := sr) (sl := sl) (st := st0) (du := rdu) (rd := rd) (dn := rN) (dw := rW) hat.2 (show t at0 = 108 by omega) hsl
              rw [e78] at q160_0 q160_2
              rcases q160_2 with a9 | a9
              · first
                | (exfalso; omega)
                | (rw [pn_ok a9.2.1, a9.2.2.2]
                   rw [pn_ok a9.2.1, a9.2.2.2] at hit
                   rw [e175, hr178, e78] at q178_2
                   rcases q178_2 with b9 | b9
                   · first
                     | (exfalso; omega)
                     | (rw [pn_ok b9.2.1, b9.2.2.2]
                        obtain ⟨i1, i2, i3, i4, i5, i6, i7⟩ := hit
                        rw [i1, i2, i3, i4, i5, i6, i7]
                        exact Or.inl ⟨rfl, rfl, by rw [b9.2.2.1, a9.2.2.1], rfl, rfl, rfl, hz67.2.1 (by omega)⟩)
                   · first
                     | (exfalso; omega)
                     | (rw [pn_no b9.2, q178_0]; exact Or.inr ⟨rfl, rfl⟩))
              · first
                | (exfalso; omega)
                | (rw [pn_no a9.2, pn_bad, q160_0]; exact Or.inr ⟨rfl, rfl⟩)
            · skip
              refine lv_iconst (v := Int32.ofInt 1) hx hb dX8_takesItem_184 rfl ?_
              refine lv_goto (tgt := 189) hx hb dX8_takesItem_185 (by decide) ?_
              refine zr_Z hx hb hr hlk hQ (at1_178, sa1_178, vv1_178, rdu, z68, rd1_178, rN, rW) hP hD hS dX8_takesItem_189 (Nat.le_of_ble_eq_true rfl) (Nat.le_of_ble_eq_true rfl) (Or.inr rfl) ?_
              show (at0 ≤ at1_178 ∧ at1_178 ≤ n) ∧ ((1 = 1 ∧ itc t n at0 sr sl st0 rdu = (0, skp t n at1_178) ∧ rd1_178 = itr t n at0 sr sl st0 rd ∧ rdu = itu t n at0 rdu ∧ rN = itn t n at0 rdu rN ∧ rW = itw t n at0 rdu rW ∧ z68 = fl t n at0 114 sr + 2 * fl t n at0 108 sl + 4 * fl t n at0 116 st0) ∨ (1 = 0 ∧ itc t n at0 sr sl st0 rdu = (1, sa1_178)))
              refine ⟨by omega, ?_⟩
              rw [itc_l hat.2 (by omega)]
              have hsl : sl = 0 := by omega
              rw [if_pos hsl]
              have hit := it_l (n := n) (sr := sr) (sl := sl) (st := st0) (du := rdu) (rd := rd) (dn := rN) (dw := rW) hat.2 (show t at0 = 108 by omega) hsl
              rw [e78] at q160_0 q160_2
              rcases q160_2 with a9 | a9
              · first
                | (exfalso; omega)
                | (rw [pn_ok a9.2.1, a9.2.2.2]
                   rw [pn_ok a9.2.1, a9.2.2.2] at hit
                   rw [e175, hr178, e78] at q178_2
                   rcases q178_2 with b9 | b9
                   · first
                     | (exfalso; omega)
                     | (rw [pn_ok b9.2.1, b9.2.2.2]
                        obtain ⟨i1, i2, i3, i4, i5, i6, i7⟩ := hit
                        rw [i1, i2, i3, i4, i5, i6, i7]
                        exact Or.inl ⟨rfl, rfl, by rw [b9.2.2.1, a9.2.2.1], rfl, rfl, rfl, hz67.2.1 (by omega)⟩)
                   · first
                     | (exfalso; omega)
                     | (rw [pn_no b9.2, q178_0]; exact Or.inr ⟨rfl, rfl⟩))
              · first
                | (exfalso; omega)
                | (rw [pn_no a9.2, pn_bad, q160_0]; exact Or.inr ⟨rfl, rfl⟩)
        by_cases c83_2 : z5 = 114
        · skip
          refine ri_to c83_2 ?_
          refine lv_lookup (tgt := 116) hx hb dX8_takesItem_83 (by decide) (off := 33) (by rw [xi_to ⟨by omega, by omega⟩]; rfl) (by decide) ?_
          refine lv_aload_n hx hb dX8_takesItem_116 rfl (lv_at hl 2 rfl) ?_
          refine lv_iconst (v := Int32.ofInt 0) hx hb dX8_takesItem_117 rfl ?_
          refine lv_iconst (v := Int32.ofInt 1) hx hb dX8_takesItem_118 rfl ?_
          refine lv_bipush (v := Int32.ofInt 99) hx hb dX8_takesItem_119 (by decide) ?_
          refine zc_VI (As := [vI 0, vI 1, vI 99]) (rest := []) (wc := [(hm, oB 8 [.ref m0, vI un, .ref m2, .ref m3, vI mo, vI oft, vI la, vI du, .ref m8, .ref m9, vI to, .ref m11, .ref m12, vJ tr, .ref m14, vI n, vI z78, vI sa, vI vv, .ref m19, vI rdu, .ref m21, .ref m22, vI z68, vI its, .ref m25, .ref m26, vJ lt0]), (m14, aI ca 200 t), (m19, aI ca 6 rd)]) (wr := [(m21, aI ca 6 rN), (m22, aI ca 6 rW)]) (k_X8_takes l g ca hm m0 m2 m3 m8 m9 m11 m12 m14 m19 m21 m22 m25 m26 un mo oft la du to tr n z78 sa vv rdu z68 its lt0 t rd 0 1 99 (by first | assumption | omega) (by first | assumption | omega) (by first | assumption | omega) (by first | assumption | omega)) dX8_takesItem_121 (cwV 3 hts gX8_takesItem_X8_takes rfl rfl rfl (by decide +kernel) (by rw [hR]; exact ⟨Nat.le_of_ble_eq_true rfl, Nat.le_of_ble_eq_true rfl⟩)) ⟨hx, hb, hml, hown, hts⟩ hl.1 hK hP hD hS hA 0 rfl rfl rfl [0, 1, 2] [3, 4] rfl (by decide) rfl (by decide) (by decide) rfl rfl (Nat.le_of_ble_eq_true rfl) (by rw [hR]; exact ⟨Nat.le_of_ble_eq_true rfl, Nat.le_of_ble_eq_true rfl⟩) (fun z121 u H locs q121 hP hD hS => ?_)
          obtain ⟨at1_121, sa1_121, vv1_121, rd1_121⟩ := u
          have q121 : sa1_121 = skp t n z78 ∧ (z78 ≤ at1_121 ∧ at1_121 ≤ n) ∧ ((z121 = 1 ∧ numOK t n (skp t n z78) 1 99 ∧ rd1_121 = zu rd 0 (vl t n (skp t n z78)) ∧ nx t n (skp t n z78) = skp t n at1_121) ∨ (z121 = 0 ∧ ¬ numOK t n (skp t n z78) 1 99)) := q121
          obtain ⟨q121_0, q121_1, q121_2⟩ := q121
          have hP : va_P g vwCl [(hm, oB 8 [.ref m0, vI un, .ref m2, .ref m3, vI mo, vI oft, vI la, vI du, .ref m8, .ref m9, vI to, .ref m11, .ref m12, vJ tr, .ref m14, vI n, vI at1_121, vI sa1_121, vI vv1_121, .ref m19, vI rdu, .ref m21, .ref m22, vI z68, vI its, .ref m25, .ref m26, vJ lt0]), (m14, aI ca 200 t), (m19, aI ca 6 rd1_121), (m21, aI ca 6 rN), (m22, aI ca 6 rW)] H := hP.sub [2, 3, 4, 0, 1] rfl
          have hD : va_D A [(hm, oB 8 [.ref m0, vI un, .ref m2, .ref m3, vI mo, vI oft, vI la, vI du, .ref m8, .ref m9, vI to, .ref m11, .ref m12, vJ tr, .ref m14, vI n, vI at1_121, vI sa1_121, vI vv1_121, .ref m19, vI rdu, .ref m21, .ref m22, vI z68, vI its, .ref m25, .ref m26, vJ lt0]), (m14, aI ca 200 t), (m19, aI ca 6 rd1_121), (m21, aI ca 6 rN), (m22, aI ca 6 rW)] := hD.sub [2, 3, 4, 0, 1] (by decide) rfl
          refine ri_if_eq (tgt := 153) hx hb dX8_takesItem_124 (by decide) ⟨by omega, by omega⟩ (fun c124 => ?_) (fun c124 => ?_)
          · skip
            refine lv_iconst (v := Int32.ofInt 0) hx hb dX8_takesItem_153 rfl ?_
            refine zr_Z hx hb hr hlk hQ (at1_121, sa1_121, vv1_121, rdu, z68, rd1_121, rN, rW) hP hD hS dX8_takesItem_154 (Nat.le_of_ble_eq_true rfl) (Nat.le_of_ble_eq_true rfl) (Or.inl rfl) ?_
            show (at0 ≤ at1_121 ∧ at1_121 ≤ n) ∧ ((0 = 1 ∧ itc t n at0 sr sl st0 rdu = (0, skp t n at1_121) ∧ rd1_121 = itr t n at0 sr sl st0 rd ∧ rdu = itu t n at0 rdu ∧ rN = itn t n at0 rdu rN ∧ rW = itw t n at0 rdu rW ∧ z68 = fl t n at0 114 sr + 2 * fl t n at0 108 sl + 4 * fl t n at0 116 st0) ∨ (0 = 0 ∧ itc t n at0 sr sl st0 rdu = (1, sa1_121)))
            refine ⟨by omega, ?_⟩
            rw [itc_r hat.2 (by omega)]
            have hsr : sr = 0 := by omega
            rw [if_pos hsr]
            have hit := it_r (n := n) (sr := sr) (sl := sl) (st := st0) (du := rdu) (rd := rd) (dn := rN) (dw := rW) hat.2 (show t at0 = 114 by omega) hsr
            rw [e78] at q121_0 q121_2
            rcases q121_2 with a9 | a9
            · first
              | (exfalso; omega)
              | (rw [pn_ok a9.2.1, a9.2.2.2]
                 rw [pn_ok a9.2.1, a9.2.2.2] at hit
                 rcases q132_2 with b9 | b9
                 · first
                   | (exfalso; omega)
                   | (rw [pn_ok b9.2.1, b9.2.2.2]
                      rw [pn_ok b9.2.1, b9.2.2.2] at hit
                      rcases q143_2 with c9 | c9
                      · first
                        | (exfalso; omega)
                        | (rw [pn_ok c9.2.1, c9.2.2.2]
                           obtain ⟨i1, i2, i3, i4, i5, i6, i7⟩ := hit
                           rw [i1, i2, i3, i4, i5, i6, i7]
                           exact Or.inl ⟨rfl, rfl, by rw [c9.2.2.1, b9.2.2.1, a9.2.2.1], rfl, rfl, rfl, hz67.1 (by omega)⟩)
                      · first
                        | (exfalso; omega)
                        | (rw [pn_no c9.2, q143_0]; exact Or.inr ⟨rfl, rfl⟩))
                 · first
                   | (exfalso; omega)
                   | (rw [pn_no b9.2, pn_bad, q132_0]; exact Or.inr ⟨rfl, rfl⟩))
            · first
              | (exfalso; omega)
              | (rw [pn_no a9.2, pn_bad, pn_bad, q121_0]; exact Or.inr ⟨rfl, rfl⟩)
          · skip
            refine lv_aload_n hx hb dX8_takesItem_127 rfl (lv_at hl 2 rfl) ?_
            refine lv_iconst (v := Int32.ofInt 1) hx hb dX8_takesItem_128 rfl ?_
            refine lv_iconst (v := Int32.ofInt 1) hx hb dX8_takesItem_129 rfl ?_
            refine lv_bipush (v := Int32.ofInt 9) hx hb dX8_takesItem_130 (by decide) ?_
            refine zc_VI (As := [vI 1, vI 1, vI 9]) (rest := []) (wc := [(hm, oB 8 [.ref m0, vI un, .ref m2, .ref m3, vI mo, vI oft, vI la, vI du, .ref m8, .ref m9, vI to, .ref m11, .ref m12, vJ tr, .ref m14, vI n, vI at1_121, vI sa1_121, vI vv1_121, .ref m19, vI rdu, .ref m21, .ref m22, vI z68, vI its, .ref m25, .ref m26, vJ lt0]), (m14, aI ca 200 t), (m19, aI ca 6 rd1_121)]) (wr := [(m21, aI ca 6 rN), (m22, aI ca 6 rW)]) (k_X8_takes l g ca hm m0 m2 m3 m8 m9 m11 m12 m14 m19 m21 m22 m25 m26 un mo oft la du to tr n at1_121 sa1_121 vv1_121 rdu z68 its lt0 t rd1_121 1 1 9 (by first | assumption | omega) (by first | assumption | omega) (by first | assumption | omega) (by first | assumption | omega)) dX8_takesItem_132 (cwV 3 hts gX8_takesItem_X8_takes rfl rfl rfl (by decide +kernel) (by rw [hR]; exact ⟨Nat.le_of_ble_eq_true rfl, Nat.le_of_ble_eq_true rfl⟩)) ⟨hx, hb, hml, hown, hts⟩ hl.1 hK hP hD hS hA 0 rfl rfl rfl [0, 1, 2] [3, 4] rfl (by decide) rfl (by decide) (by decide) rfl rfl (Nat.le_of_ble_eq_true rfl) (by rw [hR]; exact ⟨Nat.le_of_ble_eq_true rfl, Nat.le_of_ble_eq_true rfl⟩) (fun z132 u H locs q132 hP hD hS => ?_)
            obtain ⟨at1_132, sa1_132, vv1_132, rd1_132⟩ := u
            have q132 : sa1_132 = skp t n at1_121 ∧ (at1_121 ≤ at1_132 ∧ at1_132 ≤ n) ∧ ((z132 = 1 ∧ numOK t n (skp t n at1_121) 1 9 ∧ rd1_132 = zu rd1_121 1 (vl t n (skp t n at1_121)) ∧ nx t n (skp t n at1_121) = skp t n at1_132) ∨ (z132 = 0 ∧ ¬ numOK t n (skp t n at1_121) 1 9)) := q132
            obtain ⟨q132_0, q132_1, q132_2⟩ := q132
            have hP : va_P g vwCl [(hm, oB 8 [.ref m0, vI un, .ref m2, .ref m3, vI mo, vI oft, vI la, vI du, .ref m8, .ref m9, vI to, .ref m11, .ref m12, vJ tr, .ref m14, vI n, vI at1_132, vI sa1_132, vI vv1_132, .ref m19, vI rdu, .ref m21, .ref m22, vI z68, vI its, .ref m25, .ref m26, vJ lt0]), (m14, aI ca 200 t), (m19, aI ca 6 rd1_132), (m21, aI ca 6 rN), (m22, aI ca 6 rW)] H := hP.sub [2, 3, 4, 0, 1] rfl
            have hD : va_D A [(hm, oB 8 [.ref m0, vI un, .ref m2, .ref m3, vI mo, vI oft, vI la, vI du, .ref m8, .ref m9, vI to, .ref m11, .ref m12, vJ tr, .ref m14, vI n, vI at1_132, vI sa1_132, vI vv1_132, .ref m19, vI rdu, .ref m21, .ref m22, vI z68, vI its, .ref m25, .ref m26, vJ lt0]), (m14, aI ca 200 t), (m19, aI ca 6 rd1_132), (m21, aI ca 6 rN), (m22, aI ca 6 rW)] := hD.sub [2, 3, 4, 0, 1] (by decide) rfl
            refine ri_if_eq (tgt := 153) hx hb dX8_takesItem_135 (by decide) ⟨by omega, by omega⟩ (fun c135 => ?_) (fun c135 => ?_)
            · skip
              refine lv_iconst (v := Int32.ofInt 0) hx hb dX8_takesItem_153 rfl ?_
              refine zr_Z hx hb hr hlk hQ (at1_132, sa1_132, vv1_132, rdu, z68, rd1_132, rN, rW) hP hD hS dX8_takesItem_154 (Nat.le_of_ble_eq_true rfl) (Nat.le_of_ble_eq_true rfl) (Or.inl rfl) ?_
              show (at0 ≤ at1_132 ∧ at1_132 ≤ n) ∧ ((0 = 1 ∧ itc t n at0 sr sl st0 rdu = (0, skp t n at1_132) ∧ rd1_132 = itr t n at0 sr sl st0 rd ∧ rdu = itu t n at0 rdu ∧ rN = itn t n at0 rdu rN ∧ rW = itw t n at0 rdu rW ∧ z68 = fl t n at0 114 sr + 2 * fl t n at0 108 sl + 4 * fl t n at0 116 st0) ∨ (0 = 0 ∧ itc t n at0 sr sl st0 rdu = (1, sa1_132)))
              refine ⟨by omega, ?_⟩
              rw [itc_r hat.2 (by omega)]
              have hsr : sr = 0 := by omega
              rw [if_pos hsr]
              have hit := it_r (n := n) (sr := sr) (sl := sl) (st := st0) (du := rdu) (rd := rd) (dn := rN) (dw := rW) hat.2 (show t at0 = 114 by omega) hsr
              rw [e78] at q121_0 q121_2
              rcases q121_2 with a9 | a9
              · first
                | (exfalso; omega)
                | (rw [pn_ok a9.2.1, a9.2.2.2]
                   rw [pn_ok a9.2.1, a9.2.2.2] at hit
                   rcases q132_2 with b9 | b9
                   · first
                     | (exfalso; omega)
                     | (rw [pn_ok b9.2.1, b9.2.2.2]
                        rw [pn_ok b9.2.1, b9.2.2.2] at hit
                        rcases q143_2 with c9 | c9
                        · first
                          | (exfalso; omega)
                          | (rw [pn_ok c9.2.1, c9.2.2.2]
                             obtain ⟨i1, i2, i3, i4, i5, i6, i7⟩ := hit
                             rw [i1, i2, i3, i4, i5, i6, i7]
                             exact Or.inl ⟨rfl, rfl, by rw [c9.2.2.1, b9.2.2.1, a9.2.2.1], rfl, rfl, rfl, hz67.1 (by omega)⟩)
                        · first
                          | (exfalso; omega)
                          | (rw [pn_no c9.2, q143_0]; exact Or.inr ⟨rfl, rfl⟩))
                   · first
                     | (exfalso; omega)
                     | (rw [pn_no b9.2, pn_bad, q132_0]; exact Or.inr ⟨rfl, rfl⟩))
              · first
                | (exfalso; omega)
                | (rw [pn_no a9.2, pn_bad, pn_bad, q121_0]; exact Or.inr ⟨rfl, rfl⟩)
            · skip
              refine lv_aload_n hx hb dX8_takesItem_138 rfl (lv_at hl 2 rfl) ?_
              refine lv_iconst (v := Int32.ofInt 2) hx hb dX8_takesItem_139 rfl ?_
              refine lv_iconst (v := Int32.ofInt 1) hx hb dX8_takesItem_140 rfl ?_
              refine lv_bipush (v := Int32.ofInt 20) hx hb dX8_takesItem_141 (by decide) ?_
              refine zc_VI (As := [vI 2, vI 1, vI 20]) (rest := []) (wc := [(hm, oB 8 [.ref m0, vI un, .ref m2, .ref m3, vI mo, vI oft, vI la, vI du, .ref m8, .ref m9, vI to, .ref m11, .ref m12, vJ tr, .ref m14, vI n, vI at1_132, vI sa1_132, vI vv1_132, .ref m19, vI rdu, .ref m21, .ref m22, vI z68, vI its, .ref m25, .ref m26, vJ lt0]), (m14, aI ca 200 t), (m19, aI ca 6 rd1_132)]) (wr := [(m21, aI ca 6 rN), (m22, aI ca 6 rW)]) (k_X8_takes l g ca hm m0 m2 m3 m8 m9 m11 m12 m14 m19 m21 m22 m25 m26 un mo oft la du to tr n at1_132 sa1_132 vv1_132 rdu z68 its lt0 t rd1_132 2 1 20 (by first | assumption | omega) (by first | assumption | omega) (by first | assumption | omega) (by first | assumption | omega)) dX8_takesItem_143 (cwV 3 hts gX8_takesItem_X8_takes rfl rfl rfl (by decide +kernel) (by rw [hR]; exact ⟨Nat.le_of_ble_eq_true rfl, Nat.le_of_ble_eq_true rfl⟩)) ⟨hx, hb, hml, hown, hts⟩ hl.1 hK hP hD hS hA 0 rfl rfl rfl [0, 1, 2] [3, 4] rfl (by decide) rfl (by decide) (by decide) rfl rfl (Nat.le_of_ble_eq_true rfl) (by rw [hR]; exact ⟨Nat.le_of_ble_eq_true rfl, Nat.le_of_ble_eq_true rfl⟩) (fun z143 u H locs q143 hP hD hS => ?_)
              obtain ⟨at1_143, sa1_143, vv1_143, rd1_143⟩ := u
              have q143 : sa1_143 = skp t n at1_132 ∧ (at1_132 ≤ at1_143 ∧ at1_143 ≤ n) ∧ ((z143 = 1 ∧ numOK t n (skp t n at1_132) 1 20 ∧ rd1_143 = zu rd1_132 2 (vl t n (skp t n at1_132)) ∧ nx t n (skp t n at1_132) = skp t n at1_143) ∨ (z143 = 0 ∧ ¬ numOK t n (skp t n at1_132) 1 20)) := q143
              obtain ⟨q143_0, q143_1, q143_2⟩ := q143
              have hP : va_P g vwCl [(hm, oB 8 [.ref m0, vI un, .ref m2, .ref m3, vI mo, vI oft, vI la, vI du, .ref m8, .ref m9, vI to, .ref m11, .ref m12, vJ tr, .ref m14, vI n, vI at1_143, vI sa1_143, vI vv1_143, .ref m19, vI rdu, .ref m21, .ref m22, vI z68, vI its, .ref m25, .ref m26, vJ lt0]), (m14, aI ca 200 t), (m19, aI ca 6 rd1_143), (m21, aI ca 6 rN), (m22, aI ca 6 rW)] H := hP.sub [2, 3, 4, 0, 1] rfl
              have hD : va_D A [(hm, oB 8 [.ref m0, vI un, .ref m2, .ref m3, vI mo, vI oft, vI la, vI du, .ref m8, .ref m9, vI to, .ref m11, .ref m12, vJ tr, .ref m14, vI n, vI at1_143, vI sa1_143, vI vv1_143, .ref m19, vI rdu, .ref m21, .ref m22, vI z68, vI its, .ref m25, .ref m26, vJ lt0]), (m14, aI ca 200 t), (m19, aI ca 6 rd1_143), (m21, aI ca 6 rN), (m22, aI ca 6 rW)] := hD.sub [2, 3, 4, 0, 1] (by decide) rfl
              refine ri_if_eq (tgt := 153) hx hb dX8_takesItem_146 (by decide) ⟨by omega, by omega⟩ (fun c146 => ?_) (fun c146 => ?_)
              · skip
                refine lv_iconst (v := Int32.ofInt 0) hx hb dX8_takesItem_153 rfl ?_
                refine zr_Z hx hb hr hlk hQ (at1_143, sa1_143, vv1_143, rdu, z68, rd1_143, rN, rW) hP hD hS dX8_takesItem_154 (Nat.le_of_ble_eq_true rfl) (Nat.le_of_ble_eq_true rfl) (Or.inl rfl) ?_
                show (at0 ≤ at1_143 ∧ at1_143 ≤ n) ∧ ((0 = 1 ∧ itc t n at0 sr sl st0 rdu = (0, skp t n at1_143) ∧ rd1_143 = itr t n at0 sr sl st0 rd ∧ rdu = itu t n at0 rdu ∧ rN = itn t n at0 rdu rN ∧ rW = itw t n at0 rdu rW ∧ z68 = fl t n at0 114 sr + 2 * fl t n at0 108 sl + 4 * fl t n at0 116 st0) ∨ (0 = 0 ∧ itc t n at0 sr sl st0 rdu = (1, sa1_143)))
                refine ⟨by omega, ?_⟩
                rw [itc_r hat.2 (by omega)]
                have hsr : sr = 0 := by omega
                rw [if_pos hsr]
                have hit := it_r (n := n) (sr := sr) (sl := sl) (st := st0) (du := rdu) (rd := rd) (dn := rN) (dw := rW) hat.2 (show t at0 = 114 by omega) hsr
                rw [e78] at q121_0 q121_2
                rcases q121_2 with a9 | a9
                · first
                  | (exfalso; omega)
                  | (rw [pn_ok a9.2.1, a9.2.2.2]
                     rw [pn_ok a9.2.1, a9.2.2.2] at hit
                     rcases q132_2 with b9 | b9
                     · first
                       | (exfalso; omega)
                       | (rw [pn_ok b9.2.1, b9.2.2.2]
                          rw [pn_ok b9.2.1, b9.2.2.2] at hit
                          rcases q143_2 with c9 | c9
                          · first
                            | (exfalso; omega)
                            | (rw [pn_ok c9.2.1, c9.2.2.2]
                               obtain ⟨i1, i2, i3, i4, i5, i6, i7⟩ := hit
                               rw [i1, i2, i3, i4, i5, i6, i7]
                               exact Or.inl ⟨rfl, rfl, by rw [c9.2.2.1, b9.2.2.1, a9.2.2.1], rfl, rfl, rfl, hz67.1 (by omega)⟩)
                          · first
                            | (exfalso; omega)
                            | (rw [pn_no c9.2, q143_0]; exact Or.inr ⟨rfl, rfl⟩))
                     · first
                       | (exfalso; omega)
                       | (rw [pn_no b9.2, pn_bad, q132_0]; exact Or.inr ⟨rfl, rfl⟩))
                · first
                  | (exfalso; omega)
                  | (rw [pn_no a9.2, pn_bad, pn_bad, q121_0]; exact Or.inr ⟨rfl, rfl⟩)
              · skip
                refine lv_iconst (v := Int32.ofInt 1) hx hb dX8_takesItem_149 rfl ?_
                refine lv_goto (tgt := 154) hx hb dX8_takesItem_150 (by decide) ?_
                refine zr_Z hx hb hr hlk hQ (at1_143, sa1_143, vv1_143, rdu, z68, rd1_143, rN, rW) hP hD hS dX8_takesItem_154 (Nat.le_of_ble_eq_true rfl) (Nat.le_of_ble_eq_true rfl) (Or.inr rfl) ?_
                show (at0 ≤ at1_143 ∧ at1_143 ≤ n) ∧ ((1 = 1 ∧ itc t n at0 sr sl st0 rdu = (0, skp t n at1_143) ∧ rd1_143 = itr t n at0 sr sl st0 rd ∧ rdu = itu t n at0 rdu ∧ rN = itn t n at0 rdu rN ∧ rW = itw t n at0 rdu rW ∧ z68 = fl t n at0 114 sr + 2 * fl t n at0 108 sl + 4 * fl t n at0 116 st0) ∨ (1 = 0 ∧ itc t n at0 sr sl st0 rdu = (1, sa1_143)))
                refine ⟨by omega, ?_⟩
                rw [itc_r hat.2 (by omega)]
                have hsr : sr = 0 := by omega
                rw [if_pos hsr]
                have hit := it_r (n := n) (sr := sr) (sl := sl) (st := st0) (du := rdu) (rd := rd) (dn := rN) (dw := rW) hat.2 (show t at0 = 114 by omega) hsr
                rw [e78] at q121_0 q121_2
                rcases q121_2 with a9 | a9
                · first
                  | (exfalso; omega)
                  | (rw [pn_ok a9.2.1, a9.2.2.2]
                     rw [pn_ok a9.2.1, a9.2.2.2] at hit
                     rcases q132_2 with b9 | b9
                     · first
                       | (exfalso; omega)
                       | (rw [pn_ok b9.2.1, b9.2.2.2]
                          rw [pn_ok b9.2.1, b9.2.2.2] at hit
                          rcases q143_2 with c9 | c9
                          · first
                            | (exfalso; omega)
                            | (rw [pn_ok c9.2.1, c9.2.2.2]
                               obtain ⟨i1, i2, i3, i4, i5, i6, i7⟩ := hit
                               rw [i1, i2, i3, i4, i5, i6, i7]
                               exact Or.inl ⟨rfl, rfl, by rw [c9.2.2.1, b9.2.2.1, a9.2.2.1], rfl, rfl, rfl, hz67.1 (by omega)⟩)
                          · first
                            | (exfalso; omega)
                            | (rw [pn_no c9.2, q143_0]; exact Or.inr ⟨rfl, rfl⟩))
                     · first
                       | (exfalso; omega)
                       | (rw [pn_no b9.2, pn_bad, q132_0]; exact Or.inr ⟨rfl, rfl⟩))
                · first
                  | (exfalso; omega)
                  | (rw [pn_no a9.2, pn_bad, pn_bad, q121_0]; exact Or.inr ⟨rfl, rfl⟩)
        by_cases c83_3 : z5 = 116
        · skip
          refine ri_to c83_3 ?_
          refine lv_lookup (tgt := 190) hx hb dX8_takesItem_83 (by decide) (off := 107) (by rw [xi_to ⟨by omega, by omega⟩]; rfl) (by decide) ?_
          refine lv_aload_n hx hb dX8_takesItem_190 rfl (lv_at hl 2 rfl) ?_
          refine lv_iconst (v := Int32.ofInt 5) hx hb dX8_takesItem_191 rfl ?_
          refine lv_iconst (v := Int32.ofInt 0) hx hb dX8_takesItem_192 rfl ?_
          refine lv_bipush (v := Int32.ofInt 9) hx hb dX8_takesItem_193 (by decide) ?_
          refine zc_VI (As := [vI 5, vI 0, vI 9]) (rest := []) (wc := [(hm, oB 8 [.ref m0, vI un, .ref m2, .ref m3, vI mo, vI oft, vI la, vI du, .ref m8, .ref m9, vI to, .ref m11, .ref m12, vJ tr, .ref m14, vI n, vI z78, vI sa, vI vv, .ref m19, vI rdu, .ref m21, .ref m22, vI z68, vI its, .ref m25, .ref m26, vJ lt0]), (m14, aI ca 200 t), (m19, aI ca 6 rd)]) (wr := [(m21, aI ca 6 rN), (m22, aI ca 6 rW)]) (k_X8_takes l g ca hm m0 m2 m3 m8 m9 m11 m12 m14 m19 m21 m22 m25 m26 un mo oft la du to tr n z78 sa vv rdu z68 its lt0 t rd 5 0 9 (by first | assumption | omega) (by first | assumption | omega) (by first | assumption | omega) (by first | assumption | omega)) dX8_takesItem_195 (cwV 3 hts gX8_takesItem_X8_takes rfl rfl rfl (by decide +kernel) (by rw [hR]; exact ⟨Nat.le_of_ble_eq_true rfl, Nat.le_of_ble_eq_true rfl⟩)) ⟨hx, hb, hml, hown, hts⟩ hl.1 hK hP hD hS hA 0 rfl rfl rfl [0, 1, 2] [3, 4] rfl (by decide) rfl (by decide) (by decide) rfl rfl (Nat.le_of_ble_eq_true rfl) (by rw [hR]; exact ⟨Nat.le_of_ble_eq_true rfl, Nat.le_of_ble_eq_true rfl⟩) (fun z195 u H locs q195 hP hD hS => ?_)
          obtain ⟨at1_195, sa1_195, vv1_195, rd1_195⟩ := u
          have q195 : sa1_195 = skp t n z78 ∧ (z78 ≤ at1_195 ∧ at1_195 ≤ n) ∧ ((z195 = 1 ∧ numOK t n (skp t n z78) 0 9 ∧ rd1_195 = zu rd 5 (vl t n (skp t n z78)) ∧ nx t n (skp t n z78) = skp t n at1_195) ∨ (z195 = 0 ∧ ¬ numOK t n (skp t n z78) 0 9)) := q195
          obtain ⟨q195_0, q195_1, q195_2⟩ := q195
          have hP : va_P g vwCl [(hm, oB 8 [.ref m0, vI un, .ref m2, .ref m3, vI mo, vI oft, vI la, vI du, .ref m8, .ref m9, vI to, .ref m11, .ref m12, vJ tr, .ref m14, vI n, vI at1_195, vI sa1_195, vI vv1_195, .ref m19, vI rdu, .ref m21, .ref m22, vI z68, vI its, .ref m25, .ref m26, vJ lt0]), (m14, aI ca 200 t), (m19, aI ca 6 rd1_195), (m21, aI ca 6 rN), (m22, aI ca 6 rW)] H := hP.sub [2, 3, 4, 0, 1] rfl
          have hD : va_D A [(hm, oB 8 [.ref m0, vI un, .ref m2, .ref m3, vI mo, vI oft, vI la, vI du, .ref m8, .ref m9, vI to, .ref m11, .ref m12, vJ tr, .ref m14, vI n, vI at1_195, vI sa1_195, vI vv1_195, .ref m19, vI rdu, .ref m21, .ref m22, vI z68, vI its, .ref m25, .ref m26, vJ lt0]), (m14, aI ca 200 t), (m19, aI ca 6 rd1_195), (m21, aI ca 6 rN), (m22, aI ca 6 rW)] := hD.sub [2, 3, 4, 0, 1] (by decide) rfl
          refine zr_Z hx hb hr hlk hQ (at1_195, sa1_195, vv1_195, rdu, z68, rd1_195, rN, rW) hP hD hS dX8_takesItem_198 (Nat.le_of_ble_eq_true rfl) (Nat.le_of_ble_eq_true rfl) (show z195 = 0 ∨ z195 = 1 from by omega) ?_
          show (at0 ≤ at1_195 ∧ at1_195 ≤ n) ∧ ((z195 = 1 ∧ itc t n at0 sr sl st0 rdu = (0, skp t n at1_195) ∧ rd1_195 = itr t n at0 sr sl st0 rd ∧ rdu = itu t n at0 rdu ∧ rN = itn t n at0 rdu rN ∧ rW = itw t n at0 rdu rW ∧ z68 = fl t n at0 114 sr + 2 * fl t n at0 108 sl + 4 * fl t n at0 116 st0) ∨ (z195 = 0 ∧ itc t n at0 sr sl st0 rdu = (1, sa1_195)))
          refine ⟨by omega, ?_⟩
          rw [itc_t hat.2 (by omega)]
          have hst0 : st0 = 0 := by omega
          rw [if_pos hst0]
          have hit := it_t (n := n) (sr := sr) (sl := sl) (st := st0) (du := rdu) (rd := rd) (dn := rN) (dw := rW) hat.2 (show t at0 = 116 by omega) hst0
          rw [e78] at q195_0 q195_2
          rcases q195_2 with a9 | a9
          · rw [pn_ok a9.2.1, a9.2.2.2]
            obtain ⟨i1, i2, i3, i4, i5, i6, i7⟩ := hit
            rw [i1, i2, i3, i4, i5, i6, i7]
            exact Or.inl ⟨a9.1, rfl, a9.2.2.1, rfl, rfl, rfl, hz67.2.2.1 (by omega)⟩
          · rw [pn_no a9.2, q195_0]
            exact Or.inr ⟨a9.1, rfl⟩
        refine lv_lookup (tgt := 199) hx hb dX8_takesItem_83 (by decide) (off := 116) (zlk_3 (by rw [xi_to ⟨by omega, by omega⟩]; omega) (by rw [xi_to ⟨by omega, by omega⟩]; omega) (by rw [xi_to ⟨by omega, by omega⟩]; omega)) (by decide) ?_
        refine lv_aload_n hx hb dX8_takesItem_199 rfl (lv_at hl 2 rfl) ?_
        refine zc_VI (As := []) (rest := []) (wc := [(hm, oB 8 [.ref m0, vI un, .ref m2, .ref m3, vI mo, vI oft, vI la, vI du, .ref m8, .ref m9, vI to, .ref m11, .ref m12, vJ tr, .ref m14, vI n, vI z78, vI sa, vI vv, .ref m19, vI rdu, .ref m21, .ref m22, vI z68, vI its, .ref m25, .ref m26, vJ lt0]), (m14, aI ca 200 t), (m21, aI ca 6 rN), (m22, aI ca 6 rW)]) (wr := [(m19, aI ca 6 rd)]) (k_X8_takesDue l g ca hm m0 m2 m3 m8 m9 m11 m12 m14 m19 m21 m22 m25 m26 un mo oft la du to tr n z78 sa vv rdu z68 its lt0 t rN rW (by first | assumption | omega) (by first | assumption | omega) (by first | assumption | omega)) dX8_takesItem_200 (cwV 0 hts gX8_takesItem_X8_takesDue rfl rfl rfl (by decide +kernel) (by rw [hR]; exact ⟨Nat.le_of_ble_eq_true rfl, Nat.le_of_ble_eq_true rfl⟩)) ⟨hx, hb, hml, hown, hts⟩ hl.1 hK hP hD hS hA 0 rfl rfl rfl [0, 1, 3, 4] [2] rfl (by decide) rfl (by decide) (by decide) rfl rfl (Nat.le_of_ble_eq_true rfl) (by rw [hR]; exact ⟨Nat.le_of_ble_eq_true rfl, Nat.le_of_ble_eq_true rfl⟩) (fun z200 u H locs q200 hP hD hS => ?_)
        obtain ⟨at1_200, sa1_200, vv1_200, rdu1_200, rN1_200, rW1_200⟩ := u
        have q200 : (z78 ≤ at1_200 ∧ at1_200 ≤ n) ∧ ((z200 = 1 ∧ rdu < 6 ∧ numOK t n (skp t n z78) 1 120 ∧ numOK t n (nx t n (skp t n z78)) 1 200 ∧ nx t n (nx t n (skp t n z78)) = skp t n at1_200 ∧ rdu1_200 = rdu + 1 ∧ rN1_200 = zu rN rdu (vl t n (skp t n z78)) ∧ rW1_200 = zu rW rdu (vl t n (nx t n (skp t n z78)))) ∨ (z200 = 0 ∧ ((rdu = 6 ∧ sa1_200 = sa) ∨ (rdu < 6 ∧ ¬ numOK t n (skp t n z78) 1 120 ∧ sa1_200 = skp t n z78) ∨ (rdu < 6 ∧ numOK t n (skp t n z78) 1 120 ∧ ¬ numOK t n (nx t n (skp t n z78)) 1 200 ∧ sa1_200 = nx t n (skp t n z78))))) := q200
        obtain ⟨q200_0, q200_1⟩ := q200
        have hP : va_P g vwCl [(hm, oB 8 [.ref m0, vI un, .ref m2, .ref m3, vI mo, vI oft, vI la, vI du, .ref m8, .ref m9, vI to, .ref m11, .ref m12, vJ tr, .ref m14, vI n, vI at1_200, vI sa1_200, vI vv1_200, .ref m19, vI rdu1_200, .ref m21, .ref m22, vI z68, vI its, .ref m25, .ref m26, vJ lt0]), (m14, aI ca 200 t), (m19, aI ca 6 rd), (m21, aI ca 6 rN1_200), (m22, aI ca 6 rW1_200)] H := hP.sub [1, 2, 0, 3, 4] rfl
        have hD : va_D A [(hm, oB 8 [.ref m0, vI un, .ref m2, .ref m3, vI mo, vI oft, vI la, vI du, .ref m8, .ref m9, vI to, .ref m11, .ref m12, vJ tr, .ref m14, vI n, vI at1_200, vI sa1_200, vI vv1_200, .ref m19, vI rdu1_200, .ref m21, .ref m22, vI z68, vI its, .ref m25, .ref m26, vJ lt0]), (m14, aI ca 200 t), (m19, aI ca 6 rd), (m21, aI ca 6 rN1_200), (m22, aI ca 6 rW1_200)] := hD.sub [1, 2, 0, 3, 4] (by decide) rfl
        refine zr_Z hx hb hr hlk hQ (at1_200, sa1_200, vv1_200, rdu1_200, z68, rd, rN1_200, rW1_200) hP hD hS dX8_takesItem_203 (Nat.le_of_ble_eq_true rfl) (Nat.le_of_ble_eq_true rfl) (show z200 = 0 ∨ z200 = 1 from by omega) ?_
        show (at0 ≤ at1_200 ∧ at1_200 ≤ n) ∧ ((z200 = 1 ∧ itc t n at0 sr sl st0 rdu = (0, skp t n at1_200) ∧ rd = itr t n at0 sr sl st0 rd ∧ rdu1_200 = itu t n at0 rdu ∧ rN1_200 = itn t n at0 rdu rN ∧ rW1_200 = itw t n at0 rdu rW ∧ z68 = fl t n at0 114 sr + 2 * fl t n at0 108 sl + 4 * fl t n at0 116 st0) ∨ (z200 = 0 ∧ itc t n at0 sr sl st0 rdu = (1, sa1_200)))
        refine ⟨by omega, ?_⟩
        rw [itc_p hat.2 (by omega)]
        rw [e78] at q200_1
        rcases q200_1 with a9 | a9
        · have hit := it_p (n := n) (sr := sr) (sl := sl) (st := st0) (du := rdu) (rd := rd) (dn := rN) (dw := rW) hat.2 (show t at0 = 112 by omega) a9.2.1
          obtain ⟨g1, g2, g3, g4, g5, g6, g7, g8⟩ := a9
          rw [if_pos g2, pn_ok g3, pn_ok g4, g5]
          rw [pn_ok g3] at hit
          obtain ⟨i1, i2, i3, i4, i5, i6, i7⟩ := hit
          rw [i1, i2, i3, i4, i5, i6, i7]
          exact Or.inl ⟨g1, rfl, rfl, g6, g7, g8, hz67.2.2.2 (by omega)⟩
        · obtain ⟨g1, g2⟩ := a9
          rcases g2 with g2 | g2 | g2
          · rw [if_neg (by omega), g2.2, hsa]; exact Or.inr ⟨g1, rfl⟩
          · rw [if_pos g2.1, pn_no g2.2.1, pn_bad, g2.2.2]; exact Or.inr ⟨g1, rfl⟩
          · rw [if_pos g2.1, pn_ok g2.2.1, pn_no g2.2.2.1, g2.2.2.2]; exact Or.inr ⟨g1, rfl⟩
      · skip
        refine lv_iconst (v := Int32.ofInt 0) hx hb dX8_takesItem_60 rfl ?_
        refine zr_Z hx hb hr hlk hQ (at0, sa, vv, rdu, se, rd, rN, rW) hP hD hS dX8_takesItem_61 (Nat.le_of_ble_eq_true rfl) (Nat.le_of_ble_eq_true rfl) (Or.inl rfl) ?_
        show (at0 ≤ at0 ∧ at0 ≤ n) ∧ ((0 = 1 ∧ itc t n at0 sr sl st0 rdu = (0, skp t n at0) ∧ rd = itr t n at0 sr sl st0 rd ∧ rdu = itu t n at0 rdu ∧ rN = itn t n at0 rdu rN ∧ rW = itw t n at0 rdu rW ∧ se = fl t n at0 114 sr + 2 * fl t n at0 108 sl + 4 * fl t n at0 116 st0) ∨ (0 = 0 ∧ itc t n at0 sr sl st0 rdu = (1, sa)))
        refine ⟨by omega, Or.inr ⟨rfl, ?_⟩⟩
        rw [hsa]
        by_cases h1 : t at0 = 114
        · rw [itc_r hat.2 h1, if_neg (by omega)]
        · by_cases h2 : t at0 = 108
          · rw [itc_l hat.2 h2, if_neg (by omega)]
          · by_cases h3 : t at0 = 116
            · rw [itc_t hat.2 h3, if_neg (by omega)]
            · exact itc_x hat.2 (by omega)
    · exact absurd c42_ (by decide)
set_option maxHeartbeats 4000000 in
set_option maxRecDepth 100000 in
theorem k_X8_ring (l : Launch) (g : va_G) (ca : Nat → ClassId) (hm : Nat) (m0 : Nat) (m2 : Nat) (m3 : Nat) (m8 : Nat) (m9 : Nat) (m11 : Nat) (m12 : Nat) (m14 : Nat) (m19 : Nat) (m21 : Nat) (m22 : Nat) (m25 : Nat) (m26 : Nat) (un : Int) (mo : Int) (oft : Int) (la : Int) (du : Int) (to : Int) (tr : Int) (n : Int) (at0 : Int) (sa : Int) (vv : Int) (rdu : Int) (se : Int) (its : Int) (lt0 : Int) (d : Int → Int) (kp : Int → Int) (w : Int → Int) (dn : Int → Int) (dw : Int → Int) (t : Int → Int) (rd : Int → Int) (rN : Int → Int) (rW : Int → Int) (hT : TXok t n) : zI (S := Int × Int × Int × Int × Int × Int × Int × Int × Int × Int × Int × Int × Int × (Int → Int) × (Int → Int) × (Int → Int) × (Int → Int) × (Int → Int) × (Int → Int) × (Int → Int) × (Int → Int)) l yX8_ring wsX8_ring ({ frames := 5, cells := 0, slots := 0, locals := 109 } : Room) g ca [.ref hm] [(hm, oB 8 [.ref m0, vI un, .ref m2, .ref m3, vI mo, vI oft, vI la, vI du, .ref m8, .ref m9, vI to, .ref m11, .ref m12, vJ tr, .ref m14, vI n, vI at0, vI sa, vI vv, .ref m19, vI rdu, .ref m21, .ref m22, vI se, vI its, .ref m25, .ref m26, vJ lt0]), (m0, aJ ca 7284 d), (m2, aZ ca 2 kp), (m3, aI ca 5 w), (m8, aI ca 6 dn), (m9, aI ca 6 dw), (m14, aI ca 200 t), (m19, aI ca 6 rd), (m21, aI ca 6 rN), (m22, aI ca 6 rW)] (fun (z : Int) (u : Int × Int × Int × Int × Int × Int × Int × Int × Int × Int × Int × Int × Int × (Int → Int) × (Int → Int) × (Int → Int) × (Int → Int) × (Int → Int) × (Int → Int) × (Int → Int) × (Int → Int)) => z = (PF t n 201 (skp t n 0) 0 0 0 0 rd0 0 rN rW).1 ∧ ((z < 0 ∧ u.2.2.2.2.2.2.1 = n ∧ u.2.2.2.2.2.2.2.1 = mo ∧ u.2.2.2.2.2.2.2.2.1 = oft ∧ u.2.2.2.2.2.2.2.2.2.1 = la ∧ u.2.2.2.2.2.2.2.2.2.2.1 = du ∧ u.2.2.2.2.2.2.2.2.2.2.2.1 = to ∧ u.2.2.2.2.2.2.2.2.2.2.2.2.1 = un ∧ u.2.2.2.2.2.2.2.2.2.2.2.2.2.2.2.2.1 = w ∧ u.2.2.2.2.2.2.2.2.2.2.2.2.2.2.2.2.2.1 = dn ∧ u.2.2.2.2.2.2.2.2.2.2.2.2.2.2.2.2.2.2.1 = dw ∧ u.2.2.2.2.2.2.2.2.2.2.2.2.2.2.2.2.2.2.2.1 = kp ∧ u.2.2.2.2.2.2.2.2.2.2.2.2.2.2.2.2.2.2.2.2 = d) ∨ (0 ≤ z ∧ u.2.2.2.2.2.2.1 = 0 ∧ u.2.2.2.2.2.2.2.2.2.2.2.1 = 0 ∧ u.2.2.2.2.2.2.2.2.2.2.2.2.1 = 0 ∧ u.2.2.2.2.2.2.2.2.2.2.2.2.2.2.2.2.2.2.2.1 = (fun _ => 0) ∧ AT u.2.2.2.2.2.2.2.2.2.2.2.2.2.2.2.2.2.2.2.2 0 bg 0 0 ∧ (PF t n 201 (skp t n 0) 0 0 0 0 rd0 0 rN rW).2 = (u.2.2.2.2.2.2.2.2.2.2.2.2.2.1, u.2.2.2.2.2.2.2.2.2.2.1, u.2.2.2.2.2.2.2.2.2.2.2.2.2.2.2.2.2.1, u.2.2.2.2.2.2.2.2.2.2.2.2.2.2.2.2.2.2.1) ∧ u.2.2.2.2.2.2.2.2.2.2.2.2.2.2.2.2.1 = wf (u.2.2.2.2.2.2.2.2.2.2.2.2.2.1 0) (u.2.2.2.2.2.2.2.2.2.2.2.2.2.1 3) (u.2.2.2.2.2.2.2.2.2.2.2.2.2.1 4) ∧ u.2.2.2.2.2.2.2.1 = u.2.2.2.2.2.2.2.2.2.2.2.2.2.1 1 ∧ u.2.2.2.2.2.2.2.2.1 = u.2.2.2.2.2.2.2.2.2.2.2.2.2.1 2 ∧ u.2.2.2.2.2.2.2.2.2.1 = u.2.2.2.2.2.2.2.2.2.2.2.2.2.1 5))) (fun (u : Int × Int × Int × Int × Int × Int × Int × Int × Int × Int × Int × Int × Int × (Int → Int) × (Int → Int) × (Int → Int) × (Int → Int) × (Int → Int) × (Int → Int) × (Int → Int) × (Int → Int)) => [(hm, oB 8 [.ref m0, vI u.2.2.2.2.2.2.2.2.2.2.2.2.1, .ref m2, .ref m3, vI u.2.2.2.2.2.2.2.1, vI u.2.2.2.2.2.2.2.2.1, vI u.2.2.2.2.2.2.2.2.2.1, vI u.2.2.2.2.2.2.2.2.2.2.1, .ref m8, .ref m9, vI u.2.2.2.2.2.2.2.2.2.2.2.1, .ref m11, .ref m12, vJ tr, .ref m14, vI u.2.2.2.2.2.2.1, vI u.1, vI u.2.1, vI u.2.2.1, .ref m19, vI u.2.2.2.1, .ref m21, .ref m22, vI u.2.2.2.2.1, vI u.2.2.2.2.2.1, .ref m25, .ref m26, vJ lt0]), (m0, aJ ca 7284 u.2.2.2.2.2.2.2.2.2.2.2.2.2.2.2.2.2.2.2.2), (m2, aZ ca 2 u.2.2.2.2.2.2.2.2.2.2.2.2.2.2.2.2.2.2.2.1), (m3, aI ca 5 u.2.2.2.2.2.2.2.2.2.2.2.2.2.2.2.2.1), (m8, aI ca 6 u.2.2.2.2.2.2.2.2.2.2.2.2.2.2.2.2.2.1), (m9, aI ca 6 u.2.2.2.2.2.2.2.2.2.2.2.2.2.2.2.2.2.2.1), (m14, aI ca 200 t), (m19, aI ca 6 u.2.2.2.2.2.2.2.2.2.2.2.2.2.1), (m21, aI ca 6 u.2.2.2.2.2.2.2.2.2.2.2.2.2.2.1), (m22, aI ca 6 u.2.2.2.2.2.2.2.2.2.2.2.2.2.2.2.1)]) 0 0 := by
  refine zm_I (cc := cX8_ring) (maxL := 1) (ret := some .int) (by decide) rfl (Nat.le_of_ble_eq_true rfl) ?_
  intro p e s m below meth c A ls R args Q hR hargs hQ hx hb hml hr hts hown hlk hnm hK hP hD hA hS hl
  have hown : s.vm.findClass RX8 = some m.cls := hown
  have hl : lv_has ls 1 [(0, .ref hm)] := hl
  have lk_f98 : (Cond.fieldLink RX8 98 "DripRingsModel" "at" "I").before args s = true := hts _ (by decide +kernel)
  have inF_X8 : ∀ w ∈ wsX80, w ∈ wsX8_ring := by decide +kernel
  have lk_f95 : (Cond.fieldLink RX8 95 "DripRingsModel" "texted" "I").before args s = true := hts _ (by decide +kernel)
  have lk_f64 : (Cond.fieldLink RX8 64 "DripRingsModel" "items" "I").before args s = true := hts _ (by decide +kernel)
  have lk_f105 : (Cond.fieldLink RX8 105 "DripRingsModel" "start" "I").before args s = true := hts _ (by decide +kernel)
  have hn := hT.1
  refine lv_aload_n hx hb dX8_ring_0 rfl (lv_at hl 0 rfl) ?_
  refine zc_VV (As := []) (rest := []) (wc := [(hm, oB 8 [.ref m0, vI un, .ref m2, .ref m3, vI mo, vI oft, vI la, vI du, .ref m8, .ref m9, vI to, .ref m11, .ref m12, vJ tr, .ref m14, vI n, vI at0, vI sa, vI vv, .ref m19, vI rdu, .ref m21, .ref m22, vI se, vI its, .ref m25, .ref m26, vJ lt0]), (m19, aI ca 6 rd)]) (wr := [(m0, aJ ca 7284 d), (m2, aZ ca 2 kp), (m3, aI ca 5 w), (m8, aI ca 6 dn), (m9, aI ca 6 dw), (m14, aI ca 200 t), (m21, aI ca 6 rN), (m22, aI ca 6 rW)]) (k_X8_readsFirst l g ca hm m0 m2 m3 m8 m9 m11 m12 m14 m19 m21 m22 m25 m26 un mo oft la du to tr n at0 sa vv rdu se its lt0 rd ) dX8_ring_1 (cwV 0 hts gX8_ring_X8_readsFirst rfl rfl rfl (by decide +kernel) (by rw [hR]; exact ⟨Nat.le_of_ble_eq_true rfl, Nat.le_of_ble_eq_true rfl⟩)) ⟨hx, hb, hml, hown, hts⟩ hl.1 hK hP hD hS hA 0 rfl rfl rfl [0, 7] [1, 2, 3, 4, 5, 6, 8, 9] rfl (by decide) rfl (by decide) (by decide) rfl rfl (Nat.le_of_ble_eq_true rfl) (by rw [hR]; exact ⟨Nat.le_of_ble_eq_true rfl, Nat.le_of_ble_eq_true rfl⟩) (fun u H locs q1 hP hD hS => ?_)
  have hP : va_P g vwCl [(hm, oB 8 [.ref m0, vI un, .ref m2, .ref m3, vI mo, vI oft, vI la, vI du, .ref m8, .ref m9, vI to, .ref m11, .ref m12, vJ tr, .ref m14, vI n, vI at0, vI sa, vI vv, .ref m19, vI 0, .ref m21, .ref m22, vI 0, vI 0, .ref m25, .ref m26, vJ lt0]), (m0, aJ ca 7284 d), (m2, aZ ca 2 kp), (m3, aI ca 5 w), (m8, aI ca 6 dn), (m9, aI ca 6 dw), (m14, aI ca 200 t), (m19, aI ca 6 rd0), (m21, aI ca 6 rN), (m22, aI ca 6 rW)] H := hP.sub [8, 0, 1, 2, 3, 4, 5, 9, 6, 7] rfl
  have hD : va_D A [(hm, oB 8 [.ref m0, vI un, .ref m2, .ref m3, vI mo, vI oft, vI la, vI du, .ref m8, .ref m9, vI to, .ref m11, .ref m12, vJ tr, .ref m14, vI n, vI at0, vI sa, vI vv, .ref m19, vI 0, .ref m21, .ref m22, vI 0, vI 0, .ref m25, .ref m26, vJ lt0]), (m0, aJ ca 7284 d), (m2, aZ ca 2 kp), (m3, aI ca 5 w), (m8, aI ca 6 dn), (m9, aI ca 6 dw), (m14, aI ca 200 t), (m19, aI ca 6 rd0), (m21, aI ca 6 rN), (m22, aI ca 6 rW)] := hD.sub [8, 0, 1, 2, 3, 4, 5, 9, 6, 7] (by decide) rfl
  refine lv_aload_n hx hb dX8_ring_4 rfl (lv_at hl 0 rfl) ?_
  refine lv_iconst (v := Int32.ofInt 0) hx hb dX8_ring_5 rfl ?_
  refine va_put (D := g) (ci := 8) (v := vI 0) (ty := .int) (C := RX8) (T := TX8) (N := 28) hx hb hts inF_X8 tyX8 tyX8_ok nmX8 hown hK.1 hP hD hS 0 rfl rfl 16 (by decide) lk_f98 (fun _ h9 => h9) rfl (by decide +kernel) rfl rfl (Nat.le_of_ble_eq_true rfl) dX8_ring_6 (fun H locs hP hD hS => ?_)
  have hP : va_P g vwCl [(hm, oB 8 [.ref m0, vI un, .ref m2, .ref m3, vI mo, vI oft, vI la, vI du, .ref m8, .ref m9, vI to, .ref m11, .ref m12, vJ tr, .ref m14, vI n, vI 0, vI sa, vI vv, .ref m19, vI 0, .ref m21, .ref m22, vI 0, vI 0, .ref m25, .ref m26, vJ lt0]), (m0, aJ ca 7284 d), (m2, aZ ca 2 kp), (m3, aI ca 5 w), (m8, aI ca 6 dn), (m9, aI ca 6 dw), (m14, aI ca 200 t), (m19, aI ca 6 rd0), (m21, aI ca 6 rN), (m22, aI ca 6 rW)] H := hP
  have hD : va_D A [(hm, oB 8 [.ref m0, vI un, .ref m2, .ref m3, vI mo, vI oft, vI la, vI du, .ref m8, .ref m9, vI to, .ref m11, .ref m12, vJ tr, .ref m14, vI n, vI 0, vI sa, vI vv, .ref m19, vI 0, .ref m21, .ref m22, vI 0, vI 0, .ref m25, .ref m26, vJ lt0]), (m0, aJ ca 7284 d), (m2, aZ ca 2 kp), (m3, aI ca 5 w), (m8, aI ca 6 dn), (m9, aI ca 6 dw), (m14, aI ca 200 t), (m19, aI ca 6 rd0), (m21, aI ca 6 rN), (m22, aI ca 6 rW)] := hD
  refine lv_aload_n hx hb dX8_ring_9 rfl (lv_at hl 0 rfl) ?_
  refine zc_VV (As := []) (rest := []) (wc := [(hm, oB 8 [.ref m0, vI un, .ref m2, .ref m3, vI mo, vI oft, vI la, vI du, .ref m8, .ref m9, vI to, .ref m11, .ref m12, vJ tr, .ref m14, vI n, vI 0, vI sa, vI vv, .ref m19, vI 0, .ref m21, .ref m22, vI 0, vI 0, .ref m25, .ref m26, vJ lt0]), (m14, aI ca 200 t)]) (wr := [(m0, aJ ca 7284 d), (m2, aZ ca 2 kp), (m3, aI ca 5 w), (m8, aI ca 6 dn), (m9, aI ca 6 dw), (m19, aI ca 6 rd0), (m21, aI ca 6 rN), (m22, aI ca 6 rW)]) (k_X8_blanks l g ca hm m0 m2 m3 m8 m9 m11 m12 m14 m19 m21 m22 m25 m26 un mo oft la du to tr n 0 sa vv 0 0 0 lt0 t (by first | assumption | omega) (by exact ⟨by omega, hn.1⟩)) dX8_ring_10 (cwV 0 hts gX8_ring_X8_blanks rfl rfl rfl (by decide +kernel) (by rw [hR]; exact ⟨Nat.le_of_ble_eq_true rfl, Nat.le_of_ble_eq_true rfl⟩)) ⟨hx, hb, hml, hown, hts⟩ hl.1 hK hP hD hS hA 0 rfl rfl rfl [0, 6] [1, 2, 3, 4, 5, 7, 8, 9] rfl (by decide) rfl (by decide) (by decide) rfl rfl (Nat.le_of_ble_eq_true rfl) (by rw [hR]; exact ⟨Nat.le_of_ble_eq_true rfl, Nat.le_of_ble_eq_true rfl⟩) (fun u H locs q10 hP hD hS => ?_)
  obtain ⟨at1_10, rfl⟩ : ∃ q, q = u := ⟨_, rfl⟩
  have q10 : at1_10 = skp t n 0 := q10
  have hP : va_P g vwCl [(hm, oB 8 [.ref m0, vI un, .ref m2, .ref m3, vI mo, vI oft, vI la, vI du, .ref m8, .ref m9, vI to, .ref m11, .ref m12, vJ tr, .ref m14, vI n, vI at1_10, vI at1_10, vI vv, .ref m19, vI 0, .ref m21, .ref m22, vI 0, vI 0, .ref m25, .ref m26, vJ lt0]), (m0, aJ ca 7284 d), (m2, aZ ca 2 kp), (m3, aI ca 5 w), (m8, aI ca 6 dn), (m9, aI ca 6 dw), (m14, aI ca 200 t), (m19, aI ca 6 rd0), (m21, aI ca 6 rN), (m22, aI ca 6 rW)] H := hP.sub [8, 0, 1, 2, 3, 4, 9, 5, 6, 7] rfl
  have hD : va_D A [(hm, oB 8 [.ref m0, vI un, .ref m2, .ref m3, vI mo, vI oft, vI la, vI du, .ref m8, .ref m9, vI to, .ref m11, .ref m12, vJ tr, .ref m14, vI n, vI at1_10, vI at1_10, vI vv, .ref m19, vI 0, .ref m21, .ref m22, vI 0, vI 0, .ref m25, .ref m26, vJ lt0]), (m0, aJ ca 7284 d), (m2, aZ ca 2 kp), (m3, aI ca 5 w), (m8, aI ca 6 dn), (m9, aI ca 6 dw), (m14, aI ca 200 t), (m19, aI ca 6 rd0), (m21, aI ca 6 rN), (m22, aI ca 6 rW)] := hD.sub [8, 0, 1, 2, 3, 4, 9, 5, 6, 7] (by decide) rfl
  have L13 : ∀ (N13 : Nat) (a : Int) (sa2 : Int) (vv2 : Int) (rdu2 : Int) (se2 : Int) (it : Int) (rd2 : Int → Int) (rN2 : Int → Int) (rW2 : Int → Int) (sr : Int) (sl : Int) (st1 : Int) (k : Nat) (ha : 0 ≤ a ∧ a ≤ n ∧ n - a < k ∧ 0 ≤ it) (hsk : skp t n a = a) (hse2 : se2 = sr + 2 * sl + 4 * st1) (hfl2 : (sr = 0 ∨ sr = 1) ∧ (sl = 0 ∨ sl = 1) ∧ (st1 = 0 ∨ st1 = 1)) (hPF : PF t n k a it sr sl st1 rd2 rdu2 rN2 rW2 = PF t n 201 (skp t n 0) 0 0 0 0 rd0 0 rN rW) (hRD2 : RDok rd2) (hDU2 : DUok rN2 rW2 rdu2) (hμ : k < N13) (H : Heap) (locs : List Loc) (hP : va_P g vwCl [(hm, oB 8 [.ref m0, vI un, .ref m2, .ref m3, vI mo, vI oft, vI la, vI du, .ref m8, .ref m9, vI to, .ref m11, .ref m12, vJ tr, .ref m14, vI n, vI a, vI sa2, vI vv2, .ref m19, vI rdu2, .ref m21, .ref m22, vI se2, vI it, .ref m25, .ref m26, vJ lt0]), (m0, aJ ca 7284 d), (m2, aZ ca 2 kp), (m3, aI ca 5 w), (m8, aI ca 6 dn), (m9, aI ca 6 dw), (m14, aI ca 200 t), (m19, aI ca 6 rd2), (m21, aI ca 6 rN2), (m22, aI ca 6 rW2)] H) (hD : va_D A [(hm, oB 8 [.ref m0, vI un, .ref m2, .ref m3, vI mo, vI oft, vI la, vI du, .ref m8, .ref m9, vI to, .ref m11, .ref m12, vJ tr, .ref m14, vI n, vI a, vI sa2, vI vv2, .ref m19, vI rdu2, .ref m21, .ref m22, vI se2, vI it, .ref m25, .ref m26, vJ lt0]), (m0, aJ ca 7284 d), (m2, aZ ca 2 kp), (m3, aI ca 5 w), (m8, aI ca 6 dn), (m9, aI ca 6 dw), (m14, aI ca 200 t), (m19, aI ca 6 rd2), (m21, aI ca 6 rN2), (m22, aI ca 6 rW2)]) (hS : va_S A s.heap H locs) (ls : Array Slot) (hl : lv_has ls 1 [(0, .ref hm)]), W p l e R s m args below meth c H locs 0 0 Q (F0 m 13 ls []) := by
    intro N13; induction N13 with
    | zero => intro a sa2 vv2 rdu2 se2 it rd2 rN2 rW2 sr sl st1 k ha hsk hse2 hfl2 hPF hRD2 hDU2 hμ; exact absurd hμ (Nat.not_lt_zero _)
    | succ N13 ih13 =>
      intro a sa2 vv2 rdu2 se2 it rd2 rN2 rW2 sr sl st1 k ha hsk hse2 hfl2 hPF hRD2 hDU2 hμ H locs hP hD hS ls hl
      refine lv_aload_n hx hb dX8_ring_13 rfl (lv_at hl 0 rfl) ?_
      refine va_get (D := g) (ci := 8) (v := vI a) (C := RX8) (T := TX8) (N := 28) hx hb hts inF_X8 hown hK.1 hP 0 rfl rfl 16 (by decide) lk_f98 (fun _ h9 => h9) rfl dX8_ring_14 ?_
      refine lv_aload_n hx hb dX8_ring_17 rfl (lv_at hl 0 rfl) ?_
      refine va_get (D := g) (ci := 8) (v := vI n) (C := RX8) (T := TX8) (N := 28) hx hb hts inF_X8 hown hK.1 hP 0 rfl rfl 15 (by decide) lk_f95 (fun _ h9 => h9) rfl dX8_ring_18 ?_
      refine ri_icmp_ge (tgt := 71) hx hb dX8_ring_21 (by decide) ⟨by omega, by omega⟩ ⟨by omega, by omega⟩ (fun c21 => ?_) (fun c21 => ?_)
      · skip
        refine lv_aload_n hx hb dX8_ring_71 rfl (lv_at hl 0 rfl) ?_
        refine zc_VV (As := []) (rest := []) (wc := [(hm, oB 8 [.ref m0, vI un, .ref m2, .ref m3, vI mo, vI oft, vI la, vI du, .ref m8, .ref m9, vI to, .ref m11, .ref m12, vJ tr, .ref m14, vI n, vI a, vI sa2, vI vv2, .ref m19, vI rdu2, .ref m21, .ref m22, vI se2, vI it, .ref m25, .ref m26, vJ lt0]), (m0, aJ ca 7284 d), (m2, aZ ca 2 kp), (m3, aI ca 5 w), (m8, aI ca 6 dn), (m9, aI ca 6 dw), (m19, aI ca 6 rd2), (m21, aI ca 6 rN2), (m22, aI ca 6 rW2)]) (wr := [(m14, aI ca 200 t)]) (k_X8_becomes l g ca hm m0 m2 m3 m8 m9 m11 m12 m14 m19 m21 m22 m25 m26 un mo oft la du to tr n a sa2 vv2 rdu2 se2 it lt0 d kp w dn dw rd2 rN2 rW2 (by exact hRD2)) dX8_ring_72 (cwV 0 hts gX8_ring_X8_becomes rfl rfl rfl (by decide +kernel) (by rw [hR]; exact ⟨Nat.le_of_ble_eq_true rfl, Nat.le_of_ble_eq_true rfl⟩)) ⟨hx, hb, hml, hown, hts⟩ hl.1 hK hP hD hS hA 0 rfl rfl rfl [0, 1, 2, 3, 4, 5, 7, 8, 9] [6] rfl (by decide) rfl (by decide) (by decide) rfl rfl (Nat.le_of_ble_eq_true rfl) (by rw [hR]; exact ⟨Nat.le_of_ble_eq_true rfl, Nat.le_of_ble_eq_true rfl⟩) (fun u H locs q72 hP hD hS => ?_)
        obtain ⟨d1_72, rfl⟩ : ∃ q, q = u := ⟨_, rfl⟩
        have q72 : AT d1_72 0 bg 0 0 := q72
        have hP : va_P g vwCl [(hm, oB 8 [.ref m0, vI 0, .ref m2, .ref m3, vI (rd2 1), vI (rd2 2), vI (rd2 5), vI rdu2, .ref m8, .ref m9, vI 0, .ref m11, .ref m12, vJ tr, .ref m14, vI n, vI a, vI sa2, vI vv2, .ref m19, vI rdu2, .ref m21, .ref m22, vI se2, vI it, .ref m25, .ref m26, vJ lt0]), (m0, aJ ca 7284 d1_72), (m2, aZ ca 2 (fun _ => 0)), (m3, aI ca 5 (wf (rd2 0) (rd2 3) (rd2 4))), (m8, aI ca 6 rN2), (m9, aI ca 6 rW2), (m14, aI ca 200 t), (m19, aI ca 6 rd2), (m21, aI ca 6 rN2), (m22, aI ca 6 rW2)] H := hP.sub [1, 2, 3, 4, 5, 6, 0, 7, 8, 9] rfl
        have hD : va_D A [(hm, oB 8 [.ref m0, vI 0, .ref m2, .ref m3, vI (rd2 1), vI (rd2 2), vI (rd2 5), vI rdu2, .ref m8, .ref m9, vI 0, .ref m11, .ref m12, vJ tr, .ref m14, vI n, vI a, vI sa2, vI vv2, .ref m19, vI rdu2, .ref m21, .ref m22, vI se2, vI it, .ref m25, .ref m26, vJ lt0]), (m0, aJ ca 7284 d1_72), (m2, aZ ca 2 (fun _ => 0)), (m3, aI ca 5 (wf (rd2 0) (rd2 3) (rd2 4))), (m8, aI ca 6 rN2), (m9, aI ca 6 rW2), (m14, aI ca 200 t), (m19, aI ca 6 rd2), (m21, aI ca 6 rN2), (m22, aI ca 6 rW2)] := hD.sub [1, 2, 3, 4, 5, 6, 0, 7, 8, 9] (by decide) rfl
        refine lv_aload_n hx hb dX8_ring_75 rfl (lv_at hl 0 rfl) ?_
        refine lv_iconst (v := Int32.ofInt 0) hx hb dX8_ring_76 rfl ?_
        refine va_put (D := g) (ci := 8) (v := vI 0) (ty := .int) (C := RX8) (T := TX8) (N := 28) hx hb hts inF_X8 tyX8 tyX8_ok nmX8 hown hK.1 hP hD hS 0 rfl rfl 15 (by decide) lk_f95 (fun _ h9 => h9) rfl (by decide +kernel) rfl rfl (Nat.le_of_ble_eq_true rfl) dX8_ring_77 (fun H locs hP hD hS => ?_)
        have hP : va_P g vwCl [(hm, oB 8 [.ref m0, vI 0, .ref m2, .ref m3, vI (rd2 1), vI (rd2 2), vI (rd2 5), vI rdu2, .ref m8, .ref m9, vI 0, .ref m11, .ref m12, vJ tr, .ref m14, vI 0, vI a, vI sa2, vI vv2, .ref m19, vI rdu2, .ref m21, .ref m22, vI se2, vI it, .ref m25, .ref m26, vJ lt0]), (m0, aJ ca 7284 d1_72), (m2, aZ ca 2 (fun _ => 0)), (m3, aI ca 5 (wf (rd2 0) (rd2 3) (rd2 4))), (m8, aI ca 6 rN2), (m9, aI ca 6 rW2), (m14, aI ca 200 t), (m19, aI ca 6 rd2), (m21, aI ca 6 rN2), (m22, aI ca 6 rW2)] H := hP
        have hD : va_D A [(hm, oB 8 [.ref m0, vI 0, .ref m2, .ref m3, vI (rd2 1), vI (rd2 2), vI (rd2 5), vI rdu2, .ref m8, .ref m9, vI 0, .ref m11, .ref m12, vJ tr, .ref m14, vI 0, vI a, vI sa2, vI vv2, .ref m19, vI rdu2, .ref m21, .ref m22, vI se2, vI it, .ref m25, .ref m26, vJ lt0]), (m0, aJ ca 7284 d1_72), (m2, aZ ca 2 (fun _ => 0)), (m3, aI ca 5 (wf (rd2 0) (rd2 3) (rd2 4))), (m8, aI ca 6 rN2), (m9, aI ca 6 rW2), (m14, aI ca 200 t), (m19, aI ca 6 rd2), (m21, aI ca 6 rN2), (m22, aI ca 6 rW2)] := hD
        refine lv_aload_n hx hb dX8_ring_80 rfl (lv_at hl 0 rfl) ?_
        refine va_get (D := g) (ci := 8) (v := vI it) (C := RX8) (T := TX8) (N := 28) hx hb hts inF_X8 hown hK.1 hP 0 rfl rfl 24 (by decide) lk_f64 (fun _ h9 => h9) rfl dX8_ring_81 ?_
        refine zr_I hx hb hr hlk hQ (a, sa2, vv2, rdu2, se2, it, 0, (rd2 1), (rd2 2), (rd2 5), rdu2, 0, 0, rd2, rN2, rW2, wf (rd2 0) (rd2 3) (rd2 4), rN2, rW2, fun _ => 0, d1_72) hP hD hS dX8_ring_84 (Nat.le_of_ble_eq_true rfl) (Nat.le_of_ble_eq_true rfl) ?_
        show it = (PF t n 201 (skp t n 0) 0 0 0 0 rd0 0 rN rW).1 ∧ ((it < 0 ∧ 0 = n ∧ (rd2 1) = mo ∧ (rd2 2) = oft ∧ (rd2 5) = la ∧ rdu2 = du ∧ 0 = to ∧ 0 = un ∧ (wf (rd2 0) (rd2 3) (rd2 4)) = w ∧ rN2 = dn ∧ rW2 = dw ∧ (fun _ => 0) = kp ∧ d1_72 = d) ∨ (0 ≤ it ∧ 0 = 0 ∧ 0 = 0 ∧ 0 = 0 ∧ (fun _ => 0) = (fun _ => 0) ∧ AT d1_72 0 bg 0 0 ∧ (PF t n 201 (skp t n 0) 0 0 0 0 rd0 0 rN rW).2 = (rd2, rdu2, rN2, rW2) ∧ (wf (rd2 0) (rd2 3) (rd2 4)) = wf (rd2 0) (rd2 3) (rd2 4) ∧ (rd2 1) = rd2 1 ∧ (rd2 2) = rd2 2 ∧ (rd2 5) = rd2 5))
        rw [PF_e (kd_end (by omega))] at hPF
        rw [← hPF]
        exact ⟨rfl, Or.inr ⟨by omega, rfl, rfl, rfl, rfl, q72, rfl, rfl, rfl, rfl, rfl⟩⟩
      · skip
        have hka : ¬ kd t n a = -1 := kd_in (by omega) (by have := hT.2 a (by omega) (by omega); omega)
        obtain ⟨k1, rfl⟩ : ∃ q, k = q + 1 := ⟨k - 1, by omega⟩
        refine lv_aload_n hx hb dX8_ring_24 rfl (lv_at hl 0 rfl) ?_
        refine lv_aload_n hx hb dX8_ring_25 rfl (lv_at hl 0 rfl) ?_
        refine va_get (D := g) (ci := 8) (v := vI a) (C := RX8) (T := TX8) (N := 28) hx hb hts inF_X8 hown hK.1 hP 0 rfl rfl 16 (by decide) lk_f98 (fun _ h9 => h9) rfl dX8_ring_26 ?_
        refine va_put (D := g) (ci := 8) (v := vI a) (ty := .int) (C := RX8) (T := TX8) (N := 28) hx hb hts inF_X8 tyX8 tyX8_ok nmX8 hown hK.1 hP hD hS 0 rfl rfl 17 (by decide) lk_f105 (fun _ h9 => h9) rfl (by decide +kernel) rfl rfl (Nat.le_of_ble_eq_true rfl) dX8_ring_29 (fun H locs hP hD hS => ?_)
        have hP : va_P g vwCl [(hm, oB 8 [.ref m0, vI un, .ref m2, .ref m3, vI mo, vI oft, vI la, vI du, .ref m8, .ref m9, vI to, .ref m11, .ref m12, vJ tr, .ref m14, vI n, vI a, vI a, vI vv2, .ref m19, vI rdu2, .ref m21, .ref m22, vI se2, vI it, .ref m25, .ref m26, vJ lt0]), (m0, aJ ca 7284 d), (m2, aZ ca 2 kp), (m3, aI ca 5 w), (m8, aI ca 6 dn), (m9, aI ca 6 dw), (m14, aI ca 200 t), (m19, aI ca 6 rd2), (m21, aI ca 6 rN2), (m22, aI ca 6 rW2)] H := hP
        have hD : va_D A [(hm, oB 8 [.ref m0, vI un, .ref m2, .ref m3, vI mo, vI oft, vI la, vI du, .ref m8, .ref m9, vI to, .ref m11, .ref m12, vJ tr, .ref m14, vI n, vI a, vI a, vI vv2, .ref m19, vI rdu2, .ref m21, .ref m22, vI se2, vI it, .ref m25, .ref m26, vJ lt0]), (m0, aJ ca 7284 d), (m2, aZ ca 2 kp), (m3, aI ca 5 w), (m8, aI ca 6 dn), (m9, aI ca 6 dw), (m14, aI ca 200 t), (m19, aI ca 6 rd2), (m21, aI ca 6 rN2), (m22, aI ca 6 rW2)] := hD
        refine lv_aload_n hx hb dX8_ring_32 rfl (lv_at hl 0 rfl) ?_
        refine zc_VI (As := []) (rest := []) (wc := [(hm, oB 8 [.ref m0, vI un, .ref m2, .ref m3, vI mo, vI oft, vI la, vI du, .ref m8, .ref m9, vI to, .ref m11, .ref m12, vJ tr, .ref m14, vI n, vI a, vI a, vI vv2, .ref m19, vI rdu2, .ref m21, .ref m22, vI se2, vI it, .ref m25, .ref m26, vJ lt0]), (m14, aI ca 200 t), (m19, aI ca 6 rd2), (m21, aI ca 6 rN2), (m22, aI ca 6 rW2)]) (wr := [(m0, aJ ca 7284 d), (m2, aZ ca 2 kp), (m3, aI ca 5 w), (m8, aI ca 6 dn), (m9, aI ca 6 dw)]) (k_X8_takesItem l g ca hm m0 m2 m3 m8 m9 m11 m12 m14 m19 m21 m22 m25 m26 un mo oft la du to tr n a a vv2 rdu2 se2 it lt0 t rd2 rN2 rW2 sr sl st1 (by first | assumption | omega) (by first | assumption | omega) (by rfl) (by exact hse2) (by exact hfl2) (by exact hDU2.1)) dX8_ring_33 (cwV 0 hts gX8_ring_X8_takesItem rfl rfl rfl (by decide +kernel) (by rw [hR]; exact ⟨Nat.le_of_ble_eq_true rfl, Nat.le_of_ble_eq_true rfl⟩)) ⟨hx, hb, hml, hown, hts⟩ hl.1 hK hP hD hS hA 0 rfl rfl rfl [0, 6, 7, 8, 9] [1, 2, 3, 4, 5] rfl (by decide) rfl (by decide) (by decide) rfl rfl (Nat.le_of_ble_eq_true rfl) (by rw [hR]; exact ⟨Nat.le_of_ble_eq_true rfl, Nat.le_of_ble_eq_true rfl⟩) (fun z33 u H locs q33 hP hD hS => ?_)
        obtain ⟨at1_33, sa1_33, vv1_33, rdu1_33, se1_33, rd1_33, rN1_33, rW1_33⟩ := u
        have q33 : (a ≤ at1_33 ∧ at1_33 ≤ n) ∧ ((z33 = 1 ∧ itc t n a sr sl st1 rdu2 = (0, skp t n at1_33) ∧ rd1_33 = itr t n a sr sl st1 rd2 ∧ rdu1_33 = itu t n a rdu2 ∧ rN1_33 = itn t n a rdu2 rN2 ∧ rW1_33 = itw t n a rdu2 rW2 ∧ se1_33 = fl t n a 114 sr + 2 * fl t n a 108 sl + 4 * fl t n a 116 st1) ∨ (z33 = 0 ∧ itc t n a sr sl st1 rdu2 = (1, sa1_33))) := q33
        obtain ⟨q33_0, q33_1⟩ := q33
        have hP : va_P g vwCl [(hm, oB 8 [.ref m0, vI un, .ref m2, .ref m3, vI mo, vI oft, vI la, vI du, .ref m8, .ref m9, vI to, .ref m11, .ref m12, vJ tr, .ref m14, vI n, vI at1_33, vI sa1_33, vI vv1_33, .ref m19, vI rdu1_33, .ref m21, .ref m22, vI se1_33, vI it, .ref m25, .ref m26, vJ lt0]), (m0, aJ ca 7284 d), (m2, aZ ca 2 kp), (m3, aI ca 5 w), (m8, aI ca 6 dn), (m9, aI ca 6 dw), (m14, aI ca 200 t), (m19, aI ca 6 rd1_33), (m21, aI ca 6 rN1_33), (m22, aI ca 6 rW1_33)] H := hP.sub [5, 0, 1, 2, 3, 4, 6, 7, 8, 9] rfl
        have hD : va_D A [(hm, oB 8 [.ref m0, vI un, .ref m2, .ref m3, vI mo, vI oft, vI la, vI du, .ref m8, .ref m9, vI to, .ref m11, .ref m12, vJ tr, .ref m14, vI n, vI at1_33, vI sa1_33, vI vv1_33, .ref m19, vI rdu1_33, .ref m21, .ref m22, vI se1_33, vI it, .ref m25, .ref m26, vJ lt0]), (m0, aJ ca 7284 d), (m2, aZ ca 2 kp), (m3, aI ca 5 w), (m8, aI ca 6 dn), (m9, aI ca 6 dw), (m14, aI ca 200 t), (m19, aI ca 6 rd1_33), (m21, aI ca 6 rN1_33), (m22, aI ca 6 rW1_33)] := hD.sub [5, 0, 1, 2, 3, 4, 6, 7, 8, 9] (by decide) rfl
        refine ri_if_eq (tgt := 46) hx hb dX8_ring_36 (by decide) ⟨by omega, by omega⟩ (fun c36 => ?_) (fun c36 => ?_)
        · skip
          refine lv_bipush (v := Int32.ofInt (-10)) hx hb dX8_ring_46 (by decide) ?_
          refine lv_aload_n hx hb dX8_ring_48 rfl (lv_at hl 0 rfl) ?_
          refine va_get (D := g) (ci := 8) (v := vI sa1_33) (C := RX8) (T := TX8) (N := 28) hx hb hts inF_X8 hown hK.1 hP 0 rfl rfl 17 (by decide) lk_f105 (fun _ h9 => h9) rfl dX8_ring_49 ?_
          refine ri_sub hx hb dX8_ring_52 (fun z52 e52 => ?_)
          refine zr_I hx hb hr hlk hQ (at1_33, sa1_33, vv1_33, rdu1_33, se1_33, it, n, mo, oft, la, du, to, un, rd1_33, rN1_33, rW1_33, w, dn, dw, kp, d) hP hD hS dX8_ring_53 (Nat.le_of_ble_eq_true rfl) (Nat.le_of_ble_eq_true rfl) ?_
          show z52 = (PF t n 201 (skp t n 0) 0 0 0 0 rd0 0 rN rW).1 ∧ ((z52 < 0 ∧ n = n ∧ mo = mo ∧ oft = oft ∧ la = la ∧ du = du ∧ to = to ∧ un = un ∧ w = w ∧ dn = dn ∧ dw = dw ∧ kp = kp ∧ d = d) ∨ (0 ≤ z52 ∧ n = 0 ∧ to = 0 ∧ un = 0 ∧ kp = (fun _ => 0) ∧ AT d 0 bg 0 0 ∧ (PF t n 201 (skp t n 0) 0 0 0 0 rd0 0 rN rW).2 = (rd1_33, du, dn, dw) ∧ w = wf (rd1_33 0) (rd1_33 3) (rd1_33 4) ∧ mo = rd1_33 1 ∧ oft = rd1_33 2 ∧ la = rd1_33 5))
          have hfx : itf t n a sr sl st1 rdu2 = (1, -10 - z52) ∧ 0 ≤ -10 - z52 := by
            rcases q33_1 with h9 | h9
            · first
              | (exfalso; omega)
              | (rcases q40_2 with g9 | g9
                 · exfalso; omega
                 · refine ⟨?_, by have := skp_all t (show at1_33 ≤ n by omega); omega⟩
                   unfold itf
                   rw [h9.2.1, ps_no g9.2]
                   exact Prod.ext rfl (by show skp t n at1_33 = _; omega))
            · first
              | (exfalso; omega)
              | (have hge := itc_ge t (show a < n by omega) sr sl st1 rdu2
                 rw [h9.2] at hge
                 have hge : a ≤ sa1_33 := hge
                 refine ⟨?_, by omega⟩
                 unfold itf
                 rw [h9.2, ps_bad, show -10 - z52 = sa1_33 by omega])
          rw [PF_f hka (by rw [hfx.1]), hfx.1] at hPF
          rw [← hPF]
          exact ⟨by show _ = -10 - (-10 - _); omega, Or.inl ⟨by omega, rfl, rfl, rfl, rfl, rfl, rfl, rfl, rfl, rfl, rfl, rfl, rfl⟩⟩
        · skip
          refine lv_aload_n hx hb dX8_ring_39 rfl (lv_at hl 0 rfl) ?_
          refine zc_VI (As := []) (rest := []) (wc := [(hm, oB 8 [.ref m0, vI un, .ref m2, .ref m3, vI mo, vI oft, vI la, vI du, .ref m8, .ref m9, vI to, .ref m11, .ref m12, vJ tr, .ref m14, vI n, vI at1_33, vI sa1_33, vI vv1_33, .ref m19, vI rdu1_33, .ref m21, .ref m22, vI se1_33, vI it, .ref m25, .ref m26, vJ lt0]), (m14, aI ca 200 t)]) (wr := [(m0, aJ ca 7284 d), (m2, aZ ca 2 kp), (m3, aI ca 5 w), (m8, aI ca 6 dn), (m9, aI ca 6 dw), (m19, aI ca 6 rd1_33), (m21, aI ca 6 rN1_33), (m22, aI ca 6 rW1_33)]) (k_X8_takesEnd l g ca hm m0 m2 m3 m8 m9 m11 m12 m14 m19 m21 m22 m25 m26 un mo oft la du to tr n at1_33 sa1_33 vv1_33 rdu1_33 se1_33 it lt0 t (by first | assumption | omega) (by first | assumption | omega)) dX8_ring_40 (cwV 0 hts gX8_ring_X8_takesEnd rfl rfl rfl (by decide +kernel) (by rw [hR]; exact ⟨Nat.le_of_ble_eq_true rfl, Nat.le_of_ble_eq_true rfl⟩)) ⟨hx, hb, hml, hown, hts⟩ hl.1 hK hP hD hS hA 0 rfl rfl rfl [0, 6] [1, 2, 3, 4, 5, 7, 8, 9] rfl (by decide) rfl (by decide) (by decide) rfl rfl (Nat.le_of_ble_eq_true rfl) (by rw [hR]; exact ⟨Nat.le_of_ble_eq_true rfl, Nat.le_of_ble_eq_true rfl⟩) (fun z40 u H locs q40 hP hD hS => ?_)
          obtain ⟨at1_40, sa1_40⟩ := u
          have q40 : sa1_40 = skp t n at1_33 ∧ (at1_33 ≤ at1_40 ∧ at1_40 ≤ n) ∧ ((z40 = 1 ∧ kd t n (skp t n at1_33) = 59 ∧ nx t n (skp t n at1_33) = skp t n at1_40) ∨ (z40 = 0 ∧ ¬ kd t n (skp t n at1_33) = 59)) := q40
          obtain ⟨q40_0, q40_1, q40_2⟩ := q40
          have hP : va_P g vwCl [(hm, oB 8 [.ref m0, vI un, .ref m2, .ref m3, vI mo, vI oft, vI la, vI du, .ref m8, .ref m9, vI to, .ref m11, .ref m12, vJ tr, .ref m14, vI n, vI at1_40, vI sa1_40, vI vv1_33, .ref m19, vI rdu1_33, .ref m21, .ref m22, vI se1_33, vI it, .ref m25, .ref m26, vJ lt0]), (m0, aJ ca 7284 d), (m2, aZ ca 2 kp), (m3, aI ca 5 w), (m8, aI ca 6 dn), (m9, aI ca 6 dw), (m14, aI ca 200 t), (m19, aI ca 6 rd1_33), (m21, aI ca 6 rN1_33), (m22, aI ca 6 rW1_33)] H := hP.sub [8, 0, 1, 2, 3, 4, 9, 5, 6, 7] rfl
          have hD : va_D A [(hm, oB 8 [.ref m0, vI un, .ref m2, .ref m3, vI mo, vI oft, vI la, vI du, .ref m8, .ref m9, vI to, .ref m11, .ref m12, vJ tr, .ref m14, vI n, vI at1_40, vI sa1_40, vI vv1_33, .ref m19, vI rdu1_33, .ref m21, .ref m22, vI se1_33, vI it, .ref m25, .ref m26, vJ lt0]), (m0, aJ ca 7284 d), (m2, aZ ca 2 kp), (m3, aI ca 5 w), (m8, aI ca 6 dn), (m9, aI ca 6 dw), (m14, aI ca 200 t), (m19, aI ca 6 rd1_33), (m21, aI ca 6 rN1_33), (m22, aI ca 6 rW1_33)] := hD.sub [8, 0, 1, 2, 3, 4, 9, 5, 6, 7] (by decide) rfl
          refine ri_if_ne (tgt := 54) hx hb dX8_ring_43 (by decide) ⟨by omega, by omega⟩ (fun c43 => ?_) (fun c43 => ?_)
          · skip
            refine lv_aload_n hx hb dX8_ring_54 rfl (lv_at hl 0 rfl) ?_
            refine lv_dup hx hb dX8_ring_55 rfl ?_
            refine va_get (D := g) (ci := 8) (v := vI it) (C := RX8) (T := TX8) (N := 28) hx hb hts inF_X8 hown hK.1 hP 0 rfl rfl 24 (by decide) lk_f64 (fun _ h9 => h9) rfl dX8_ring_56 ?_
            refine lv_iconst (v := Int32.ofInt 1) hx hb dX8_ring_59 rfl ?_
            refine ri_add hx hb dX8_ring_60 (fun z60 e60 => ?_)
            refine va_put (D := g) (ci := 8) (v := vI z60) (ty := .int) (C := RX8) (T := TX8) (N := 28) hx hb hts inF_X8 tyX8 tyX8_ok nmX8 hown hK.1 hP hD hS 0 rfl rfl 24 (by decide) lk_f64 (fun _ h9 => h9) rfl (by decide +kernel) rfl rfl (Nat.le_of_ble_eq_true rfl) dX8_ring_61 (fun H locs hP hD hS => ?_)
            have hP : va_P g vwCl [(hm, oB 8 [.ref m0, vI un, .ref m2, .ref m3, vI mo, vI oft, vI la, vI du, .ref m8, .ref m9, vI to, .ref m11, .ref m12, vJ tr, .ref m14, vI n, vI at1_40, vI sa1_40, vI vv1_33, .ref m19, vI rdu1_33, .ref m21, .ref m22, vI se1_33, vI z60, .ref m25, .ref m26, vJ lt0]), (m0, aJ ca 7284 d), (m2, aZ ca 2 kp), (m3, aI ca 5 w), (m8, aI ca 6 dn), (m9, aI ca 6 dw), (m14, aI ca 200 t), (m19, aI ca 6 rd1_33), (m21, aI ca 6 rN1_33), (m22, aI ca 6 rW1_33)] H := hP
            have hD : va_D A [(hm, oB 8 [.ref m0, vI un, .ref m2, .ref m3, vI mo, vI oft, vI la, vI du, .ref m8, .ref m9, vI to, .ref m11, .ref m12, vJ tr, .ref m14, vI n, vI at1_40, vI sa1_40, vI vv1_33, .ref m19, vI rdu1_33, .ref m21, .ref m22, vI se1_33, vI z60, .ref m25, .ref m26, vJ lt0]), (m0, aJ ca 7284 d), (m2, aZ ca 2 kp), (m3, aI ca 5 w), (m8, aI ca 6 dn), (m9, aI ca 6 dw), (m14, aI ca 200 t), (m19, aI ca 6 rd1_33), (m21, aI ca 6 rN1_33), (m22, aI ca 6 rW1_33)] := hD
            refine lv_aload_n hx hb dX8_ring_64 rfl (lv_at hl 0 rfl) ?_
            refine zc_VV (As := []) (rest := []) (wc := [(hm, oB 8 [.ref m0, vI un, .ref m2, .ref m3, vI mo, vI oft, vI la, vI du, .ref m8, .ref m9, vI to, .ref m11, .ref m12, vJ tr, .ref m14, vI n, vI at1_40, vI sa1_40, vI vv1_33, .ref m19, vI rdu1_33, .ref m21, .ref m22, vI se1_33, vI z60, .ref m25, .ref m26, vJ lt0]), (m14, aI ca 200 t)]) (wr := [(m0, aJ ca 7284 d), (m2, aZ ca 2 kp), (m3, aI ca 5 w), (m8, aI ca 6 dn), (m9, aI ca 6 dw), (m19, aI ca 6 rd1_33), (m21, aI ca 6 rN1_33), (m22, aI ca 6 rW1_33)]) (k_X8_blanks l g ca hm m0 m2 m3 m8 m9 m11 m12 m14 m19 m21 m22 m25 m26 un mo oft la du to tr n at1_40 sa1_40 vv1_33 rdu1_33 se1_33 z60 lt0 t (by first | assumption | omega) (by first | assumption | omega)) dX8_ring_65 (cwV 0 hts gX8_ring_X8_blanks rfl rfl rfl (by decide +kernel) (by rw [hR]; exact ⟨Nat.le_of_ble_eq_true rfl, Nat.le_of_ble_eq_true rfl⟩)) ⟨hx, hb, hml, hown, hts⟩ hl.1 hK hP hD hS hA 0 rfl rfl rfl [0, 6] [1, 2, 3, 4, 5, 7, 8, 9] rfl (by decide) rfl (by decide) (by decide) rfl rfl (Nat.le_of_ble_eq_true rfl) (by rw [hR]; exact ⟨Nat.le_of_ble_eq_true rfl, Nat.le_of_ble_eq_true rfl⟩) (fun u H locs q65 hP hD hS => ?_)
            obtain ⟨at1_65, rfl⟩ : ∃ q, q = u := ⟨_, rfl⟩
            have q65 : at1_65 = skp t n at1_40 := q65
            have hP : va_P g vwCl [(hm, oB 8 [.ref m0, vI un, .ref m2, .ref m3, vI mo, vI oft, vI la, vI du, .ref m8, .ref m9, vI to, .ref m11, .ref m12, vJ tr, .ref m14, vI n, vI at1_65, vI at1_65, vI vv1_33, .ref m19, vI rdu1_33, .ref m21, .ref m22, vI se1_33, vI z60, .ref m25, .ref m26, vJ lt0]), (m0, aJ ca 7284 d), (m2, aZ ca 2 kp), (m3, aI ca 5 w), (m8, aI ca 6 dn), (m9, aI ca 6 dw), (m14, aI ca 200 t), (m19, aI ca 6 rd1_33), (m21, aI ca 6 rN1_33), (m22, aI ca 6 rW1_33)] H := hP.sub [8, 0, 1, 2, 3, 4, 9, 5, 6, 7] rfl
            have hD : va_D A [(hm, oB 8 [.ref m0, vI un, .ref m2, .ref m3, vI mo, vI oft, vI la, vI du, .ref m8, .ref m9, vI to, .ref m11, .ref m12, vJ tr, .ref m14, vI n, vI at1_65, vI at1_65, vI vv1_33, .ref m19, vI rdu1_33, .ref m21, .ref m22, vI se1_33, vI z60, .ref m25, .ref m26, vJ lt0]), (m0, aJ ca 7284 d), (m2, aZ ca 2 kp), (m3, aI ca 5 w), (m8, aI ca 6 dn), (m9, aI ca 6 dw), (m14, aI ca 200 t), (m19, aI ca 6 rd1_33), (m21, aI ca 6 rN1_33), (m22, aI ca 6 rW1_33)] := hD.sub [8, 0, 1, 2, 3, 4, 9, 5, 6, 7] (by decide) rfl
            refine lv_goto (tgt := 13) hx hb dX8_ring_68 (by decide) ?_
            have hI : z33 = 1 ∧ itc t n a sr sl st1 rdu2 = (0, skp t n at1_33) ∧ rd1_33 = itr t n a sr sl st1 rd2 ∧ rdu1_33 = itu t n a rdu2 ∧ rN1_33 = itn t n a rdu2 rN2 ∧ rW1_33 = itw t n a rdu2 rW2 ∧ se1_33 = fl t n a 114 sr + 2 * fl t n a 108 sl + 4 * fl t n a 116 st1 := by
              rcases q33_1 with h9 | h9
              · exact h9
              · omega
            have hE40 : kd t n (skp t n at1_33) = 59 ∧ nx t n (skp t n at1_33) = skp t n at1_40 := by
              rcases q40_2 with h9 | h9
              · exact h9.2
              · omega
            have hitf : itf t n a sr sl st1 rdu2 = (0, skp t n at1_40) := by
              unfold itf
              rw [hI.2.1, ps_ok hE40.1, hE40.2]
            have hat65 : at1_65 = skp t n at1_40 := q65
            have hg9 := itc_ge t (show a < n by omega) sr sl st1 rdu2
            rw [hI.2.1] at hg9
            have hg9 : a ≤ skp t n at1_33 := hg9
            have hb9 := nx_bd t (kd_lt (show kd t n (skp t n at1_33) ≠ -1 by omega))
            rw [hE40.2] at hb9
            exact ih13 at1_65 at1_65 vv1_33 rdu1_33 se1_33 z60 rd1_33 rN1_33 rW1_33 (fl t n a 114 sr) (fl t n a 108 sl) (fl t n a 116 st1) k1 (by omega) (by rw [q65]; exact skp_skp t (by omega)) (by exact hI.2.2.2.2.2.2) (by unfold fl; refine ⟨?_, ?_, ?_⟩ <;> split <;> omega) (by rw [← hPF, PF_s hka (by rw [hitf]; show ¬ (0 : Int) = 1; omega), hitf, hI.2.2.1, hI.2.2.2.1, hI.2.2.2.2.1, hI.2.2.2.2.2.1, e60, hat65]) (by rw [hI.2.2.1]; exact itr_ok (du := rdu2) hRD2 (by rw [hitf])) (by rw [hI.2.2.2.1, hI.2.2.2.2.1, hI.2.2.2.2.2.1]; exact itd_ok (sr := sr) (sl := sl) (st := st1) hDU2 (by rw [hitf])) (by omega) _ _ hP hD hS ls (lv_sub hl [0] rfl)
          · skip
            refine lv_bipush (v := Int32.ofInt (-10)) hx hb dX8_ring_46 (by decide) ?_
            refine lv_aload_n hx hb dX8_ring_48 rfl (lv_at hl 0 rfl) ?_
            refine va_get (D := g) (ci := 8) (v := vI sa1_40) (C := RX8) (T := TX8) (N := 28) hx hb hts inF_X8 hown hK.1 hP 0 rfl rfl 17 (by decide) lk_f105 (fun _ h9 => h9) rfl dX8_ring_49 ?_
            refine ri_sub hx hb dX8_ring_52 (fun z52 e52 => ?_)
            refine zr_I hx hb hr hlk hQ (at1_40, sa1_40, vv1_33, rdu1_33, se1_33, it, n, mo, oft, la, du, to, un, rd1_33, rN1_33, rW1_33, w, dn, dw, kp, d) hP hD hS dX8_ring_53 (Nat.le_of_ble_eq_true rfl) (Nat.le_of_ble_eq_true rfl) ?_
            show z52 = (PF t n 201 (skp t n 0) 0 0 0 0 rd0 0 rN rW).1 ∧ ((z52 < 0 ∧ n = n ∧ mo = mo ∧ oft = oft ∧ la = la ∧ du = du ∧ to = to ∧ un = un ∧ w = w ∧ dn = dn ∧ dw = dw ∧ kp = kp ∧ d = d) ∨ (0 ≤ z52 ∧ n = 0 ∧ to = 0 ∧ un = 0 ∧ kp = (fun _ => 0) ∧ AT d 0 bg 0 0 ∧ (PF t n 201 (skp t n 0) 0 0 0 0 rd0 0 rN rW).2 = (rd1_33, du, dn, dw) ∧ w = wf (rd1_33 0) (rd1_33 3) (rd1_33 4) ∧ mo = rd1_33 1 ∧ oft = rd1_33 2 ∧ la = rd1_33 5))
            have hfx : itf t n a sr sl st1 rdu2 = (1, -10 - z52) ∧ 0 ≤ -10 - z52 := by
              rcases q33_1 with h9 | h9
              · first
                | (exfalso; omega)
                | (rcases q40_2 with g9 | g9
                   · exfalso; omega
                   · refine ⟨?_, by have := skp_all t (show at1_33 ≤ n by omega); omega⟩
                     unfold itf
                     rw [h9.2.1, ps_no g9.2]
                     exact Prod.ext rfl (by show skp t n at1_33 = _; omega))
              · first
                | (exfalso; omega)
                | (have hge := itc_ge t (show a < n by omega) sr sl st1 rdu2
                   rw [h9.2] at hge
                   have hge : a ≤ sa1_33 := hge
                   refine ⟨?_, by omega⟩
                   unfold itf
                   rw [h9.2, ps_bad, show -10 - z52 = sa1_33 by omega])
            rw [PF_f hka (by rw [hfx.1]), hfx.1] at hPF
            rw [← hPF]
            exact ⟨by show _ = -10 - (-10 - _); omega, Or.inl ⟨by omega, rfl, rfl, rfl, rfl, rfl, rfl, rfl, rfl, rfl, rfl, rfl, rfl⟩⟩
  exact L13 _ at1_10 at1_10 vv 0 0 0 rd0 rN rW 0 0 0 201 (by have h9 := skp_all t hn.1; omega) (by rw [q10]; exact skp_skp t hn.1) (by rfl) (by omega) (by rw [q10]) (by unfold RDok LAWok; decide) (by exact ⟨by omega, fun i h1 h2 => by omega⟩) (Nat.lt_succ_self _) _ _ hP hD hS ls (lv_sub hl [0] rfl)
set_option maxHeartbeats 4000000 in
set_option maxRecDepth 100000 in
theorem k_X8_init (l : Launch) (g : va_G) (ca : Nat → ClassId) (hm : Nat)  : zV (S := Nat × Nat × Nat × Nat × Nat × Nat × Nat × Nat × Nat × Nat × Nat × Nat × Nat × (Int → Int)) l yX8_init wsX8_init ({ frames := 2, cells := 13, slots := 9352, locals := 43 } : Room) g ca [.ref hm] [(hm, oB 8 [.null, vI 0, .null, .null, vI 0, vI 0, vI 0, vI 0, .null, .null, vI 0, .null, .null, vJ 0, .null, vI 0, vI 0, vI 0, vI 0, .null, vI 0, .null, .null, vI 0, vI 0, .null, .null, vJ 0])] (fun (u : Nat × Nat × Nat × Nat × Nat × Nat × Nat × Nat × Nat × Nat × Nat × Nat × Nat × (Int → Int)) => AT u.2.2.2.2.2.2.2.2.2.2.2.2.2 0 bg 0 0) (fun (u : Nat × Nat × Nat × Nat × Nat × Nat × Nat × Nat × Nat × Nat × Nat × Nat × Nat × (Int → Int)) => [(hm, oB 8 [.ref u.1, vI 0, .ref u.2.1, .ref u.2.2.1, vI 8, vI 9, vI 0, vI 0, .ref u.2.2.2.1, .ref u.2.2.2.2.1, vI 0, .ref u.2.2.2.2.2.1, .ref u.2.2.2.2.2.2.1, vJ 0, .ref u.2.2.2.2.2.2.2.1, vI 0, vI 0, vI 0, vI 0, .ref u.2.2.2.2.2.2.2.2.1, vI 0, .ref u.2.2.2.2.2.2.2.2.2.1, .ref u.2.2.2.2.2.2.2.2.2.2.1, vI 0, vI 0, .ref u.2.2.2.2.2.2.2.2.2.2.2.1, .ref u.2.2.2.2.2.2.2.2.2.2.2.2.1, vJ 0]), (u.1, aJ ca 7284 u.2.2.2.2.2.2.2.2.2.2.2.2.2), (u.2.1, aZ ca 2 (fun _ => 0)), (u.2.2.1, aI ca 5 (wf 81 1 3)), (u.2.2.2.1, aI ca 6 (fun _ => 0)), (u.2.2.2.2.1, aI ca 6 (fun _ => 0)), (u.2.2.2.2.2.1, aI ca 5 (fun _ => 0)), (u.2.2.2.2.2.2.1, aI ca 5 (fun _ => 0)), (u.2.2.2.2.2.2.2.1, aI ca 200 (fun _ => 0)), (u.2.2.2.2.2.2.2.2.1, aI ca 6 rd0), (u.2.2.2.2.2.2.2.2.2.1, aI ca 6 (fun _ => 0)), (u.2.2.2.2.2.2.2.2.2.2.1, aI ca 6 (fun _ => 0)), (u.2.2.2.2.2.2.2.2.2.2.2.1, aZ ca 1806 (fun _ => 0)), (u.2.2.2.2.2.2.2.2.2.2.2.2.1, aI ca 5 (fun _ => 0))]) 13 9352 := by
  refine zm_V (cc := cX8_init) (maxL := 1) (ret := none) (by decide) rfl (Nat.le_of_ble_eq_true rfl) ?_
  intro p e s m below meth c A ls R args Q hR hargs hQ hx hb hml hr hts hown hlk hnm hK hP hD hA hS hl
  have hown : s.vm.findClass RX8 = some m.cls := hown
  have hl : lv_has ls 1 [(0, .ref hm)] := hl
  have lk_oi1 : (Cond.methodLink RX8 1 objectInit).before args s = true := hts _ (by decide +kernel)
  have lk_oi2 : (Cond.instanceMethod objectInit).before args s = true := hts _ (by decide +kernel)
  have lk_oi3 : (Cond.code objectInit ⟨#[0xb1]⟩ 1 none).before args s = true := hts _ (by decide +kernel)
  have lk_along : (Cond.arrayClass .long).before args s = true := hts _ (by decide +kernel)
  have lk_f7 : (Cond.fieldLink RX8 7 "DripRingsModel" "d" "[J").before args s = true := hts _ (by decide +kernel)
  have inF_X8 : ∀ w ∈ wsX80, w ∈ wsX8_init := by decide +kernel
  have lk_aboolean : (Cond.arrayClass .boolean).before args s = true := hts _ (by decide +kernel)
  have lk_f13 : (Cond.fieldLink RX8 13 "DripRingsModel" "isKept" "[Z").before args s = true := hts _ (by decide +kernel)
  have lk_aint : (Cond.arrayClass .int).before args s = true := hts _ (by decide +kernel)
  have lk_f17 : (Cond.fieldLink RX8 17 "DripRingsModel" "weights" "[I").before args s = true := hts _ (by decide +kernel)
  have lk_f21 : (Cond.fieldLink RX8 21 "DripRingsModel" "dueNight" "[I").before args s = true := hts _ (by decide +kernel)
  have lk_f24 : (Cond.fieldLink RX8 24 "DripRingsModel" "dueWeight" "[I").before args s = true := hts _ (by decide +kernel)
  have lk_f27 : (Cond.fieldLink RX8 27 "DripRingsModel" "graveOrder" "[I").before args s = true := hts _ (by decide +kernel)
  have lk_f30 : (Cond.fieldLink RX8 30 "DripRingsModel" "graveMany" "[I").before args s = true := hts _ (by decide +kernel)
  have lk_f33 : (Cond.fieldLink RX8 33 "DripRingsModel" "text" "[I").before args s = true := hts _ (by decide +kernel)
  have lk_f36 : (Cond.fieldLink RX8 36 "DripRingsModel" "read" "[I").before args s = true := hts _ (by decide +kernel)
  have lk_f39 : (Cond.fieldLink RX8 39 "DripRingsModel" "readNight" "[I").before args s = true := hts _ (by decide +kernel)
  have lk_f42 : (Cond.fieldLink RX8 42 "DripRingsModel" "readWeight" "[I").before args s = true := hts _ (by decide +kernel)
  have lk_f45 : (Cond.fieldLink RX8 45 "DripRingsModel" "can" "[Z").before args s = true := hts _ (by decide +kernel)
  have lk_f48 : (Cond.fieldLink RX8 48 "DripRingsModel" "chosen" "[I").before args s = true := hts _ (by decide +kernel)
  refine lv_aload_n hx hb dX8_init_0 rfl (lv_at hl 0 rfl) ?_
  refine W.objInit hx hb hown lk_oi1 lk_oi2 lk_oi3 rfl (by rw [hml]; exact hl.1) rfl dX8_init_1 (by rw [hR]; exact Nat.le_of_ble_eq_true rfl) (by rw [hR]; exact Nat.le_of_ble_eq_true rfl) ?_
  refine W.eq (g2 := F0 m 4 ls []) rfl ?_
  refine lv_aload_n hx hb dX8_init_4 rfl (lv_at hl 0 rfl) ?_
  refine lv_sipush (v := Int32.ofInt 7284) hx hb dX8_init_5 (by decide) ?_
  refine ra_newJ (N := 7284) hx hb lk_along hK hP hD hS hA dX8_init_8 rfl (Nat.le_of_ble_eq_true rfl) (by rw [hR]; exact Nat.le_of_ble_eq_true rfl) (by rw [hR]; exact Nat.le_of_ble_eq_true rfl) (fun h8 H hP hD hS => ?_)
  have hP : va_P g vwCl [(hm, oB 8 [.null, vI 0, .null, .null, vI 0, vI 0, vI 0, vI 0, .null, .null, vI 0, .null, .null, vJ 0, .null, vI 0, vI 0, vI 0, vI 0, .null, vI 0, .null, .null, vI 0, vI 0, .null, .null, vJ 0]), (h8, aJ ca 7284 (fun _ => 0))] H := hP
  have hD : va_D A [(hm, oB 8 [.null, vI 0, .null, .null, vI 0, vI 0, vI 0, vI 0, .null, .null, vI 0, .null, .null, vJ 0, .null, vI 0, vI 0, vI 0, vI 0, .null, vI 0, .null, .null, vI 0, vI 0, .null, .null, vJ 0]), (h8, aJ ca 7284 (fun _ => 0))] := hD
  refine W.widen (k := 1) (n := 7284) (Nat.le_of_ble_eq_true rfl) (Nat.le_of_ble_eq_true rfl) ?_
  refine va_putF (D := g) (ci := 8) (v := .ref h8) (ty := .array .long) (C := RX8) (T := TX8) (N := 28) hx hb hts inF_X8 tyX8 tyX8_ok nmX8 hown hK.1 hP hD hS 0 rfl rfl 0 (by decide) lk_f7 (fun _ h9 => h9) rfl hnm rfl (by decide +kernel) rfl rfl (Nat.le_of_ble_eq_true rfl) dX8_init_10 (fun H locs hP hD hS => ?_)
  have hP : va_P g vwCl [(hm, oB 8 [.ref h8, vI 0, .null, .null, vI 0, vI 0, vI 0, vI 0, .null, .null, vI 0, .null, .null, vJ 0, .null, vI 0, vI 0, vI 0, vI 0, .null, vI 0, .null, .null, vI 0, vI 0, .null, .null, vJ 0]), (h8, aJ ca 7284 (fun _ => 0))] H := hP
  have hD : va_D A [(hm, oB 8 [.ref h8, vI 0, .null, .null, vI 0, vI 0, vI 0, vI 0, .null, .null, vI 0, .null, .null, vJ 0, .null, vI 0, vI 0, vI 0, vI 0, .null, vI 0, .null, .null, vI 0, vI 0, .null, .null, vJ 0]), (h8, aJ ca 7284 (fun _ => 0))] := hD
  refine lv_aload_n hx hb dX8_init_13 rfl (lv_at hl 0 rfl) ?_
  refine lv_iconst (v := Int32.ofInt 2) hx hb dX8_init_14 rfl ?_
  refine ra_newZ (N := 2) hx hb lk_aboolean hK hP hD hS hA dX8_init_15 rfl (Nat.le_of_ble_eq_true rfl) (by rw [hR]; exact Nat.le_of_ble_eq_true rfl) (by rw [hR]; exact Nat.le_of_ble_eq_true rfl) (fun h15 H hP hD hS => ?_)
  have hP : va_P g vwCl [(hm, oB 8 [.ref h8, vI 0, .null, .null, vI 0, vI 0, vI 0, vI 0, .null, .null, vI 0, .null, .null, vJ 0, .null, vI 0, vI 0, vI 0, vI 0, .null, vI 0, .null, .null, vI 0, vI 0, .null, .null, vJ 0]), (h8, aJ ca 7284 (fun _ => 0)), (h15, aZ ca 2 (fun _ => 0))] H := hP
  have hD : va_D A [(hm, oB 8 [.ref h8, vI 0, .null, .null, vI 0, vI 0, vI 0, vI 0, .null, .null, vI 0, .null, .null, vJ 0, .null, vI 0, vI 0, vI 0, vI 0, .null, vI 0, .null, .null, vI 0, vI 0, .null, .null, vJ 0]), (h8, aJ ca 7284 (fun _ => 0)), (h15, aZ ca 2 (fun _ => 0))] := hD
  refine W.widen (k := 2) (n := 7286) (Nat.le_of_ble_eq_true rfl) (Nat.le_of_ble_eq_true rfl) ?_
  refine va_putF (D := g) (ci := 8) (v := .ref h15) (ty := .array .boolean) (C := RX8) (T := TX8) (N := 28) hx hb hts inF_X8 tyX8 tyX8_ok nmX8 hown hK.1 hP hD hS 0 rfl rfl 2 (by decide) lk_f13 (fun _ h9 => h9) rfl hnm rfl (by decide +kernel) rfl rfl (Nat.le_of_ble_eq_true rfl) dX8_init_17 (fun H locs hP hD hS => ?_)
  have hP : va_P g vwCl [(hm, oB 8 [.ref h8, vI 0, .ref h15, .null, vI 0, vI 0, vI 0, vI 0, .null, .null, vI 0, .null, .null, vJ 0, .null, vI 0, vI 0, vI 0, vI 0, .null, vI 0, .null, .null, vI 0, vI 0, .null, .null, vJ 0]), (h8, aJ ca 7284 (fun _ => 0)), (h15, aZ ca 2 (fun _ => 0))] H := hP
  have hD : va_D A [(hm, oB 8 [.ref h8, vI 0, .ref h15, .null, vI 0, vI 0, vI 0, vI 0, .null, .null, vI 0, .null, .null, vJ 0, .null, vI 0, vI 0, vI 0, vI 0, .null, vI 0, .null, .null, vI 0, vI 0, .null, .null, vJ 0]), (h8, aJ ca 7284 (fun _ => 0)), (h15, aZ ca 2 (fun _ => 0))] := hD
  refine lv_aload_n hx hb dX8_init_20 rfl (lv_at hl 0 rfl) ?_
  refine lv_iconst (v := Int32.ofInt 5) hx hb dX8_init_21 rfl ?_
  refine ra_newI (N := 5) hx hb lk_aint hK hP hD hS hA dX8_init_22 rfl (Nat.le_of_ble_eq_true rfl) (by rw [hR]; exact Nat.le_of_ble_eq_true rfl) (by rw [hR]; exact Nat.le_of_ble_eq_true rfl) (fun h22 H hP hD hS => ?_)
  have hP : va_P g vwCl [(hm, oB 8 [.ref h8, vI 0, .ref h15, .null, vI 0, vI 0, vI 0, vI 0, .null, .null, vI 0, .null, .null, vJ 0, .null, vI 0, vI 0, vI 0, vI 0, .null, vI 0, .null, .null, vI 0, vI 0, .null, .null, vJ 0]), (h8, aJ ca 7284 (fun _ => 0)), (h15, aZ ca 2 (fun _ => 0)), (h22, aI ca 5 (fun _ => 0))] H := hP
  have hD : va_D A [(hm, oB 8 [.ref h8, vI 0, .ref h15, .null, vI 0, vI 0, vI 0, vI 0, .null, .null, vI 0, .null, .null, vJ 0, .null, vI 0, vI 0, vI 0, vI 0, .null, vI 0, .null, .null, vI 0, vI 0, .null, .null, vJ 0]), (h8, aJ ca 7284 (fun _ => 0)), (h15, aZ ca 2 (fun _ => 0)), (h22, aI ca 5 (fun _ => 0))] := hD
  refine W.widen (k := 3) (n := 7291) (Nat.le_of_ble_eq_true rfl) (Nat.le_of_ble_eq_true rfl) ?_
  refine va_putF (D := g) (ci := 8) (v := .ref h22) (ty := .array .int) (C := RX8) (T := TX8) (N := 28) hx hb hts inF_X8 tyX8 tyX8_ok nmX8 hown hK.1 hP hD hS 0 rfl rfl 3 (by decide) lk_f17 (fun _ h9 => h9) rfl hnm rfl (by decide +kernel) rfl rfl (Nat.le_of_ble_eq_true rfl) dX8_init_24 (fun H locs hP hD hS => ?_)
  have hP : va_P g vwCl [(hm, oB 8 [.ref h8, vI 0, .ref h15, .ref h22, vI 0, vI 0, vI 0, vI 0, .null, .null, vI 0, .null, .null, vJ 0, .null, vI 0, vI 0, vI 0, vI 0, .null, vI 0, .null, .null, vI 0, vI 0, .null, .null, vJ 0]), (h8, aJ ca 7284 (fun _ => 0)), (h15, aZ ca 2 (fun _ => 0)), (h22, aI ca 5 (fun _ => 0))] H := hP
  have hD : va_D A [(hm, oB 8 [.ref h8, vI 0, .ref h15, .ref h22, vI 0, vI 0, vI 0, vI 0, .null, .null, vI 0, .null, .null, vJ 0, .null, vI 0, vI 0, vI 0, vI 0, .null, vI 0, .null, .null, vI 0, vI 0, .null, .null, vJ 0]), (h8, aJ ca 7284 (fun _ => 0)), (h15, aZ ca 2 (fun _ => 0)), (h22, aI ca 5 (fun _ => 0))] := hD
  refine lv_aload_n hx hb dX8_init_27 rfl (lv_at hl 0 rfl) ?_
  refine lv_bipush (v := Int32.ofInt 6) hx hb dX8_init_28 (by decide) ?_
  refine ra_newI (N := 6) hx hb lk_aint hK hP hD hS hA dX8_init_30 rfl (Nat.le_of_ble_eq_true rfl) (by rw [hR]; exact Nat.le_of_ble_eq_true rfl) (by rw [hR]; exact Nat.le_of_ble_eq_true rfl) (fun h30 H hP hD hS => ?_)
  have hP : va_P g vwCl [(hm, oB 8 [.ref h8, vI 0, .ref h15, .ref h22, vI 0, vI 0, vI 0, vI 0, .null, .null, vI 0, .null, .null, vJ 0, .null, vI 0, vI 0, vI 0, vI 0, .null, vI 0, .null, .null, vI 0, vI 0, .null, .null, vJ 0]), (h8, aJ ca 7284 (fun _ => 0)), (h15, aZ ca 2 (fun _ => 0)), (h22, aI ca 5 (fun _ => 0)), (h30, aI ca 6 (fun _ => 0))] H := hP
  have hD : va_D A [(hm, oB 8 [.ref h8, vI 0, .ref h15, .ref h22, vI 0, vI 0, vI 0, vI 0, .null, .null, vI 0, .null, .null, vJ 0, .null, vI 0, vI 0, vI 0, vI 0, .null, vI 0, .null, .null, vI 0, vI 0, .null, .null, vJ 0]), (h8, aJ ca 7284 (fun _ => 0)), (h15, aZ ca 2 (fun _ => 0)), (h22, aI ca 5 (fun _ => 0)), (h30, aI ca 6 (fun _ => 0))] := hD
  refine W.widen (k := 4) (n := 7297) (Nat.le_of_ble_eq_true rfl) (Nat.le_of_ble_eq_true rfl) ?_
  refine va_putF (D := g) (ci := 8) (v := .ref h30) (ty := .array .int) (C := RX8) (T := TX8) (N := 28) hx hb hts inF_X8 tyX8 tyX8_ok nmX8 hown hK.1 hP hD hS 0 rfl rfl 8 (by decide) lk_f21 (fun _ h9 => h9) rfl hnm rfl (by decide +kernel) rfl rfl (Nat.le_of_ble_eq_true rfl) dX8_init_32 (fun H locs hP hD hS => ?_)
  have hP : va_P g vwCl [(hm, oB 8 [.ref h8, vI 0, .ref h15, .ref h22, vI 0, vI 0, vI 0, vI 0, .ref h30, .null, vI 0, .null, .null, vJ 0, .null, vI 0, vI 0, vI 0, vI 0, .null, vI 0, .null, .null, vI 0, vI 0, .null, .null, vJ 0]), (h8, aJ ca 7284 (fun _ => 0)), (h15, aZ ca 2 (fun _ => 0)), (h22, aI ca 5 (fun _ => 0)), (h30, aI ca 6 (fun _ => 0))] H := hP
  have hD : va_D A [(hm, oB 8 [.ref h8, vI 0, .ref h15, .ref h22, vI 0, vI 0, vI 0, vI 0, .ref h30, .null, vI 0, .null, .null, vJ 0, .null, vI 0, vI 0, vI 0, vI 0, .null, vI 0, .null, .null, vI 0, vI 0, .null, .null, vJ 0]), (h8, aJ ca 7284 (fun _ => 0)), (h15, aZ ca 2 (fun _ => 0)), (h22, aI ca 5 (fun _ => 0)), (h30, aI ca 6 (fun _ => 0))] := hD
  refine lv_aload_n hx hb dX8_init_35 rfl (lv_at hl 0 rfl) ?_
  refine lv_bipush (v := Int32.ofInt 6) hx hb dX8_init_36 (by decide) ?_
  refine ra_newI (N := 6) hx hb lk_aint hK hP hD hS hA dX8_init_38 rfl (Nat.le_of_ble_eq_true rfl) (by rw [hR]; exact Nat.le_of_ble_eq_true rfl) (by rw [hR]; exact Nat.le_of_ble_eq_true rfl) (fun h38 H hP hD hS => ?_)
  have hP : va_P g vwCl [(hm, oB 8 [.ref h8, vI 0, .ref h15, .ref h22, vI 0, vI 0, vI 0, vI 0, .ref h30, .null, vI 0, .null, .null, vJ 0, .null, vI 0, vI 0, vI 0, vI 0, .null, vI 0, .null, .null, vI 0, vI 0, .null, .null, vJ 0]), (h8, aJ ca 7284 (fun _ => 0)), (h15, aZ ca 2 (fun _ => 0)), (h22, aI ca 5 (fun _ => 0)), (h30, aI ca 6 (fun _ => 0)), (h38, aI ca 6 (fun _ => 0))] H := hP
  have hD : va_D A [(hm, oB 8 [.ref h8, vI 0, .ref h15, .ref h22, vI 0, vI 0, vI 0, vI 0, .ref h30, .null, vI 0, .null, .null, vJ 0, .null, vI 0, vI 0, vI 0, vI 0, .null, vI 0, .null, .null, vI 0, vI 0, .null, .null, vJ 0]), (h8, aJ ca 7284 (fun _ => 0)), (h15, aZ ca 2 (fun _ => 0)), (h22, aI ca 5 (fun _ => 0)), (h30, aI ca 6 (fun _ => 0)), (h38, aI ca 6 (fun _ => 0))] := hD
  refine W.widen (k := 5) (n := 7303) (Nat.le_of_ble_eq_true rfl) (Nat.le_of_ble_eq_true rfl) ?_
  refine va_putF (D := g) (ci := 8) (v := .ref h38) (ty := .array .int) (C := RX8) (T := TX8) (N := 28) hx hb hts inF_X8 tyX8 tyX8_ok nmX8 hown hK.1 hP hD hS 0 rfl rfl 9 (by decide) lk_f24 (fun _ h9 => h9) rfl hnm rfl (by decide +kernel) rfl rfl (Nat.le_of_ble_eq_true rfl) dX8_init_40 (fun H locs hP hD hS => ?_)
  have hP : va_P g vwCl [(hm, oB 8 [.ref h8, vI 0, .ref h15, .ref h22, vI 0, vI 0, vI 0, vI 0, .ref h30, .ref h38, vI 0, .null, .null, vJ 0, .null, vI 0, vI 0, vI 0, vI 0, .null, vI 0, .null, .null, vI 0, vI 0, .null, .null, vJ 0]), (h8, aJ ca 7284 (fun _ => 0)), (h15, aZ ca 2 (fun _ => 0)), (h22, aI ca 5 (fun _ => 0)), (h30, aI ca 6 (fun _ => 0)), (h38, aI ca 6 (fun _ => 0))] H := hP
  have hD : va_D A [(hm, oB 8 [.ref h8, vI 0, .ref h15, .ref h22, vI 0, vI 0, vI 0, vI 0, .ref h30, .ref h38, vI 0, .null, .null, vJ 0, .null, vI 0, vI 0, vI 0, vI 0, .null, vI 0, .null, .null, vI 0, vI 0, .null, .null, vJ 0]), (h8, aJ ca 7284 (fun _ => 0)), (h15, aZ ca 2 (fun _ => 0)), (h22, aI ca 5 (fun _ => 0)), (h30, aI ca 6 (fun _ => 0)), (h38, aI ca 6 (fun _ => 0))] := hD
  refine lv_aload_n hx hb dX8_init_43 rfl (lv_at hl 0 rfl) ?_
  refine lv_iconst (v := Int32.ofInt 5) hx hb dX8_init_44 rfl ?_
  refine ra_newI (N := 5) hx hb lk_aint hK hP hD hS hA dX8_init_45 rfl (Nat.le_of_ble_eq_true rfl) (by rw [hR]; exact Nat.le_of_ble_eq_true rfl) (by rw [hR]; exact Nat.le_of_ble_eq_true rfl) (fun h45 H hP hD hS => ?_)
  have hP : va_P g vwCl [(hm, oB 8 [.ref h8, vI 0, .ref h15, .ref h22, vI 0, vI 0, vI 0, vI 0, .ref h30, .ref h38, vI 0, .null, .null, vJ 0, .null, vI 0, vI 0, vI 0, vI 0, .null, vI 0, .null, .null, vI 0, vI 0, .null, .null, vJ 0]), (h8, aJ ca 7284 (fun _ => 0)), (h15, aZ ca 2 (fun _ => 0)), (h22, aI ca 5 (fun _ => 0)), (h30, aI ca 6 (fun _ => 0)), (h38, aI ca 6 (fun _ => 0)), (h45, aI ca 5 (fun _ => 0))] H := hP
  have hD : va_D A [(hm, oB 8 [.ref h8, vI 0, .ref h15, .ref h22, vI 0, vI 0, vI 0, vI 0, .ref h30, .ref h38, vI 0, .null, .null, vJ 0, .null, vI 0, vI 0, vI 0, vI 0, .null, vI 0, .null, .null, vI 0, vI 0, .null, .null, vJ 0]), (h8, aJ ca 7284 (fun _ => 0)), (h15, aZ ca 2 (fun _ => 0)), (h22, aI ca 5 (fun _ => 0)), (h30, aI ca 6 (fun _ => 0)), (h38, aI ca 6 (fun _ => 0)), (h45, aI ca 5 (fun _ => 0))] := hD
  refine W.widen (k := 6) (n := 7308) (Nat.le_of_ble_eq_true rfl) (Nat.le_of_ble_eq_true rfl) ?_
  refine va_putF (D := g) (ci := 8) (v := .ref h45) (ty := .array .int) (C := RX8) (T := TX8) (N := 28) hx hb hts inF_X8 tyX8 tyX8_ok nmX8 hown hK.1 hP hD hS 0 rfl rfl 11 (by decide) lk_f27 (fun _ h9 => h9) rfl hnm rfl (by decide +kernel) rfl rfl (Nat.le_of_ble_eq_true rfl) dX8_init_47 (fun H locs hP hD hS => ?_)
  have hP : va_P g vwCl [(hm, oB 8 [.ref h8, vI 0, .ref h15, .ref h22, vI 0, vI 0, vI 0, vI 0, .ref h30, .ref h38, vI 0, .ref h45, .null, vJ 0, .null, vI 0, vI 0, vI 0, vI 0, .null, vI 0, .null, .null, vI 0, vI 0, .null, .null, vJ 0]), (h8, aJ ca 7284 (fun _ => 0)), (h15, aZ ca 2 (fun _ => 0)), (h22, aI ca 5 (fun _ => 0)), (h30, aI ca 6 (fun _ => 0)), (h38, aI ca 6 (fun _ => 0)), (h45, aI ca 5 (fun _ => 0))] H := hP
  have hD : va_D A [(hm, oB 8 [.ref h8, vI 0, .ref h15, .ref h22, vI 0, vI 0, vI 0, vI 0, .ref h30, .ref h38, vI 0, .ref h45, .null, vJ 0, .null, vI 0, vI 0, vI 0, vI 0, .null, vI 0, .null, .null, vI 0, vI 0, .null, .null, vJ 0]), (h8, aJ ca 7284 (fun _ => 0)), (h15, aZ ca 2 (fun _ => 0)), (h22, aI ca 5 (fun _ => 0)), (h30, aI ca 6 (fun _ => 0)), (h38, aI ca 6 (fun _ => 0)), (h45, aI ca 5 (fun _ => 0))] := hD
  refine lv_aload_n hx hb dX8_init_50 rfl (lv_at hl 0 rfl) ?_
  refine lv_iconst (v := Int32.ofInt 5) hx hb dX8_init_51 rfl ?_
  refine ra_newI (N := 5) hx hb lk_aint hK hP hD hS hA dX8_init_52 rfl (Nat.le_of_ble_eq_true rfl) (by rw [hR]; exact Nat.le_of_ble_eq_true rfl) (by rw [hR]; exact Nat.le_of_ble_eq_true rfl) (fun h52 H hP hD hS => ?_)
  have hP : va_P g vwCl [(hm, oB 8 [.ref h8, vI 0, .ref h15, .ref h22, vI 0, vI 0, vI 0, vI 0, .ref h30, .ref h38, vI 0, .ref h45, .null, vJ 0, .null, vI 0, vI 0, vI 0, vI 0, .null, vI 0, .null, .null, vI 0, vI 0, .null, .null, vJ 0]), (h8, aJ ca 7284 (fun _ => 0)), (h15, aZ ca 2 (fun _ => 0)), (h22, aI ca 5 (fun _ => 0)), (h30, aI ca 6 (fun _ => 0)), (h38, aI ca 6 (fun _ => 0)), (h45, aI ca 5 (fun _ => 0)), (h52, aI ca 5 (fun _ => 0))] H := hP
  have hD : va_D A [(hm, oB 8 [.ref h8, vI 0, .ref h15, .ref h22, vI 0, vI 0, vI 0, vI 0, .ref h30, .ref h38, vI 0, .ref h45, .null, vJ 0, .null, vI 0, vI 0, vI 0, vI 0, .null, vI 0, .null, .null, vI 0, vI 0, .null, .null, vJ 0]), (h8, aJ ca 7284 (fun _ => 0)), (h15, aZ ca 2 (fun _ => 0)), (h22, aI ca 5 (fun _ => 0)), (h30, aI ca 6 (fun _ => 0)), (h38, aI ca 6 (fun _ => 0)), (h45, aI ca 5 (fun _ => 0)), (h52, aI ca 5 (fun _ => 0))] := hD
  refine W.widen (k := 7) (n := 7313) (Nat.le_of_ble_eq_true rfl) (Nat.le_of_ble_eq_true rfl) ?_
  refine va_putF (D := g) (ci := 8) (v := .ref h52) (ty := .array .int) (C := RX8) (T := TX8) (N := 28) hx hb hts inF_X8 tyX8 tyX8_ok nmX8 hown hK.1 hP hD hS 0 rfl rfl 12 (by decide) lk_f30 (fun _ h9 => h9) rfl hnm rfl (by decide +kernel) rfl rfl (Nat.le_of_ble_eq_true rfl) dX8_init_54 (fun H locs hP hD hS => ?_)
  have hP : va_P g vwCl [(hm, oB 8 [.ref h8, vI 0, .ref h15, .ref h22, vI 0, vI 0, vI 0, vI 0, .ref h30, .ref h38, vI 0, .ref h45, .ref h52, vJ 0, .null, vI 0, vI 0, vI 0, vI 0, .null, vI 0, .null, .null, vI 0, vI 0, .null, .null, vJ 0]), (h8, aJ ca 7284 (fun _ => 0)), (h15, aZ ca 2 (fun _ => 0)), (h22, aI ca 5 (fun _ => 0)), (h30, aI ca 6 (fun _ => 0)), (h38, aI ca 6 (fun _ => 0)), (h45, aI ca 5 (fun _ => 0)), (h52, aI ca 5 (fun _ => 0))] H := hP
  have hD : va_D A [(hm, oB 8 [.ref h8, vI 0, .ref h15, .ref h22, vI 0, vI 0, vI 0, vI 0, .ref h30, .ref h38, vI 0, .ref h45, .ref h52, vJ 0, .null, vI 0, vI 0, vI 0, vI 0, .null, vI 0, .null, .null, vI 0, vI 0, .null, .null, vJ 0]), (h8, aJ ca 7284 (fun _ => 0)), (h15, aZ ca 2 (fun _ => 0)), (h22, aI ca 5 (fun _ => 0)), (h30, aI ca 6 (fun _ => 0)), (h38, aI ca 6 (fun _ => 0)), (h45, aI ca 5 (fun _ => 0)), (h52, aI ca 5 (fun _ => 0))] := hD
  refine lv_aload_n hx hb dX8_init_57 rfl (lv_at hl 0 rfl) ?_
  refine lv_sipush (v := Int32.ofInt 200) hx hb dX8_init_58 (by decide) ?_
  refine ra_newI (N := 200) hx hb lk_aint hK hP hD hS hA dX8_init_61 rfl (Nat.le_of_ble_eq_true rfl) (by rw [hR]; exact Nat.le_of_ble_eq_true rfl) (by rw [hR]; exact Nat.le_of_ble_eq_true rfl) (fun h61 H hP hD hS => ?_)
  have hP : va_P g vwCl [(hm, oB 8 [.ref h8, vI 0, .ref h15, .ref h22, vI 0, vI 0, vI 0, vI 0, .ref h30, .ref h38, vI 0, .ref h45, .ref h52, vJ 0, .null, vI 0, vI 0, vI 0, vI 0, .null, vI 0, .null, .null, vI 0, vI 0, .null, .null, vJ 0]), (h8, aJ ca 7284 (fun _ => 0)), (h15, aZ ca 2 (fun _ => 0)), (h22, aI ca 5 (fun _ => 0)), (h30, aI ca 6 (fun _ => 0)), (h38, aI ca 6 (fun _ => 0)), (h45, aI ca 5 (fun _ => 0)), (h52, aI ca 5 (fun _ => 0)), (h61, aI ca 200 (fun _ => 0))] H := hP
  have hD : va_D A [(hm, oB 8 [.ref h8, vI 0, .ref h15, .ref h22, vI 0, vI 0, vI 0, vI 0, .ref h30, .ref h38, vI 0, .ref h45, .ref h52, vJ 0, .null, vI 0, vI 0, vI 0, vI 0, .null, vI 0, .null, .null, vI 0, vI 0, .null, .null, vJ 0]), (h8, aJ ca 7284 (fun _ => 0)), (h15, aZ ca 2 (fun _ => 0)), (h22, aI ca 5 (fun _ => 0)), (h30, aI ca 6 (fun _ => 0)), (h38, aI ca 6 (fun _ => 0)), (h45, aI ca 5 (fun _ => 0)), (h52, aI ca 5 (fun _ => 0)), (h61, aI ca 200 (fun _ => 0))] := hD
  refine W.widen (k := 8) (n := 7513) (Nat.le_of_ble_eq_true rfl) (Nat.le_of_ble_eq_true rfl) ?_
  refine va_putF (D := g) (ci := 8) (v := .ref h61) (ty := .array .int) (C := RX8) (T := TX8) (N := 28) hx hb hts inF_X8 tyX8 tyX8_ok nmX8 hown hK.1 hP hD hS 0 rfl rfl 14 (by decide) lk_f33 (fun _ h9 => h9) rfl hnm rfl (by decide +kernel) rfl rfl (Nat.le_of_ble_eq_true rfl) dX8_init_63 (fun H locs hP hD hS => ?_)
  have hP : va_P g vwCl [(hm, oB 8 [.ref h8, vI 0, .ref h15, .ref h22, vI 0, vI 0, vI 0, vI 0, .ref h30, .ref h38, vI 0, .ref h45, .ref h52, vJ 0, .ref h61, vI 0, vI 0, vI 0, vI 0, .null, vI 0, .null, .null, vI 0, vI 0, .null, .null, vJ 0]), (h8, aJ ca 7284 (fun _ => 0)), (h15, aZ ca 2 (fun _ => 0)), (h22, aI ca 5 (fun _ => 0)), (h30, aI ca 6 (fun _ => 0)), (h38, aI ca 6 (fun _ => 0)), (h45, aI ca 5 (fun _ => 0)), (h52, aI ca 5 (fun _ => 0)), (h61, aI ca 200 (fun _ => 0))] H := hP
  have hD : va_D A [(hm, oB 8 [.ref h8, vI 0, .ref h15, .ref h22, vI 0, vI 0, vI 0, vI 0, .ref h30, .ref h38, vI 0, .ref h45, .ref h52, vJ 0, .ref h61, vI 0, vI 0, vI 0, vI 0, .null, vI 0, .null, .null, vI 0, vI 0, .null, .null, vJ 0]), (h8, aJ ca 7284 (fun _ => 0)), (h15, aZ ca 2 (fun _ => 0)), (h22, aI ca 5 (fun _ => 0)), (h30, aI ca 6 (fun _ => 0)), (h38, aI ca 6 (fun _ => 0)), (h45, aI ca 5 (fun _ => 0)), (h52, aI ca 5 (fun _ => 0)), (h61, aI ca 200 (fun _ => 0))] := hD
  refine lv_aload_n hx hb dX8_init_66 rfl (lv_at hl 0 rfl) ?_
  refine lv_bipush (v := Int32.ofInt 6) hx hb dX8_init_67 (by decide) ?_
  refine ra_newI (N := 6) hx hb lk_aint hK hP hD hS hA dX8_init_69 rfl (Nat.le_of_ble_eq_true rfl) (by rw [hR]; exact Nat.le_of_ble_eq_true rfl) (by rw [hR]; exact Nat.le_of_ble_eq_true rfl) (fun h69 H hP hD hS => ?_)
  have hP : va_P g vwCl [(hm, oB 8 [.ref h8, vI 0, .ref h15, .ref h22, vI 0, vI 0, vI 0, vI 0, .ref h30, .ref h38, vI 0, .ref h45, .ref h52, vJ 0, .ref h61, vI 0, vI 0, vI 0, vI 0, .null, vI 0, .null, .null, vI 0, vI 0, .null, .null, vJ 0]), (h8, aJ ca 7284 (fun _ => 0)), (h15, aZ ca 2 (fun _ => 0)), (h22, aI ca 5 (fun _ => 0)), (h30, aI ca 6 (fun _ => 0)), (h38, aI ca 6 (fun _ => 0)), (h45, aI ca 5 (fun _ => 0)), (h52, aI ca 5 (fun _ => 0)), (h61, aI ca 200 (fun _ => 0)), (h69, aI ca 6 (fun _ => 0))] H := hP
  have hD : va_D A [(hm, oB 8 [.ref h8, vI 0, .ref h15, .ref h22, vI 0, vI 0, vI 0, vI 0, .ref h30, .ref h38, vI 0, .ref h45, .ref h52, vJ 0, .ref h61, vI 0, vI 0, vI 0, vI 0, .null, vI 0, .null, .null, vI 0, vI 0, .null, .null, vJ 0]), (h8, aJ ca 7284 (fun _ => 0)), (h15, aZ ca 2 (fun _ => 0)), (h22, aI ca 5 (fun _ => 0)), (h30, aI ca 6 (fun _ => 0)), (h38, aI ca 6 (fun _ => 0)), (h45, aI ca 5 (fun _ => 0)), (h52, aI ca 5 (fun _ => 0)), (h61, aI ca 200 (fun _ => 0)), (h69, aI ca 6 (fun _ => 0))] := hD
  refine W.widen (k := 9) (n := 7519) (Nat.le_of_ble_eq_true rfl) (Nat.le_of_ble_eq_true rfl) ?_
  refine va_putF (D := g) (ci := 8) (v := .ref h69) (ty := .array .int) (C := RX8) (T := TX8) (N := 28) hx hb hts inF_X8 tyX8 tyX8_ok nmX8 hown hK.1 hP hD hS 0 rfl rfl 19 (by decide) lk_f36 (fun _ h9 => h9) rfl hnm rfl (by decide +kernel) rfl rfl (Nat.le_of_ble_eq_true rfl) dX8_init_71 (fun H locs hP hD hS => ?_)
  have hP : va_P g vwCl [(hm, oB 8 [.ref h8, vI 0, .ref h15, .ref h22, vI 0, vI 0, vI 0, vI 0, .ref h30, .ref h38, vI 0, .ref h45, .ref h52, vJ 0, .ref h61, vI 0, vI 0, vI 0, vI 0, .ref h69, vI 0, .null, .null, vI 0, vI 0, .null, .null, vJ 0]), (h8, aJ ca 7284 (fun _ => 0)), (h15, aZ ca 2 (fun _ => 0)), (h22, aI ca 5 (fun _ => 0)), (h30, aI ca 6 (fun _ => 0)), (h38, aI ca 6 (fun _ => 0)), (h45, aI ca 5 (fun _ => 0)), (h52, aI ca 5 (fun _ => 0)), (h61, aI ca 200 (fun _ => 0)), (h69, aI ca 6 (fun _ => 0))] H := hP
  have hD : va_D A [(hm, oB 8 [.ref h8, vI 0, .ref h15, .ref h22, vI 0, vI 0, vI 0, vI 0, .ref h30, .ref h38, vI 0, .ref h45, .ref h52, vJ 0, .ref h61, vI 0, vI 0, vI 0, vI 0, .ref h69, vI 0, .null, .null, vI 0, vI 0, .null, .null, vJ 0]), (h8, aJ ca 7284 (fun _ => 0)), (h15, aZ ca 2 (fun _ => 0)), (h22, aI ca 5 (fun _ => 0)), (h30, aI ca 6 (fun _ => 0)), (h38, aI ca 6 (fun _ => 0)), (h45, aI ca 5 (fun _ => 0)), (h52, aI ca 5 (fun _ => 0)), (h61, aI ca 200 (fun _ => 0)), (h69, aI ca 6 (fun _ => 0))] := hD
  refine lv_aload_n hx hb dX8_init_74 rfl (lv_at hl 0 rfl) ?_
  refine lv_bipush (v := Int32.ofInt 6) hx hb dX8_init_75 (by decide) ?_
  refine ra_newI (N := 6) hx hb lk_aint hK hP hD hS hA dX8_init_77 rfl (Nat.le_of_ble_eq_true rfl) (by rw [hR]; exact Nat.le_of_ble_eq_true rfl) (by rw [hR]; exact Nat.le_of_ble_eq_true rfl) (fun h77 H hP hD hS => ?_)
  have hP : va_P g vwCl [(hm, oB 8 [.ref h8, vI 0, .ref h15, .ref h22, vI 0, vI 0, vI 0, vI 0, .ref h30, .ref h38, vI 0, .ref h45, .ref h52, vJ 0, .ref h61, vI 0, vI 0, vI 0, vI 0, .ref h69, vI 0, .null, .null, vI 0, vI 0, .null, .null, vJ 0]), (h8, aJ ca 7284 (fun _ => 0)), (h15, aZ ca 2 (fun _ => 0)), (h22, aI ca 5 (fun _ => 0)), (h30, aI ca 6 (fun _ => 0)), (h38, aI ca 6 (fun _ => 0)), (h45, aI ca 5 (fun _ => 0)), (h52, aI ca 5 (fun _ => 0)), (h61, aI ca 200 (fun _ => 0)), (h69, aI ca 6 (fun _ => 0)), (h77, aI ca 6 (fun _ => 0))] H := hP
  have hD : va_D A [(hm, oB 8 [.ref h8, vI 0, .ref h15, .ref h22, vI 0, vI 0, vI 0, vI 0, .ref h30, .ref h38, vI 0, .ref h45, .ref h52, vJ 0, .ref h61, vI 0, vI 0, vI 0, vI 0, .ref h69, vI 0, .null, .null, vI 0, vI 0, .null, .null, vJ 0]), (h8, aJ ca 7284 (fun _ => 0)), (h15, aZ ca 2 (fun _ => 0)), (h22, aI ca 5 (fun _ => 0)), (h30, aI ca 6 (fun _ => 0)), (h38, aI ca 6 (fun _ => 0)), (h45, aI ca 5 (fun _ => 0)), (h52, aI ca 5 (fun _ => 0)), (h61, aI ca 200 (fun _ => 0)), (h69, aI ca 6 (fun _ => 0)), (h77, aI ca 6 (fun _ => 0))] := hD
  refine W.widen (k := 10) (n := 7525) (Nat.le_of_ble_eq_true rfl) (Nat.le_of_ble_eq_true rfl) ?_
  refine va_putF (D := g) (ci := 8) (v := .ref h77) (ty := .array .int) (C := RX8) (T := TX8) (N := 28) hx hb hts inF_X8 tyX8 tyX8_ok nmX8 hown hK.1 hP hD hS 0 rfl rfl 21 (by decide) lk_f39 (fun _ h9 => h9) rfl hnm rfl (by decide +kernel) rfl rfl (Nat.le_of_ble_eq_true rfl) dX8_init_79 (fun H locs hP hD hS => ?_)
  have hP : va_P g vwCl [(hm, oB 8 [.ref h8, vI 0, .ref h15, .ref h22, vI 0, vI 0, vI 0, vI 0, .ref h30, .ref h38, vI 0, .ref h45, .ref h52, vJ 0, .ref h61, vI 0, vI 0, vI 0, vI 0, .ref h69, vI 0, .ref h77, .null, vI 0, vI 0, .null, .null, vJ 0]), (h8, aJ ca 7284 (fun _ => 0)), (h15, aZ ca 2 (fun _ => 0)), (h22, aI ca 5 (fun _ => 0)), (h30, aI ca 6 (fun _ => 0)), (h38, aI ca 6 (fun _ => 0)), (h45, aI ca 5 (fun _ => 0)), (h52, aI ca 5 (fun _ => 0)), (h61, aI ca 200 (fun _ => 0)), (h69, aI ca 6 (fun _ => 0)), (h77, aI ca 6 (fun _ => 0))] H := hP
  have hD : va_D A [(hm, oB 8 [.ref h8, vI 0, .ref h15, .ref h22, vI 0, vI 0, vI 0, vI 0, .ref h30, .ref h38, vI 0, .ref h45, .ref h52, vJ 0, .ref h61, vI 0, vI 0, vI 0, vI 0, .ref h69, vI 0, .ref h77, .null, vI 0, vI 0, .null, .null, vJ 0]), (h8, aJ ca 7284 (fun _ => 0)), (h15, aZ ca 2 (fun _ => 0)), (h22, aI ca 5 (fun _ => 0)), (h30, aI ca 6 (fun _ => 0)), (h38, aI ca 6 (fun _ => 0)), (h45, aI ca 5 (fun _ => 0)), (h52, aI ca 5 (fun _ => 0)), (h61, aI ca 200 (fun _ => 0)), (h69, aI ca 6 (fun _ => 0)), (h77, aI ca 6 (fun _ => 0))] := hD
  refine lv_aload_n hx hb dX8_init_82 rfl (lv_at hl 0 rfl) ?_
  refine lv_bipush (v := Int32.ofInt 6) hx hb dX8_init_83 (by decide) ?_
  refine ra_newI (N := 6) hx hb lk_aint hK hP hD hS hA dX8_init_85 rfl (Nat.le_of_ble_eq_true rfl) (by rw [hR]; exact Nat.le_of_ble_eq_true rfl) (by rw [hR]; exact Nat.le_of_ble_eq_true rfl) (fun h85 H hP hD hS => ?_)
  have hP : va_P g vwCl [(hm, oB 8 [.ref h8, vI 0, .ref h15, .ref h22, vI 0, vI 0, vI 0, vI 0, .ref h30, .ref h38, vI 0, .ref h45, .ref h52, vJ 0, .ref h61, vI 0, vI 0, vI 0, vI 0, .ref h69, vI 0, .ref h77, .null, vI 0, vI 0, .null, .null, vJ 0]), (h8, aJ ca 7284 (fun _ => 0)), (h15, aZ ca 2 (fun _ => 0)), (h22, aI ca 5 (fun _ => 0)), (h30, aI ca 6 (fun _ => 0)), (h38, aI ca 6 (fun _ => 0)), (h45, aI ca 5 (fun _ => 0)), (h52, aI ca 5 (fun _ => 0)), (h61, aI ca 200 (fun _ => 0)), (h69, aI ca 6 (fun _ => 0)), (h77, aI ca 6 (fun _ => 0)), (h85, aI ca 6 (fun _ => 0))] H := hP
  have hD : va_D A [(hm, oB 8 [.ref h8, vI 0, .ref h15, .ref h22, vI 0, vI 0, vI 0, vI 0, .ref h30, .ref h38, vI 0, .ref h45, .ref h52, vJ 0, .ref h61, vI 0, vI 0, vI 0, vI 0, .ref h69, vI 0, .ref h77, .null, vI 0, vI 0, .null, .null, vJ 0]), (h8, aJ ca 7284 (fun _ => 0)), (h15, aZ ca 2 (fun _ => 0)), (h22, aI ca 5 (fun _ => 0)), (h30, aI ca 6 (fun _ => 0)), (h38, aI ca 6 (fun _ => 0)), (h45, aI ca 5 (fun _ => 0)), (h52, aI ca 5 (fun _ => 0)), (h61, aI ca 200 (fun _ => 0)), (h69, aI ca 6 (fun _ => 0)), (h77, aI ca 6 (fun _ => 0)), (h85, aI ca 6 (fun _ => 0))] := hD
  refine W.widen (k := 11) (n := 7531) (Nat.le_of_ble_eq_true rfl) (Nat.le_of_ble_eq_true rfl) ?_
  refine va_putF (D := g) (ci := 8) (v := .ref h85) (ty := .array .int) (C := RX8) (T := TX8) (N := 28) hx hb hts inF_X8 tyX8 tyX8_ok nmX8 hown hK.1 hP hD hS 0 rfl rfl 22 (by decide) lk_f42 (fun _ h9 => h9) rfl hnm rfl (by decide +kernel) rfl rfl (Nat.le_of_ble_eq_true rfl) dX8_init_87 (fun H locs hP hD hS => ?_)
  have hP : va_P g vwCl [(hm, oB 8 [.ref h8, vI 0, .ref h15, .ref h22, vI 0, vI 0, vI 0, vI 0, .ref h30, .ref h38, vI 0, .ref h45, .ref h52, vJ 0, .ref h61, vI 0, vI 0, vI 0, vI 0, .ref h69, vI 0, .ref h77, .ref h85, vI 0, vI 0, .null, .null, vJ 0]), (h8, aJ ca 7284 (fun _ => 0)), (h15, aZ ca 2 (fun _ => 0)), (h22, aI ca 5 (fun _ => 0)), (h30, aI ca 6 (fun _ => 0)), (h38, aI ca 6 (fun _ => 0)), (h45, aI ca 5 (fun _ => 0)), (h52, aI ca 5 (fun _ => 0)), (h61, aI ca 200 (fun _ => 0)), (h69, aI ca 6 (fun _ => 0)), (h77, aI ca 6 (fun _ => 0)), (h85, aI ca 6 (fun _ => 0))] H := hP
  have hD : va_D A [(hm, oB 8 [.ref h8, vI 0, .ref h15, .ref h22, vI 0, vI 0, vI 0, vI 0, .ref h30, .ref h38, vI 0, .ref h45, .ref h52, vJ 0, .ref h61, vI 0, vI 0, vI 0, vI 0, .ref h69, vI 0, .ref h77, .ref h85, vI 0, vI 0, .null, .null, vJ 0]), (h8, aJ ca 7284 (fun _ => 0)), (h15, aZ ca 2 (fun _ => 0)), (h22, aI ca 5 (fun _ => 0)), (h30, aI ca 6 (fun _ => 0)), (h38, aI ca 6 (fun _ => 0)), (h45, aI ca 5 (fun _ => 0)), (h52, aI ca 5 (fun _ => 0)), (h61, aI ca 200 (fun _ => 0)), (h69, aI ca 6 (fun _ => 0)), (h77, aI ca 6 (fun _ => 0)), (h85, aI ca 6 (fun _ => 0))] := hD
  refine lv_aload_n hx hb dX8_init_90 rfl (lv_at hl 0 rfl) ?_
  refine lv_sipush (v := Int32.ofInt 1806) hx hb dX8_init_91 (by decide) ?_
  refine ra_newZ (N := 1806) hx hb lk_aboolean hK hP hD hS hA dX8_init_94 rfl (Nat.le_of_ble_eq_true rfl) (by rw [hR]; exact Nat.le_of_ble_eq_true rfl) (by rw [hR]; exact Nat.le_of_ble_eq_true rfl) (fun h94 H hP hD hS => ?_)
  have hP : va_P g vwCl [(hm, oB 8 [.ref h8, vI 0, .ref h15, .ref h22, vI 0, vI 0, vI 0, vI 0, .ref h30, .ref h38, vI 0, .ref h45, .ref h52, vJ 0, .ref h61, vI 0, vI 0, vI 0, vI 0, .ref h69, vI 0, .ref h77, .ref h85, vI 0, vI 0, .null, .null, vJ 0]), (h8, aJ ca 7284 (fun _ => 0)), (h15, aZ ca 2 (fun _ => 0)), (h22, aI ca 5 (fun _ => 0)), (h30, aI ca 6 (fun _ => 0)), (h38, aI ca 6 (fun _ => 0)), (h45, aI ca 5 (fun _ => 0)), (h52, aI ca 5 (fun _ => 0)), (h61, aI ca 200 (fun _ => 0)), (h69, aI ca 6 (fun _ => 0)), (h77, aI ca 6 (fun _ => 0)), (h85, aI ca 6 (fun _ => 0)), (h94, aZ ca 1806 (fun _ => 0))] H := hP
  have hD : va_D A [(hm, oB 8 [.ref h8, vI 0, .ref h15, .ref h22, vI 0, vI 0, vI 0, vI 0, .ref h30, .ref h38, vI 0, .ref h45, .ref h52, vJ 0, .ref h61, vI 0, vI 0, vI 0, vI 0, .ref h69, vI 0, .ref h77, .ref h85, vI 0, vI 0, .null, .null, vJ 0]), (h8, aJ ca 7284 (fun _ => 0)), (h15, aZ ca 2 (fun _ => 0)), (h22, aI ca 5 (fun _ => 0)), (h30, aI ca 6 (fun _ => 0)), (h38, aI ca 6 (fun _ => 0)), (h45, aI ca 5 (fun _ => 0)), (h52, aI ca 5 (fun _ => 0)), (h61, aI ca 200 (fun _ => 0)), (h69, aI ca 6 (fun _ => 0)), (h77, aI ca 6 (fun _ => 0)), (h85, aI ca 6 (fun _ => 0)), (h94, aZ ca 1806 (fun _ => 0))] := hD
  refine W.widen (k := 12) (n := 9337) (Nat.le_of_ble_eq_true rfl) (Nat.le_of_ble_eq_true rfl) ?_
  refine va_putF (D := g) (ci := 8) (v := .ref h94) (ty := .array .boolean) (C := RX8) (T := TX8) (N := 28) hx hb hts inF_X8 tyX8 tyX8_ok nmX8 hown hK.1 hP hD hS 0 rfl rfl 25 (by decide) lk_f45 (fun _ h9 => h9) rfl hnm rfl (by decide +kernel) rfl rfl (Nat.le_of_ble_eq_true rfl) dX8_init_96 (fun H locs hP hD hS => ?_)
  have hP : va_P g vwCl [(hm, oB 8 [.ref h8, vI 0, .ref h15, .ref h22, vI 0, vI 0, vI 0, vI 0, .ref h30, .ref h38, vI 0, .ref h45, .ref h52, vJ 0, .ref h61, vI 0, vI 0, vI 0, vI 0, .ref h69, vI 0, .ref h77, .ref h85, vI 0, vI 0, .ref h94, .null, vJ 0]), (h8, aJ ca 7284 (fun _ => 0)), (h15, aZ ca 2 (fun _ => 0)), (h22, aI ca 5 (fun _ => 0)), (h30, aI ca 6 (fun _ => 0)), (h38, aI ca 6 (fun _ => 0)), (h45, aI ca 5 (fun _ => 0)), (h52, aI ca 5 (fun _ => 0)), (h61, aI ca 200 (fun _ => 0)), (h69, aI ca 6 (fun _ => 0)), (h77, aI ca 6 (fun _ => 0)), (h85, aI ca 6 (fun _ => 0)), (h94, aZ ca 1806 (fun _ => 0))] H := hP
  have hD : va_D A [(hm, oB 8 [.ref h8, vI 0, .ref h15, .ref h22, vI 0, vI 0, vI 0, vI 0, .ref h30, .ref h38, vI 0, .ref h45, .ref h52, vJ 0, .ref h61, vI 0, vI 0, vI 0, vI 0, .ref h69, vI 0, .ref h77, .ref h85, vI 0, vI 0, .ref h94, .null, vJ 0]), (h8, aJ ca 7284 (fun _ => 0)), (h15, aZ ca 2 (fun _ => 0)), (h22, aI ca 5 (fun _ => 0)), (h30, aI ca 6 (fun _ => 0)), (h38, aI ca 6 (fun _ => 0)), (h45, aI ca 5 (fun _ => 0)), (h52, aI ca 5 (fun _ => 0)), (h61, aI ca 200 (fun _ => 0)), (h69, aI ca 6 (fun _ => 0)), (h77, aI ca 6 (fun _ => 0)), (h85, aI ca 6 (fun _ => 0)), (h94, aZ ca 1806 (fun _ => 0))] := hD
  refine lv_aload_n hx hb dX8_init_99 rfl (lv_at hl 0 rfl) ?_
  refine lv_iconst (v := Int32.ofInt 5) hx hb dX8_init_100 rfl ?_
  refine ra_newI (N := 5) hx hb lk_aint hK hP hD hS hA dX8_init_101 rfl (Nat.le_of_ble_eq_true rfl) (by rw [hR]; exact Nat.le_of_ble_eq_true rfl) (by rw [hR]; exact Nat.le_of_ble_eq_true rfl) (fun h101 H hP hD hS => ?_)
  have hP : va_P g vwCl [(hm, oB 8 [.ref h8, vI 0, .ref h15, .ref h22, vI 0, vI 0, vI 0, vI 0, .ref h30, .ref h38, vI 0, .ref h45, .ref h52, vJ 0, .ref h61, vI 0, vI 0, vI 0, vI 0, .ref h69, vI 0, .ref h77, .ref h85, vI 0, vI 0, .ref h94, .null, vJ 0]), (h8, aJ ca 7284 (fun _ => 0)), (h15, aZ ca 2 (fun _ => 0)), (h22, aI ca 5 (fun _ => 0)), (h30, aI ca 6 (fun _ => 0)), (h38, aI ca 6 (fun _ => 0)), (h45, aI ca 5 (fun _ => 0)), (h52, aI ca 5 (fun _ => 0)), (h61, aI ca 200 (fun _ => 0)), (h69, aI ca 6 (fun _ => 0)), (h77, aI ca 6 (fun _ => 0)), (h85, aI ca 6 (fun _ => 0)), (h94, aZ ca 1806 (fun _ => 0)), (h101, aI ca 5 (fun _ => 0))] H := hP
  have hD : va_D A [(hm, oB 8 [.ref h8, vI 0, .ref h15, .ref h22, vI 0, vI 0, vI 0, vI 0, .ref h30, .ref h38, vI 0, .ref h45, .ref h52, vJ 0, .ref h61, vI 0, vI 0, vI 0, vI 0, .ref h69, vI 0, .ref h77, .ref h85, vI 0, vI 0, .ref h94, .null, vJ 0]), (h8, aJ ca 7284 (fun _ => 0)), (h15, aZ ca 2 (fun _ => 0)), (h22, aI ca 5 (fun _ => 0)), (h30, aI ca 6 (fun _ => 0)), (h38, aI ca 6 (fun _ => 0)), (h45, aI ca 5 (fun _ => 0)), (h52, aI ca 5 (fun _ => 0)), (h61, aI ca 200 (fun _ => 0)), (h69, aI ca 6 (fun _ => 0)), (h77, aI ca 6 (fun _ => 0)), (h85, aI ca 6 (fun _ => 0)), (h94, aZ ca 1806 (fun _ => 0)), (h101, aI ca 5 (fun _ => 0))] := hD
  refine W.widen (k := 13) (n := 9342) (Nat.le_of_ble_eq_true rfl) (Nat.le_of_ble_eq_true rfl) ?_
  refine va_putF (D := g) (ci := 8) (v := .ref h101) (ty := .array .int) (C := RX8) (T := TX8) (N := 28) hx hb hts inF_X8 tyX8 tyX8_ok nmX8 hown hK.1 hP hD hS 0 rfl rfl 26 (by decide) lk_f48 (fun _ h9 => h9) rfl hnm rfl (by decide +kernel) rfl rfl (Nat.le_of_ble_eq_true rfl) dX8_init_103 (fun H locs hP hD hS => ?_)
  have hP : va_P g vwCl [(hm, oB 8 [.ref h8, vI 0, .ref h15, .ref h22, vI 0, vI 0, vI 0, vI 0, .ref h30, .ref h38, vI 0, .ref h45, .ref h52, vJ 0, .ref h61, vI 0, vI 0, vI 0, vI 0, .ref h69, vI 0, .ref h77, .ref h85, vI 0, vI 0, .ref h94, .ref h101, vJ 0]), (h8, aJ ca 7284 (fun _ => 0)), (h15, aZ ca 2 (fun _ => 0)), (h22, aI ca 5 (fun _ => 0)), (h30, aI ca 6 (fun _ => 0)), (h38, aI ca 6 (fun _ => 0)), (h45, aI ca 5 (fun _ => 0)), (h52, aI ca 5 (fun _ => 0)), (h61, aI ca 200 (fun _ => 0)), (h69, aI ca 6 (fun _ => 0)), (h77, aI ca 6 (fun _ => 0)), (h85, aI ca 6 (fun _ => 0)), (h94, aZ ca 1806 (fun _ => 0)), (h101, aI ca 5 (fun _ => 0))] H := hP
  have hD : va_D A [(hm, oB 8 [.ref h8, vI 0, .ref h15, .ref h22, vI 0, vI 0, vI 0, vI 0, .ref h30, .ref h38, vI 0, .ref h45, .ref h52, vJ 0, .ref h61, vI 0, vI 0, vI 0, vI 0, .ref h69, vI 0, .ref h77, .ref h85, vI 0, vI 0, .ref h94, .ref h101, vJ 0]), (h8, aJ ca 7284 (fun _ => 0)), (h15, aZ ca 2 (fun _ => 0)), (h22, aI ca 5 (fun _ => 0)), (h30, aI ca 6 (fun _ => 0)), (h38, aI ca 6 (fun _ => 0)), (h45, aI ca 5 (fun _ => 0)), (h52, aI ca 5 (fun _ => 0)), (h61, aI ca 200 (fun _ => 0)), (h69, aI ca 6 (fun _ => 0)), (h77, aI ca 6 (fun _ => 0)), (h85, aI ca 6 (fun _ => 0)), (h94, aZ ca 1806 (fun _ => 0)), (h101, aI ca 5 (fun _ => 0))] := hD
  refine lv_aload_n hx hb dX8_init_106 rfl (lv_at hl 0 rfl) ?_
  refine zc_VV (As := []) (rest := []) (wc := [(hm, oB 8 [.ref h8, vI 0, .ref h15, .ref h22, vI 0, vI 0, vI 0, vI 0, .ref h30, .ref h38, vI 0, .ref h45, .ref h52, vJ 0, .ref h61, vI 0, vI 0, vI 0, vI 0, .ref h69, vI 0, .ref h77, .ref h85, vI 0, vI 0, .ref h94, .ref h101, vJ 0]), (h69, aI ca 6 (fun _ => 0))]) (wr := [(h8, aJ ca 7284 (fun _ => 0)), (h15, aZ ca 2 (fun _ => 0)), (h22, aI ca 5 (fun _ => 0)), (h30, aI ca 6 (fun _ => 0)), (h38, aI ca 6 (fun _ => 0)), (h45, aI ca 5 (fun _ => 0)), (h52, aI ca 5 (fun _ => 0)), (h61, aI ca 200 (fun _ => 0)), (h77, aI ca 6 (fun _ => 0)), (h85, aI ca 6 (fun _ => 0)), (h94, aZ ca 1806 (fun _ => 0)), (h101, aI ca 5 (fun _ => 0))]) (k_X8_readsFirst l g ca hm h8 h15 h22 h30 h38 h45 h52 h61 h69 h77 h85 h94 h101 0 0 0 0 0 0 0 0 0 0 0 0 0 0 0 (fun _ => 0) ) dX8_init_107 (cwV 0 hts gX8_init_X8_readsFirst rfl rfl rfl (by decide +kernel) (by rw [hR]; exact ⟨Nat.le_of_ble_eq_true rfl, Nat.le_of_ble_eq_true rfl⟩)) ⟨hx, hb, hml, hown, hts⟩ hl.1 hK hP hD hS hA 0 rfl rfl rfl [0, 9] [1, 2, 3, 4, 5, 6, 7, 8, 10, 11, 12, 13] rfl (by decide) rfl (by decide) (by decide) rfl rfl (Nat.le_of_ble_eq_true rfl) (by rw [hR]; exact ⟨Nat.le_of_ble_eq_true rfl, Nat.le_of_ble_eq_true rfl⟩) (fun u H locs q107 hP hD hS => ?_)
  have hP : va_P g vwCl [(hm, oB 8 [.ref h8, vI 0, .ref h15, .ref h22, vI 0, vI 0, vI 0, vI 0, .ref h30, .ref h38, vI 0, .ref h45, .ref h52, vJ 0, .ref h61, vI 0, vI 0, vI 0, vI 0, .ref h69, vI 0, .ref h77, .ref h85, vI 0, vI 0, .ref h94, .ref h101, vJ 0]), (h8, aJ ca 7284 (fun _ => 0)), (h15, aZ ca 2 (fun _ => 0)), (h22, aI ca 5 (fun _ => 0)), (h30, aI ca 6 (fun _ => 0)), (h38, aI ca 6 (fun _ => 0)), (h45, aI ca 5 (fun _ => 0)), (h52, aI ca 5 (fun _ => 0)), (h61, aI ca 200 (fun _ => 0)), (h69, aI ca 6 rd0), (h77, aI ca 6 (fun _ => 0)), (h85, aI ca 6 (fun _ => 0)), (h94, aZ ca 1806 (fun _ => 0)), (h101, aI ca 5 (fun _ => 0))] H := hP.sub [12, 0, 1, 2, 3, 4, 5, 6, 7, 13, 8, 9, 10, 11] rfl
  have hD : va_D A [(hm, oB 8 [.ref h8, vI 0, .ref h15, .ref h22, vI 0, vI 0, vI 0, vI 0, .ref h30, .ref h38, vI 0, .ref h45, .ref h52, vJ 0, .ref h61, vI 0, vI 0, vI 0, vI 0, .ref h69, vI 0, .ref h77, .ref h85, vI 0, vI 0, .ref h94, .ref h101, vJ 0]), (h8, aJ ca 7284 (fun _ => 0)), (h15, aZ ca 2 (fun _ => 0)), (h22, aI ca 5 (fun _ => 0)), (h30, aI ca 6 (fun _ => 0)), (h38, aI ca 6 (fun _ => 0)), (h45, aI ca 5 (fun _ => 0)), (h52, aI ca 5 (fun _ => 0)), (h61, aI ca 200 (fun _ => 0)), (h69, aI ca 6 rd0), (h77, aI ca 6 (fun _ => 0)), (h85, aI ca 6 (fun _ => 0)), (h94, aZ ca 1806 (fun _ => 0)), (h101, aI ca 5 (fun _ => 0))] := hD.sub [12, 0, 1, 2, 3, 4, 5, 6, 7, 13, 8, 9, 10, 11] (by decide) rfl
  refine lv_aload_n hx hb dX8_init_110 rfl (lv_at hl 0 rfl) ?_
  refine zc_VV (As := []) (rest := []) (wc := [(hm, oB 8 [.ref h8, vI 0, .ref h15, .ref h22, vI 0, vI 0, vI 0, vI 0, .ref h30, .ref h38, vI 0, .ref h45, .ref h52, vJ 0, .ref h61, vI 0, vI 0, vI 0, vI 0, .ref h69, vI 0, .ref h77, .ref h85, vI 0, vI 0, .ref h94, .ref h101, vJ 0]), (h8, aJ ca 7284 (fun _ => 0)), (h15, aZ ca 2 (fun _ => 0)), (h22, aI ca 5 (fun _ => 0)), (h30, aI ca 6 (fun _ => 0)), (h38, aI ca 6 (fun _ => 0)), (h69, aI ca 6 rd0), (h77, aI ca 6 (fun _ => 0)), (h85, aI ca 6 (fun _ => 0))]) (wr := [(h45, aI ca 5 (fun _ => 0)), (h52, aI ca 5 (fun _ => 0)), (h61, aI ca 200 (fun _ => 0)), (h94, aZ ca 1806 (fun _ => 0)), (h101, aI ca 5 (fun _ => 0))]) (k_X8_becomes l g ca hm h8 h15 h22 h30 h38 h45 h52 h61 h69 h77 h85 h94 h101 0 0 0 0 0 0 0 0 0 0 0 0 0 0 0 (fun _ => 0) (fun _ => 0) (fun _ => 0) (fun _ => 0) (fun _ => 0) rd0 (fun _ => 0) (fun _ => 0) (by unfold RDok LAWok; decide)) dX8_init_111 (cwV 0 hts gX8_init_X8_becomes rfl rfl rfl (by decide +kernel) (by rw [hR]; exact ⟨Nat.le_of_ble_eq_true rfl, Nat.le_of_ble_eq_true rfl⟩)) ⟨hx, hb, hml, hown, hts⟩ hl.1 hK hP hD hS hA 0 rfl rfl rfl [0, 1, 2, 3, 4, 5, 9, 10, 11] [6, 7, 8, 12, 13] rfl (by decide) rfl (by decide) (by decide) rfl rfl (Nat.le_of_ble_eq_true rfl) (by rw [hR]; exact ⟨Nat.le_of_ble_eq_true rfl, Nat.le_of_ble_eq_true rfl⟩) (fun u H locs q111 hP hD hS => ?_)
  obtain ⟨d1_111, rfl⟩ : ∃ q, q = u := ⟨_, rfl⟩
  have q111 : AT d1_111 0 bg 0 0 := q111
  have hP : va_P g vwCl [(hm, oB 8 [.ref h8, vI 0, .ref h15, .ref h22, vI (rd0 1), vI (rd0 2), vI (rd0 5), vI 0, .ref h30, .ref h38, vI 0, .ref h45, .ref h52, vJ 0, .ref h61, vI 0, vI 0, vI 0, vI 0, .ref h69, vI 0, .ref h77, .ref h85, vI 0, vI 0, .ref h94, .ref h101, vJ 0]), (h8, aJ ca 7284 d1_111), (h15, aZ ca 2 (fun _ => 0)), (h22, aI ca 5 (wf (rd0 0) (rd0 3) (rd0 4))), (h30, aI ca 6 (fun _ => 0)), (h38, aI ca 6 (fun _ => 0)), (h45, aI ca 5 (fun _ => 0)), (h52, aI ca 5 (fun _ => 0)), (h61, aI ca 200 (fun _ => 0)), (h69, aI ca 6 rd0), (h77, aI ca 6 (fun _ => 0)), (h85, aI ca 6 (fun _ => 0)), (h94, aZ ca 1806 (fun _ => 0)), (h101, aI ca 5 (fun _ => 0))] H := hP.sub [5, 6, 7, 8, 9, 10, 0, 1, 2, 11, 12, 13, 3, 4] rfl
  have hD : va_D A [(hm, oB 8 [.ref h8, vI 0, .ref h15, .ref h22, vI (rd0 1), vI (rd0 2), vI (rd0 5), vI 0, .ref h30, .ref h38, vI 0, .ref h45, .ref h52, vJ 0, .ref h61, vI 0, vI 0, vI 0, vI 0, .ref h69, vI 0, .ref h77, .ref h85, vI 0, vI 0, .ref h94, .ref h101, vJ 0]), (h8, aJ ca 7284 d1_111), (h15, aZ ca 2 (fun _ => 0)), (h22, aI ca 5 (wf (rd0 0) (rd0 3) (rd0 4))), (h30, aI ca 6 (fun _ => 0)), (h38, aI ca 6 (fun _ => 0)), (h45, aI ca 5 (fun _ => 0)), (h52, aI ca 5 (fun _ => 0)), (h61, aI ca 200 (fun _ => 0)), (h69, aI ca 6 rd0), (h77, aI ca 6 (fun _ => 0)), (h85, aI ca 6 (fun _ => 0)), (h94, aZ ca 1806 (fun _ => 0)), (h101, aI ca 5 (fun _ => 0))] := hD.sub [5, 6, 7, 8, 9, 10, 0, 1, 2, 11, 12, 13, 3, 4] (by decide) rfl
  have ew : ([(hm, oB 8 [.ref h8, vI 0, .ref h15, .ref h22, vI (rd0 1), vI (rd0 2), vI (rd0 5), vI 0, .ref h30, .ref h38, vI 0, .ref h45, .ref h52, vJ 0, .ref h61, vI 0, vI 0, vI 0, vI 0, .ref h69, vI 0, .ref h77, .ref h85, vI 0, vI 0, .ref h94, .ref h101, vJ 0]), (h8, aJ ca 7284 d1_111), (h15, aZ ca 2 (fun _ => 0)), (h22, aI ca 5 (wf (rd0 0) (rd0 3) (rd0 4))), (h30, aI ca 6 (fun _ => 0)), (h38, aI ca 6 (fun _ => 0)), (h45, aI ca 5 (fun _ => 0)), (h52, aI ca 5 (fun _ => 0)), (h61, aI ca 200 (fun _ => 0)), (h69, aI ca 6 rd0), (h77, aI ca 6 (fun _ => 0)), (h85, aI ca 6 (fun _ => 0)), (h94, aZ ca 1806 (fun _ => 0)), (h101, aI ca 5 (fun _ => 0))] : va_W) = [(hm, oB 8 [.ref h8, vI 0, .ref h15, .ref h22, vI 8, vI 9, vI 0, vI 0, .ref h30, .ref h38, vI 0, .ref h45, .ref h52, vJ 0, .ref h61, vI 0, vI 0, vI 0, vI 0, .ref h69, vI 0, .ref h77, .ref h85, vI 0, vI 0, .ref h94, .ref h101, vJ 0]), (h8, aJ ca 7284 d1_111), (h15, aZ ca 2 (fun _ => 0)), (h22, aI ca 5 (wf 81 1 3)), (h30, aI ca 6 (fun _ => 0)), (h38, aI ca 6 (fun _ => 0)), (h45, aI ca 5 (fun _ => 0)), (h52, aI ca 5 (fun _ => 0)), (h61, aI ca 200 (fun _ => 0)), (h69, aI ca 6 rd0), (h77, aI ca 6 (fun _ => 0)), (h85, aI ca 6 (fun _ => 0)), (h94, aZ ca 1806 (fun _ => 0)), (h101, aI ca 5 (fun _ => 0))] := by rfl
  rw [ew] at hP hD
  refine zr_V hx hb hr hlk hQ (h8, h15, h22, h30, h38, h45, h52, h61, h69, h77, h85, h94, h101, d1_111) hP hD hS dX8_init_114 (Nat.le_of_ble_eq_true rfl) (Nat.le_of_ble_eq_true rfl) ?_
  show AT d1_111 0 bg 0 0
  exact q111
