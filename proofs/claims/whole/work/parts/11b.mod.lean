set_option maxHeartbeats 4000000 in
set_option maxRecDepth 100000 in
theorem k_X8_type (l : Launch) (g : va_G) (ca : Nat → ClassId) (hm : Nat) (m0 : Nat) (m2 : Nat) (m3 : Nat) (m8 : Nat) (m9 : Nat) (m11 : Nat) (m12 : Nat) (m14 : Nat) (m19 : Nat) (m21 : Nat) (m22 : Nat) (m25 : Nat) (m26 : Nat) (un : Int) (mo : Int) (oft : Int) (la : Int) (du : Int) (to : Int) (tr : Int) (n : Int) (at0 : Int) (sa : Int) (vv : Int) (rdu : Int) (se : Int) (its : Int) (lt0 : Int) (t : Int → Int) (x : Int) (hT : TXok t n) (hx0 : in32 x) : zI (S := Int × (Int → Int)) l yX8_type wsX8_type ({ frames := 1, cells := 0, slots := 0, locals := 25 } : Room) g ca [.ref hm, vI x] [(hm, oB 8 [.ref m0, vI un, .ref m2, .ref m3, vI mo, vI oft, vI la, vI du, .ref m8, .ref m9, vI to, .ref m11, .ref m12, vJ tr, .ref m14, vI n, vI at0, vI sa, vI vv, .ref m19, vI rdu, .ref m21, .ref m22, vI se, vI its, .ref m25, .ref m26, vJ lt0]), (m14, aI ca 200 t)] (fun (z : Int) (u : Int × (Int → Int)) => (¬ (0 ≤ x ∧ x ≤ 255) ∧ z = -1 ∧ u.1 = n ∧ u.2 = t) ∨ ((0 ≤ x ∧ x ≤ 255) ∧ n = 200 ∧ z = -3 ∧ u.1 = n ∧ u.2 = t) ∨ ((0 ≤ x ∧ x ≤ 255) ∧ n < 200 ∧ z = n + 1 ∧ u.1 = n + 1 ∧ u.2 = zu t n x)) (fun (u : Int × (Int → Int)) => [(hm, oB 8 [.ref m0, vI un, .ref m2, .ref m3, vI mo, vI oft, vI la, vI du, .ref m8, .ref m9, vI to, .ref m11, .ref m12, vJ tr, .ref m14, vI u.1, vI at0, vI sa, vI vv, .ref m19, vI rdu, .ref m21, .ref m22, vI se, vI its, .ref m25, .ref m26, vJ lt0]), (m14, aI ca 200 u.2)]) 0 0 := by
  refine zm_I (cc := cX8_type) (maxL := 2) (ret := some .int) (by decide) rfl (Nat.le_of_ble_eq_true rfl) ?_
  intro p e s m below meth c A ls R args Q hR hargs hQ hx hb hml hr hts hown hlk hnm hK hP hD hA hS hl
  have hown : s.vm.findClass RX8 = some m.cls := hown
  have hl : lv_has ls 2 [(0, .ref hm), (1, vI x)] := hl
  have lk_c89 : (Cond.constantLong RX8 89 (255)).before args s = true := hts _ (by decide +kernel)
  have lk_f95 : (Cond.fieldLink RX8 95 "DripRingsModel" "texted" "I").before args s = true := hts _ (by decide +kernel)
  have inF_X8 : ∀ w ∈ wsX80, w ∈ wsX8_type := by decide +kernel
  have lk_f33 : (Cond.fieldLink RX8 33 "DripRingsModel" "text" "[I").before args s = true := hts _ (by decide +kernel)
  have hn := hT.1
  refine lv_iload_n hx hb dX8_type_0 rfl (lv_at hl 1 rfl) ?_
  refine ri_l hx hb dX8_type_1 hx0 ?_
  refine lv_lconst (v := Int64.ofInt 0) hx hb dX8_type_2 (by decide) ?_
  refine rj_ldc (z := 255) hx hb hown lk_c89 dX8_type_3 (by decide) ?_
  refine zc_SI (As := [vJ x, vJ 0, vJ 255]) (rest := []) (wc := []) (wr := [(hm, oB 8 [.ref m0, vI un, .ref m2, .ref m3, vI mo, vI oft, vI la, vI du, .ref m8, .ref m9, vI to, .ref m11, .ref m12, vJ tr, .ref m14, vI n, vI at0, vI sa, vI vv, .ref m19, vI rdu, .ref m21, .ref m22, vI se, vI its, .ref m25, .ref m26, vJ lt0]), (m14, aI ca 200 t)]) (k_X8_in l g ca x 0 255 (by exact ⟨by omega, by omega⟩) (by exact ⟨by omega, by omega⟩) (by exact ⟨by omega, by omega⟩)) dX8_type_6 (va_cwS 3 hts gX8_type_X8_in rfl rfl rfl (by decide +kernel) (by rw [hR]; exact ⟨Nat.le_of_ble_eq_true rfl, Nat.le_of_ble_eq_true rfl⟩)) ⟨hx, hb, hml, hown, hts⟩ hl.1 hK hP hD hS hA [] [0, 1] rfl (by decide) rfl (by decide) (by decide) rfl rfl (Nat.le_of_ble_eq_true rfl) (by rw [hR]; exact ⟨Nat.le_of_ble_eq_true rfl, Nat.le_of_ble_eq_true rfl⟩) (fun z6 u H locs q6 hP hD hS => ?_)
  have q6 : (z6 = 1 ∧ 0 ≤ x ∧ x ≤ 255) ∨ (z6 = 0 ∧ ¬ (0 ≤ x ∧ x ≤ 255)) := q6
  have hP : va_P g vwCl [(hm, oB 8 [.ref m0, vI un, .ref m2, .ref m3, vI mo, vI oft, vI la, vI du, .ref m8, .ref m9, vI to, .ref m11, .ref m12, vJ tr, .ref m14, vI n, vI at0, vI sa, vI vv, .ref m19, vI rdu, .ref m21, .ref m22, vI se, vI its, .ref m25, .ref m26, vJ lt0]), (m14, aI ca 200 t)] H := hP.sub [0, 1] rfl
  have hD : va_D A [(hm, oB 8 [.ref m0, vI un, .ref m2, .ref m3, vI mo, vI oft, vI la, vI du, .ref m8, .ref m9, vI to, .ref m11, .ref m12, vJ tr, .ref m14, vI n, vI at0, vI sa, vI vv, .ref m19, vI rdu, .ref m21, .ref m22, vI se, vI its, .ref m25, .ref m26, vJ lt0]), (m14, aI ca 200 t)] := hD.sub [0, 1] (by decide) rfl
  refine ri_if_ne (tgt := 14) hx hb dX8_type_9 (by decide) ⟨by omega, by omega⟩ (fun c9 => ?_) (fun c9 => ?_)
  · skip
    refine lv_aload_n hx hb dX8_type_14 rfl (lv_at hl 0 rfl) ?_
    refine va_get (D := g) (ci := 8) (v := vI n) (C := RX8) (T := TX8) (N := 28) hx hb hts inF_X8 hown hK.1 hP 0 rfl rfl 15 (by decide) lk_f95 (fun _ h9 => h9) rfl dX8_type_15 ?_
    refine lv_sipush (v := Int32.ofInt 200) hx hb dX8_type_18 (by decide) ?_
    refine ri_icmp_ne (tgt := 27) hx hb dX8_type_21 (by decide) ⟨by omega, by omega⟩ ⟨by omega, by omega⟩ (fun c21 => ?_) (fun c21 => ?_)
    · skip
      refine lv_aload_n hx hb dX8_type_27 rfl (lv_at hl 0 rfl) ?_
      refine va_get (D := g) (ci := 8) (v := .ref m14) (C := RX8) (T := TX8) (N := 28) hx hb hts inF_X8 hown hK.1 hP 0 rfl rfl 14 (by decide) lk_f33 (fun _ h9 => h9) rfl dX8_type_28 ?_
      refine lv_aload_n hx hb dX8_type_31 rfl (lv_at hl 0 rfl) ?_
      refine va_get (D := g) (ci := 8) (v := vI n) (C := RX8) (T := TX8) (N := 28) hx hb hts inF_X8 hown hK.1 hP 0 rfl rfl 15 (by decide) lk_f95 (fun _ h9 => h9) rfl dX8_type_32 ?_
      refine lv_iload_n hx hb dX8_type_35 rfl (lv_at hl 1 rfl) ?_
      refine ra_ist hx hb hK hP hD hS 1 rfl dX8_type_36 ⟨by omega, by omega⟩ (by omega) (fun H locs hP hD hS => ?_)
      have hP : va_P g vwCl [(hm, oB 8 [.ref m0, vI un, .ref m2, .ref m3, vI mo, vI oft, vI la, vI du, .ref m8, .ref m9, vI to, .ref m11, .ref m12, vJ tr, .ref m14, vI n, vI at0, vI sa, vI vv, .ref m19, vI rdu, .ref m21, .ref m22, vI se, vI its, .ref m25, .ref m26, vJ lt0]), (m14, aI ca 200 (zu t n x))] H := hP
      have hD : va_D A [(hm, oB 8 [.ref m0, vI un, .ref m2, .ref m3, vI mo, vI oft, vI la, vI du, .ref m8, .ref m9, vI to, .ref m11, .ref m12, vJ tr, .ref m14, vI n, vI at0, vI sa, vI vv, .ref m19, vI rdu, .ref m21, .ref m22, vI se, vI its, .ref m25, .ref m26, vJ lt0]), (m14, aI ca 200 (zu t n x))] := hD
      refine lv_aload_n hx hb dX8_type_37 rfl (lv_at hl 0 rfl) ?_
      refine lv_dup hx hb dX8_type_38 rfl ?_
      refine va_get (D := g) (ci := 8) (v := vI n) (C := RX8) (T := TX8) (N := 28) hx hb hts inF_X8 hown hK.1 hP 0 rfl rfl 15 (by decide) lk_f95 (fun _ h9 => h9) rfl dX8_type_39 ?_
      refine lv_iconst (v := Int32.ofInt 1) hx hb dX8_type_42 rfl ?_
      refine ri_add hx hb dX8_type_43 (fun z43 e43 => ?_)
      refine va_put (D := g) (ci := 8) (v := vI z43) (ty := .int) (C := RX8) (T := TX8) (N := 28) hx hb hts inF_X8 tyX8 tyX8_ok nmX8 hown hK.1 hP hD hS 0 rfl rfl 15 (by decide) lk_f95 (fun _ h9 => h9) rfl (by decide +kernel) rfl rfl (Nat.le_of_ble_eq_true rfl) dX8_type_44 (fun H locs hP hD hS => ?_)
      have hP : va_P g vwCl [(hm, oB 8 [.ref m0, vI un, .ref m2, .ref m3, vI mo, vI oft, vI la, vI du, .ref m8, .ref m9, vI to, .ref m11, .ref m12, vJ tr, .ref m14, vI z43, vI at0, vI sa, vI vv, .ref m19, vI rdu, .ref m21, .ref m22, vI se, vI its, .ref m25, .ref m26, vJ lt0]), (m14, aI ca 200 (zu t n x))] H := hP
      have hD : va_D A [(hm, oB 8 [.ref m0, vI un, .ref m2, .ref m3, vI mo, vI oft, vI la, vI du, .ref m8, .ref m9, vI to, .ref m11, .ref m12, vJ tr, .ref m14, vI z43, vI at0, vI sa, vI vv, .ref m19, vI rdu, .ref m21, .ref m22, vI se, vI its, .ref m25, .ref m26, vJ lt0]), (m14, aI ca 200 (zu t n x))] := hD
      refine lv_aload_n hx hb dX8_type_47 rfl (lv_at hl 0 rfl) ?_
      refine va_get (D := g) (ci := 8) (v := vI z43) (C := RX8) (T := TX8) (N := 28) hx hb hts inF_X8 hown hK.1 hP 0 rfl rfl 15 (by decide) lk_f95 (fun _ h9 => h9) rfl dX8_type_48 ?_
      refine zr_I hx hb hr hlk hQ (z43, zu t n x) hP hD hS dX8_type_51 (Nat.le_of_ble_eq_true rfl) (Nat.le_of_ble_eq_true rfl) ?_
      show (¬ (0 ≤ x ∧ x ≤ 255) ∧ z43 = -1 ∧ z43 = n ∧ (zu t n x) = t) ∨ ((0 ≤ x ∧ x ≤ 255) ∧ n = 200 ∧ z43 = -3 ∧ z43 = n ∧ (zu t n x) = t) ∨ ((0 ≤ x ∧ x ≤ 255) ∧ n < 200 ∧ z43 = n + 1 ∧ z43 = n + 1 ∧ (zu t n x) = zu t n x)
      first | exact Or.inl ⟨by omega, rfl, rfl, rfl⟩ | exact Or.inr (Or.inl ⟨by omega, by omega, rfl, rfl, rfl⟩) | exact Or.inr (Or.inr ⟨by omega, by omega, e43, e43, rfl⟩)
    · skip
      refine lv_bipush (v := Int32.ofInt (-3)) hx hb dX8_type_24 (by decide) ?_
      refine zr_I hx hb hr hlk hQ (n, t) hP hD hS dX8_type_26 (Nat.le_of_ble_eq_true rfl) (Nat.le_of_ble_eq_true rfl) ?_
      show (¬ (0 ≤ x ∧ x ≤ 255) ∧ (-3) = -1 ∧ n = n ∧ t = t) ∨ ((0 ≤ x ∧ x ≤ 255) ∧ n = 200 ∧ (-3) = -3 ∧ n = n ∧ t = t) ∨ ((0 ≤ x ∧ x ≤ 255) ∧ n < 200 ∧ (-3) = n + 1 ∧ n = n + 1 ∧ t = zu t n x)
      first | exact Or.inl ⟨by omega, rfl, rfl, rfl⟩ | exact Or.inr (Or.inl ⟨by omega, by omega, rfl, rfl, rfl⟩) | exact Or.inr (Or.inr ⟨by omega, by omega, e43, e43, rfl⟩)
  · skip
    refine lv_iconst (v := Int32.ofInt (-1)) hx hb dX8_type_12 rfl ?_
    refine zr_I hx hb hr hlk hQ (n, t) hP hD hS dX8_type_13 (Nat.le_of_ble_eq_true rfl) (Nat.le_of_ble_eq_true rfl) ?_
    show (¬ (0 ≤ x ∧ x ≤ 255) ∧ (-1) = -1 ∧ n = n ∧ t = t) ∨ ((0 ≤ x ∧ x ≤ 255) ∧ n = 200 ∧ (-1) = -3 ∧ n = n ∧ t = t) ∨ ((0 ≤ x ∧ x ≤ 255) ∧ n < 200 ∧ (-1) = n + 1 ∧ n = n + 1 ∧ t = zu t n x)
    first | exact Or.inl ⟨by omega, rfl, rfl, rfl⟩ | exact Or.inr (Or.inl ⟨by omega, by omega, rfl, rfl, rfl⟩) | exact Or.inr (Or.inr ⟨by omega, by omega, e43, e43, rfl⟩)
set_option maxHeartbeats 4000000 in
set_option maxRecDepth 100000 in
theorem k_X8_clear (l : Launch) (g : va_G) (ca : Nat → ClassId) (hm : Nat) (m0 : Nat) (m2 : Nat) (m3 : Nat) (m8 : Nat) (m9 : Nat) (m11 : Nat) (m12 : Nat) (m14 : Nat) (m19 : Nat) (m21 : Nat) (m22 : Nat) (m25 : Nat) (m26 : Nat) (un : Int) (mo : Int) (oft : Int) (la : Int) (du : Int) (to : Int) (tr : Int) (n : Int) (at0 : Int) (sa : Int) (vv : Int) (rdu : Int) (se : Int) (its : Int) (lt0 : Int)  : zI (S := Unit) l yX8_clear wsX8_clear ({ frames := 0, cells := 0, slots := 0, locals := 0 } : Room) g ca [.ref hm] [(hm, oB 8 [.ref m0, vI un, .ref m2, .ref m3, vI mo, vI oft, vI la, vI du, .ref m8, .ref m9, vI to, .ref m11, .ref m12, vJ tr, .ref m14, vI n, vI at0, vI sa, vI vv, .ref m19, vI rdu, .ref m21, .ref m22, vI se, vI its, .ref m25, .ref m26, vJ lt0])] (fun (z : Int) (u : Unit) => z = n) (fun (u : Unit) => [(hm, oB 8 [.ref m0, vI un, .ref m2, .ref m3, vI mo, vI oft, vI la, vI du, .ref m8, .ref m9, vI to, .ref m11, .ref m12, vJ tr, .ref m14, vI 0, vI at0, vI sa, vI vv, .ref m19, vI rdu, .ref m21, .ref m22, vI se, vI its, .ref m25, .ref m26, vJ lt0])]) 0 0 := by
  refine zm_I (cc := cX8_clear) (maxL := 2) (ret := some .int) (by decide) rfl (Nat.le_of_ble_eq_true rfl) ?_
  intro p e s m below meth c A ls R args Q hR hargs hQ hx hb hml hr hts hown hlk hnm hK hP hD hA hS hl
  have hown : s.vm.findClass RX8 = some m.cls := hown
  have hl : lv_has ls 2 [(0, .ref hm)] := hl
  have lk_f95 : (Cond.fieldLink RX8 95 "DripRingsModel" "texted" "I").before args s = true := hts _ (by decide +kernel)
  have inF_X8 : ∀ w ∈ wsX80, w ∈ wsX8_clear := by decide +kernel
  refine lv_aload_n hx hb dX8_clear_0 rfl (lv_at hl 0 rfl) ?_
  refine va_get (D := g) (ci := 8) (v := vI n) (C := RX8) (T := TX8) (N := 28) hx hb hts inF_X8 hown hK.1 hP 0 rfl rfl 15 (by decide) lk_f95 (fun _ h9 => h9) rfl dX8_clear_1 ?_
  refine lv_istore_n (lv' := [(1, vI n), (0, .ref hm)]) hx hb dX8_clear_4 rfl hl (by decide) rfl (fun ls hl => ?_)
  refine lv_aload_n hx hb dX8_clear_5 rfl (lv_at hl 1 rfl) ?_
  refine lv_iconst (v := Int32.ofInt 0) hx hb dX8_clear_6 rfl ?_
  refine va_put (D := g) (ci := 8) (v := vI 0) (ty := .int) (C := RX8) (T := TX8) (N := 28) hx hb hts inF_X8 tyX8 tyX8_ok nmX8 hown hK.1 hP hD hS 0 rfl rfl 15 (by decide) lk_f95 (fun _ h9 => h9) rfl (by decide +kernel) rfl rfl (Nat.le_of_ble_eq_true rfl) dX8_clear_7 (fun H locs hP hD hS => ?_)
  have hP : va_P g vwCl [(hm, oB 8 [.ref m0, vI un, .ref m2, .ref m3, vI mo, vI oft, vI la, vI du, .ref m8, .ref m9, vI to, .ref m11, .ref m12, vJ tr, .ref m14, vI 0, vI at0, vI sa, vI vv, .ref m19, vI rdu, .ref m21, .ref m22, vI se, vI its, .ref m25, .ref m26, vJ lt0])] H := hP
  have hD : va_D A [(hm, oB 8 [.ref m0, vI un, .ref m2, .ref m3, vI mo, vI oft, vI la, vI du, .ref m8, .ref m9, vI to, .ref m11, .ref m12, vJ tr, .ref m14, vI 0, vI at0, vI sa, vI vv, .ref m19, vI rdu, .ref m21, .ref m22, vI se, vI its, .ref m25, .ref m26, vJ lt0])] := hD
  refine lv_iload_n hx hb dX8_clear_10 rfl (lv_at hl 0 rfl) ?_
  refine zr_I hx hb hr hlk hQ () hP hD hS dX8_clear_11 (Nat.le_of_ble_eq_true rfl) (Nat.le_of_ble_eq_true rfl) ?_
  show n = n
  rfl
set_option maxHeartbeats 4000000 in
set_option maxRecDepth 100000 in
theorem k_X8_order (l : Launch) (g : va_G) (ca : Nat → ClassId) (hm : Nat) (m0 : Nat) (m2 : Nat) (m3 : Nat) (m8 : Nat) (m9 : Nat) (m11 : Nat) (m12 : Nat) (m14 : Nat) (m19 : Nat) (m21 : Nat) (m22 : Nat) (m25 : Nat) (m26 : Nat) (un : Int) (mo : Int) (oft : Int) (la : Int) (du : Int) (to : Int) (tr : Int) (n : Int) (at0 : Int) (sa : Int) (vv : Int) (rdu : Int) (se : Int) (its : Int) (lt0 : Int) (d : Int → Int) (w : Int → Int) (o : Int) (x : Int) (b : Int → Int) (nn : Int) (ml : Int) (hAT : AT d 0 b nn ml) (hB : GB b nn) (hW : GW w) (hE : EAok (ef oft la)) (hM : 1 ≤ mo ∧ mo ≤ 9) (hx0 : in32 o) (hx1 : in32 x) : zI (S := Unit) l yX8_order wsX8_order ({ frames := 2, cells := 0, slots := 0, locals := 45 } : Room) g ca [.ref hm, vI o, vI x] [(hm, oB 8 [.ref m0, vI un, .ref m2, .ref m3, vI mo, vI oft, vI la, vI du, .ref m8, .ref m9, vI to, .ref m11, .ref m12, vJ tr, .ref m14, vI n, vI at0, vI sa, vI vv, .ref m19, vI rdu, .ref m21, .ref m22, vI se, vI its, .ref m25, .ref m26, vJ lt0]), (m0, aJ ca 7284 d), (m3, aI ca 5 w)] (fun (z : Int) (u : Unit) => z = orv w (ef oft la) b nn o x) (fun (u : Unit) => [(hm, oB 8 [.ref m0, vI un, .ref m2, .ref m3, vI mo, vI oft, vI la, vI du, .ref m8, .ref m9, vI to, .ref m11, .ref m12, vJ tr, .ref m14, vI n, vI at0, vI sa, vI vv, .ref m19, vI rdu, .ref m21, .ref m22, vI se, vI its, .ref m25, .ref m26, vJ lt0]), (m0, aJ ca 7284 d), (m3, aI ca 5 w)]) 0 0 := by
  refine zm_I (cc := cX8_order) (maxL := 3) (ret := some .int) (by decide) rfl (Nat.le_of_ble_eq_true rfl) ?_
  intro p e s m below meth c A ls R args Q hR hargs hQ hx hb hml hr hts hown hlk hnm hK hP hD hA hS hl
  have hown : s.vm.findClass RX8 = some m.cls := hown
  have hl : lv_has ls 3 [(0, .ref hm), (1, vI o), (2, vI x)] := hl
  have lk_c152 : (Cond.constantLong RX8 152 (3)).before args s = true := hts _ (by decide +kernel)
  have lk_f17 : (Cond.fieldLink RX8 17 "DripRingsModel" "weights" "[I").before args s = true := hts _ (by decide +kernel)
  have inF_X8 : ∀ w ∈ wsX80, w ∈ wsX8_order := by decide +kernel
  refine lv_iload_n hx hb dX8_order_0 rfl (lv_at hl 1 rfl) ?_
  refine zc_SI (As := [vI o]) (rest := []) (wc := []) (wr := [(hm, oB 8 [.ref m0, vI un, .ref m2, .ref m3, vI mo, vI oft, vI la, vI du, .ref m8, .ref m9, vI to, .ref m11, .ref m12, vJ tr, .ref m14, vI n, vI at0, vI sa, vI vv, .ref m19, vI rdu, .ref m21, .ref m22, vI se, vI its, .ref m25, .ref m26, vJ lt0]), (m0, aJ ca 7284 d), (m3, aI ca 5 w)]) (k_X8_isOrder l g ca o (by exact hx0)) dX8_order_1 (va_cwS 1 hts gX8_order_X8_isOrder rfl rfl rfl (by decide +kernel) (by rw [hR]; exact ⟨Nat.le_of_ble_eq_true rfl, Nat.le_of_ble_eq_true rfl⟩)) ⟨hx, hb, hml, hown, hts⟩ hl.1 hK hP hD hS hA [] [0, 1, 2] rfl (by decide) rfl (by decide) (by decide) rfl rfl (Nat.le_of_ble_eq_true rfl) (by rw [hR]; exact ⟨Nat.le_of_ble_eq_true rfl, Nat.le_of_ble_eq_true rfl⟩) (fun z1 u H locs q1 hP hD hS => ?_)
  have q1 : (z1 = 1 ∧ 0 ≤ o ∧ o ≤ 4) ∨ (z1 = 0 ∧ ¬ (0 ≤ o ∧ o ≤ 4)) := q1
  have hP : va_P g vwCl [(hm, oB 8 [.ref m0, vI un, .ref m2, .ref m3, vI mo, vI oft, vI la, vI du, .ref m8, .ref m9, vI to, .ref m11, .ref m12, vJ tr, .ref m14, vI n, vI at0, vI sa, vI vv, .ref m19, vI rdu, .ref m21, .ref m22, vI se, vI its, .ref m25, .ref m26, vJ lt0]), (m0, aJ ca 7284 d), (m3, aI ca 5 w)] H := hP.sub [0, 1, 2] rfl
  have hD : va_D A [(hm, oB 8 [.ref m0, vI un, .ref m2, .ref m3, vI mo, vI oft, vI la, vI du, .ref m8, .ref m9, vI to, .ref m11, .ref m12, vJ tr, .ref m14, vI n, vI at0, vI sa, vI vv, .ref m19, vI rdu, .ref m21, .ref m22, vI se, vI its, .ref m25, .ref m26, vJ lt0]), (m0, aJ ca 7284 d), (m3, aI ca 5 w)] := hD.sub [0, 1, 2] (by decide) rfl
  refine ri_if_eq (tgt := 19) hx hb dX8_order_4 (by decide) ⟨by omega, by omega⟩ (fun c4 => ?_) (fun c4 => ?_)
  · skip
    refine lv_iconst (v := Int32.ofInt (-1)) hx hb dX8_order_19 rfl ?_
    refine zr_I hx hb hr hlk hQ () hP hD hS dX8_order_20 (Nat.le_of_ble_eq_true rfl) (Nat.le_of_ble_eq_true rfl) ?_
    show (-1) = orv w (ef oft la) b nn o x
    unfold orv
    first
    | (rw [if_neg (fun q => by omega)])
    | (by_cases ho9 : 0 ≤ o ∧ o ≤ 4
       · rw [if_pos ho9, if_neg (by omega), if_neg (by omega), if_neg (by omega), if_neg (by omega)]
       · rw [if_neg ho9])
    | (rw [if_pos (by omega), if_pos (by omega)])
    | (rw [if_pos (by omega), if_neg (by omega), if_pos (by omega), q41])
    | (rw [if_pos (by omega), if_neg (by omega), if_neg (by omega), if_pos (by omega)]
       rcases q54 with q9 | q9 <;> split <;> omega)
    | (rw [if_pos (by omega), if_neg (by omega), if_neg (by omega), if_neg (by omega), if_pos (by omega), q70])
  · skip
    refine lv_iload_n hx hb dX8_order_7 rfl (lv_at hl 2 rfl) ?_
    refine ri_l hx hb dX8_order_8 hx1 ?_
    refine lv_lconst (v := Int64.ofInt 0) hx hb dX8_order_9 (by decide) ?_
    refine rj_ldc (z := 3) hx hb hown lk_c152 dX8_order_10 (by decide) ?_
    refine zc_SI (As := [vJ x, vJ 0, vJ 3]) (rest := []) (wc := []) (wr := [(hm, oB 8 [.ref m0, vI un, .ref m2, .ref m3, vI mo, vI oft, vI la, vI du, .ref m8, .ref m9, vI to, .ref m11, .ref m12, vJ tr, .ref m14, vI n, vI at0, vI sa, vI vv, .ref m19, vI rdu, .ref m21, .ref m22, vI se, vI its, .ref m25, .ref m26, vJ lt0]), (m0, aJ ca 7284 d), (m3, aI ca 5 w)]) (k_X8_in l g ca x 0 3 (by exact ⟨by omega, by omega⟩) (by exact ⟨by omega, by omega⟩) (by exact ⟨by omega, by omega⟩)) dX8_order_13 (va_cwS 3 hts gX8_order_X8_in rfl rfl rfl (by decide +kernel) (by rw [hR]; exact ⟨Nat.le_of_ble_eq_true rfl, Nat.le_of_ble_eq_true rfl⟩)) ⟨hx, hb, hml, hown, hts⟩ hl.1 hK hP hD hS hA [] [0, 1, 2] rfl (by decide) rfl (by decide) (by decide) rfl rfl (Nat.le_of_ble_eq_true rfl) (by rw [hR]; exact ⟨Nat.le_of_ble_eq_true rfl, Nat.le_of_ble_eq_true rfl⟩) (fun z13 u H locs q13 hP hD hS => ?_)
    have q13 : (z13 = 1 ∧ 0 ≤ x ∧ x ≤ 3) ∨ (z13 = 0 ∧ ¬ (0 ≤ x ∧ x ≤ 3)) := q13
    have hP : va_P g vwCl [(hm, oB 8 [.ref m0, vI un, .ref m2, .ref m3, vI mo, vI oft, vI la, vI du, .ref m8, .ref m9, vI to, .ref m11, .ref m12, vJ tr, .ref m14, vI n, vI at0, vI sa, vI vv, .ref m19, vI rdu, .ref m21, .ref m22, vI se, vI its, .ref m25, .ref m26, vJ lt0]), (m0, aJ ca 7284 d), (m3, aI ca 5 w)] H := hP.sub [0, 1, 2] rfl
    have hD : va_D A [(hm, oB 8 [.ref m0, vI un, .ref m2, .ref m3, vI mo, vI oft, vI la, vI du, .ref m8, .ref m9, vI to, .ref m11, .ref m12, vJ tr, .ref m14, vI n, vI at0, vI sa, vI vv, .ref m19, vI rdu, .ref m21, .ref m22, vI se, vI its, .ref m25, .ref m26, vJ lt0]), (m0, aJ ca 7284 d), (m3, aI ca 5 w)] := hD.sub [0, 1, 2] (by decide) rfl
    refine ri_if_ne (tgt := 21) hx hb dX8_order_16 (by decide) ⟨by omega, by omega⟩ (fun c16 => ?_) (fun c16 => ?_)
    · skip
      refine lv_iload_n hx hb dX8_order_21 rfl (lv_at hl 2 rfl) ?_
      refine ri_if_ne (tgt := 34) hx hb dX8_order_22 (by decide) hx1 (fun c22 => ?_) (fun c22 => ?_)
      · skip
        refine lv_iload_n hx hb dX8_order_34 rfl (lv_at hl 2 rfl) ?_
        refine lv_iconst (v := Int32.ofInt 1) hx hb dX8_order_35 rfl ?_
        refine ri_icmp_ne (tgt := 47) hx hb dX8_order_36 (by decide) hx1 ⟨by omega, by omega⟩ (fun c36 => ?_) (fun c36 => ?_)
        · skip
          refine lv_iload_n hx hb dX8_order_47 rfl (lv_at hl 2 rfl) ?_
          refine lv_iconst (v := Int32.ofInt 2) hx hb dX8_order_48 rfl ?_
          refine ri_icmp_ne (tgt := 68) hx hb dX8_order_49 (by decide) hx1 ⟨by omega, by omega⟩ (fun c49 => ?_) (fun c49 => ?_)
          · skip
            refine lv_aload_n hx hb dX8_order_68 rfl (lv_at hl 0 rfl) ?_
            refine lv_iload_n hx hb dX8_order_69 rfl (lv_at hl 1 rfl) ?_
            refine zc_VI (As := [vI o]) (rest := []) (wc := [(hm, oB 8 [.ref m0, vI un, .ref m2, .ref m3, vI mo, vI oft, vI la, vI du, .ref m8, .ref m9, vI to, .ref m11, .ref m12, vJ tr, .ref m14, vI n, vI at0, vI sa, vI vv, .ref m19, vI rdu, .ref m21, .ref m22, vI se, vI its, .ref m25, .ref m26, vJ lt0]), (m0, aJ ca 7284 d)]) (wr := [(m3, aI ca 5 w)]) (k_X8_oldest l g ca hm m0 m2 m3 m8 m9 m11 m12 m14 m19 m21 m22 m25 m26 un mo oft la du to tr n at0 sa vv rdu se its lt0 d o b nn ml (by first | assumption | omega) (by first | assumption | omega) (by first | assumption | omega)) dX8_order_70 (cwV 1 hts gX8_order_X8_oldest rfl rfl rfl (by decide +kernel) (by rw [hR]; exact ⟨Nat.le_of_ble_eq_true rfl, Nat.le_of_ble_eq_true rfl⟩)) ⟨hx, hb, hml, hown, hts⟩ hl.1 hK hP hD hS hA 0 rfl rfl rfl [0, 1] [2] rfl (by decide) rfl (by decide) (by decide) rfl rfl (Nat.le_of_ble_eq_true rfl) (by rw [hR]; exact ⟨Nat.le_of_ble_eq_true rfl, Nat.le_of_ble_eq_true rfl⟩) (fun z70 u H locs q70 hP hD hS => ?_)
            have q70 : z70 = og b (121 * o) nn 121 0 := q70
            have hP : va_P g vwCl [(hm, oB 8 [.ref m0, vI un, .ref m2, .ref m3, vI mo, vI oft, vI la, vI du, .ref m8, .ref m9, vI to, .ref m11, .ref m12, vJ tr, .ref m14, vI n, vI at0, vI sa, vI vv, .ref m19, vI rdu, .ref m21, .ref m22, vI se, vI its, .ref m25, .ref m26, vJ lt0]), (m0, aJ ca 7284 d), (m3, aI ca 5 w)] H := hP.sub [1, 2, 0] rfl
            have hD : va_D A [(hm, oB 8 [.ref m0, vI un, .ref m2, .ref m3, vI mo, vI oft, vI la, vI du, .ref m8, .ref m9, vI to, .ref m11, .ref m12, vJ tr, .ref m14, vI n, vI at0, vI sa, vI vv, .ref m19, vI rdu, .ref m21, .ref m22, vI se, vI its, .ref m25, .ref m26, vJ lt0]), (m0, aJ ca 7284 d), (m3, aI ca 5 w)] := hD.sub [1, 2, 0] (by decide) rfl
            refine zr_I hx hb hr hlk hQ () hP hD hS dX8_order_73 (Nat.le_of_ble_eq_true rfl) (Nat.le_of_ble_eq_true rfl) ?_
            show z70 = orv w (ef oft la) b nn o x
            unfold orv
            first
            | (rw [if_neg (fun q => by omega)])
            | (by_cases ho9 : 0 ≤ o ∧ o ≤ 4
               · rw [if_pos ho9, if_neg (by omega), if_neg (by omega), if_neg (by omega), if_neg (by omega)]
               · rw [if_neg ho9])
            | (rw [if_pos (by omega), if_pos (by omega)])
            | (rw [if_pos (by omega), if_neg (by omega), if_pos (by omega), q41])
            | (rw [if_pos (by omega), if_neg (by omega), if_neg (by omega), if_pos (by omega)]
               rcases q54 with q9 | q9 <;> split <;> omega)
            | (rw [if_pos (by omega), if_neg (by omega), if_neg (by omega), if_neg (by omega), if_pos (by omega), q70])
          · skip
            refine lv_aload_n hx hb dX8_order_52 rfl (lv_at hl 0 rfl) ?_
            refine lv_iload_n hx hb dX8_order_53 rfl (lv_at hl 1 rfl) ?_
            refine zc_VI (As := [vI o]) (rest := []) (wc := [(hm, oB 8 [.ref m0, vI un, .ref m2, .ref m3, vI mo, vI oft, vI la, vI du, .ref m8, .ref m9, vI to, .ref m11, .ref m12, vJ tr, .ref m14, vI n, vI at0, vI sa, vI vv, .ref m19, vI rdu, .ref m21, .ref m22, vI se, vI its, .ref m25, .ref m26, vJ lt0]), (m3, aI ca 5 w)]) (wr := [(m0, aJ ca 7284 d)]) (k_X8_dripsOf l g ca hm m0 m2 m3 m8 m9 m11 m12 m14 m19 m21 m22 m25 m26 un mo oft la du to tr n at0 sa vv rdu se its lt0 w o (by first | assumption | omega) (by first | assumption | omega)) dX8_order_54 (cwV 1 hts gX8_order_X8_dripsOf rfl rfl rfl (by decide +kernel) (by rw [hR]; exact ⟨Nat.le_of_ble_eq_true rfl, Nat.le_of_ble_eq_true rfl⟩)) ⟨hx, hb, hml, hown, hts⟩ hl.1 hK hP hD hS hA 0 rfl rfl rfl [0, 2] [1] rfl (by decide) rfl (by decide) (by decide) rfl rfl (Nat.le_of_ble_eq_true rfl) (by rw [hR]; exact ⟨Nat.le_of_ble_eq_true rfl, Nat.le_of_ble_eq_true rfl⟩) (fun z54 u H locs q54 hP hD hS => ?_)
            have q54 : (z54 = 1 ∧ o ≤ 3 ∧ 0 < w (o + 1)) ∨ (z54 = 0 ∧ ¬ (o ≤ 3 ∧ 0 < w (o + 1))) := q54
            have hP : va_P g vwCl [(hm, oB 8 [.ref m0, vI un, .ref m2, .ref m3, vI mo, vI oft, vI la, vI du, .ref m8, .ref m9, vI to, .ref m11, .ref m12, vJ tr, .ref m14, vI n, vI at0, vI sa, vI vv, .ref m19, vI rdu, .ref m21, .ref m22, vI se, vI its, .ref m25, .ref m26, vJ lt0]), (m0, aJ ca 7284 d), (m3, aI ca 5 w)] H := hP.sub [1, 0, 2] rfl
            have hD : va_D A [(hm, oB 8 [.ref m0, vI un, .ref m2, .ref m3, vI mo, vI oft, vI la, vI du, .ref m8, .ref m9, vI to, .ref m11, .ref m12, vJ tr, .ref m14, vI n, vI at0, vI sa, vI vv, .ref m19, vI rdu, .ref m21, .ref m22, vI se, vI its, .ref m25, .ref m26, vJ lt0]), (m0, aJ ca 7284 d), (m3, aI ca 5 w)] := hD.sub [1, 0, 2] (by decide) rfl
            refine ri_if_eq (tgt := 64) hx hb dX8_order_57 (by decide) ⟨by omega, by omega⟩ (fun c57 => ?_) (fun c57 => ?_)
            · skip
              refine lv_iconst (v := Int32.ofInt 0) hx hb dX8_order_64 rfl ?_
              refine lv_goto (tgt := 73) hx hb dX8_order_65 (by decide) ?_
              refine zr_I hx hb hr hlk hQ () hP hD hS dX8_order_73 (Nat.le_of_ble_eq_true rfl) (Nat.le_of_ble_eq_true rfl) ?_
              show 0 = orv w (ef oft la) b nn o x
              unfold orv
              first
              | (rw [if_neg (fun q => by omega)])
              | (by_cases ho9 : 0 ≤ o ∧ o ≤ 4
                 · rw [if_pos ho9, if_neg (by omega), if_neg (by omega), if_neg (by omega), if_neg (by omega)]
                 · rw [if_neg ho9])
              | (rw [if_pos (by omega), if_pos (by omega)])
              | (rw [if_pos (by omega), if_neg (by omega), if_pos (by omega), q41])
              | (rw [if_pos (by omega), if_neg (by omega), if_neg (by omega), if_pos (by omega)]
                 rcases q54 with q9 | q9 <;> split <;> omega)
              | (rw [if_pos (by omega), if_neg (by omega), if_neg (by omega), if_neg (by omega), if_pos (by omega), q70])
            · skip
              refine lv_iconst (v := Int32.ofInt 1) hx hb dX8_order_60 rfl ?_
              refine lv_goto (tgt := 73) hx hb dX8_order_61 (by decide) ?_
              refine zr_I hx hb hr hlk hQ () hP hD hS dX8_order_73 (Nat.le_of_ble_eq_true rfl) (Nat.le_of_ble_eq_true rfl) ?_
              show 1 = orv w (ef oft la) b nn o x
              unfold orv
              first
              | (rw [if_neg (fun q => by omega)])
              | (by_cases ho9 : 0 ≤ o ∧ o ≤ 4
                 · rw [if_pos ho9, if_neg (by omega), if_neg (by omega), if_neg (by omega), if_neg (by omega)]
                 · rw [if_neg ho9])
              | (rw [if_pos (by omega), if_pos (by omega)])
              | (rw [if_pos (by omega), if_neg (by omega), if_pos (by omega), q41])
              | (rw [if_pos (by omega), if_neg (by omega), if_neg (by omega), if_pos (by omega)]
                 rcases q54 with q9 | q9 <;> split <;> omega)
              | (rw [if_pos (by omega), if_neg (by omega), if_neg (by omega), if_neg (by omega), if_pos (by omega), q70])
        · skip
          refine lv_aload_n hx hb dX8_order_39 rfl (lv_at hl 0 rfl) ?_
          refine lv_iload_n hx hb dX8_order_40 rfl (lv_at hl 1 rfl) ?_
          refine zc_VI (As := [vI o]) (rest := []) (wc := [(hm, oB 8 [.ref m0, vI un, .ref m2, .ref m3, vI mo, vI oft, vI la, vI du, .ref m8, .ref m9, vI to, .ref m11, .ref m12, vJ tr, .ref m14, vI n, vI at0, vI sa, vI vv, .ref m19, vI rdu, .ref m21, .ref m22, vI se, vI its, .ref m25, .ref m26, vJ lt0])]) (wr := [(m0, aJ ca 7284 d), (m3, aI ca 5 w)]) (k_X8_eachOf l g ca hm m0 m2 m3 m8 m9 m11 m12 m14 m19 m21 m22 m25 m26 un mo oft la du to tr n at0 sa vv rdu se its lt0 o ) dX8_order_41 (cwV 1 hts gX8_order_X8_eachOf rfl rfl rfl (by decide +kernel) (by rw [hR]; exact ⟨Nat.le_of_ble_eq_true rfl, Nat.le_of_ble_eq_true rfl⟩)) ⟨hx, hb, hml, hown, hts⟩ hl.1 hK hP hD hS hA 0 rfl rfl rfl [0] [1, 2] rfl (by decide) rfl (by decide) (by decide) rfl rfl (Nat.le_of_ble_eq_true rfl) (by rw [hR]; exact ⟨Nat.le_of_ble_eq_true rfl, Nat.le_of_ble_eq_true rfl⟩) (fun z41 u H locs q41 hP hD hS => ?_)
          have q41 : z41 = ef oft la o := q41
          have hP : va_P g vwCl [(hm, oB 8 [.ref m0, vI un, .ref m2, .ref m3, vI mo, vI oft, vI la, vI du, .ref m8, .ref m9, vI to, .ref m11, .ref m12, vJ tr, .ref m14, vI n, vI at0, vI sa, vI vv, .ref m19, vI rdu, .ref m21, .ref m22, vI se, vI its, .ref m25, .ref m26, vJ lt0]), (m0, aJ ca 7284 d), (m3, aI ca 5 w)] H := hP.sub [2, 0, 1] rfl
          have hD : va_D A [(hm, oB 8 [.ref m0, vI un, .ref m2, .ref m3, vI mo, vI oft, vI la, vI du, .ref m8, .ref m9, vI to, .ref m11, .ref m12, vJ tr, .ref m14, vI n, vI at0, vI sa, vI vv, .ref m19, vI rdu, .ref m21, .ref m22, vI se, vI its, .ref m25, .ref m26, vJ lt0]), (m0, aJ ca 7284 d), (m3, aI ca 5 w)] := hD.sub [2, 0, 1] (by decide) rfl
          refine lv_goto (tgt := 73) hx hb dX8_order_44 (by decide) ?_
          refine zr_I hx hb hr hlk hQ () hP hD hS dX8_order_73 (Nat.le_of_ble_eq_true rfl) (Nat.le_of_ble_eq_true rfl) ?_
          show z41 = orv w (ef oft la) b nn o x
          unfold orv
          first
          | (rw [if_neg (fun q => by omega)])
          | (by_cases ho9 : 0 ≤ o ∧ o ≤ 4
             · rw [if_pos ho9, if_neg (by omega), if_neg (by omega), if_neg (by omega), if_neg (by omega)]
             · rw [if_neg ho9])
          | (rw [if_pos (by omega), if_pos (by omega)])
          | (rw [if_pos (by omega), if_neg (by omega), if_pos (by omega), q41])
          | (rw [if_pos (by omega), if_neg (by omega), if_neg (by omega), if_pos (by omega)]
             rcases q54 with q9 | q9 <;> split <;> omega)
          | (rw [if_pos (by omega), if_neg (by omega), if_neg (by omega), if_neg (by omega), if_pos (by omega), q70])
      · skip
        refine lv_aload_n hx hb dX8_order_25 rfl (lv_at hl 0 rfl) ?_
        refine va_get (D := g) (ci := 8) (v := .ref m3) (C := RX8) (T := TX8) (N := 28) hx hb hts inF_X8 hown hK.1 hP 0 rfl rfl 3 (by decide) lk_f17 (fun _ h9 => h9) rfl dX8_order_26 ?_
        refine lv_iload_n hx hb dX8_order_29 rfl (lv_at hl 1 rfl) ?_
        refine ra_ild hx hb hK hP 2 rfl dX8_order_30 ⟨by omega, by omega⟩ (by omega) ?_
        refine lv_goto (tgt := 73) hx hb dX8_order_31 (by decide) ?_
        refine zr_I hx hb hr hlk hQ () hP hD hS dX8_order_73 (Nat.le_of_ble_eq_true rfl) (Nat.le_of_ble_eq_true rfl) ?_
        show (w o) = orv w (ef oft la) b nn o x
        unfold orv
        first
        | (rw [if_neg (fun q => by omega)])
        | (by_cases ho9 : 0 ≤ o ∧ o ≤ 4
           · rw [if_pos ho9, if_neg (by omega), if_neg (by omega), if_neg (by omega), if_neg (by omega)]
           · rw [if_neg ho9])
        | (rw [if_pos (by omega), if_pos (by omega)])
        | (rw [if_pos (by omega), if_neg (by omega), if_pos (by omega), q41])
        | (rw [if_pos (by omega), if_neg (by omega), if_neg (by omega), if_pos (by omega)]
           rcases q54 with q9 | q9 <;> split <;> omega)
        | (rw [if_pos (by omega), if_neg (by omega), if_neg (by omega), if_neg (by omega), if_pos (by omega), q70])
    · skip
      refine lv_iconst (v := Int32.ofInt (-1)) hx hb dX8_order_19 rfl ?_
      refine zr_I hx hb hr hlk hQ () hP hD hS dX8_order_20 (Nat.le_of_ble_eq_true rfl) (Nat.le_of_ble_eq_true rfl) ?_
      show (-1) = orv w (ef oft la) b nn o x
      unfold orv
      first
      | (rw [if_neg (fun q => by omega)])
      | (by_cases ho9 : 0 ≤ o ∧ o ≤ 4
         · rw [if_pos ho9, if_neg (by omega), if_neg (by omega), if_neg (by omega), if_neg (by omega)]
         · rw [if_neg ho9])
      | (rw [if_pos (by omega), if_pos (by omega)])
      | (rw [if_pos (by omega), if_neg (by omega), if_pos (by omega), q41])
      | (rw [if_pos (by omega), if_neg (by omega), if_neg (by omega), if_pos (by omega)]
         rcases q54 with q9 | q9 <;> split <;> omega)
      | (rw [if_pos (by omega), if_neg (by omega), if_neg (by omega), if_neg (by omega), if_pos (by omega), q70])
set_option maxHeartbeats 4000000 in
set_option maxRecDepth 100000 in
theorem k_X8_due (l : Launch) (g : va_G) (ca : Nat → ClassId) (hm : Nat) (m0 : Nat) (m2 : Nat) (m3 : Nat) (m8 : Nat) (m9 : Nat) (m11 : Nat) (m12 : Nat) (m14 : Nat) (m19 : Nat) (m21 : Nat) (m22 : Nat) (m25 : Nat) (m26 : Nat) (un : Int) (mo : Int) (oft : Int) (la : Int) (du : Int) (to : Int) (tr : Int) (n : Int) (at0 : Int) (sa : Int) (vv : Int) (rdu : Int) (se : Int) (its : Int) (lt0 : Int) (dn : Int → Int) (dw : Int → Int) (i : Int) (x : Int) (hDU : DUok dn dw du) (hx0 : in32 i) (hx1 : in32 x) : zI (S := Unit) l yX8_due wsX8_due ({ frames := 1, cells := 0, slots := 0, locals := 25 } : Room) g ca [.ref hm, vI i, vI x] [(hm, oB 8 [.ref m0, vI un, .ref m2, .ref m3, vI mo, vI oft, vI la, vI du, .ref m8, .ref m9, vI to, .ref m11, .ref m12, vJ tr, .ref m14, vI n, vI at0, vI sa, vI vv, .ref m19, vI rdu, .ref m21, .ref m22, vI se, vI its, .ref m25, .ref m26, vJ lt0]), (m8, aI ca 6 dn), (m9, aI ca 6 dw)] (fun (z : Int) (u : Unit) => z = duv dn dw du i x) (fun (u : Unit) => [(hm, oB 8 [.ref m0, vI un, .ref m2, .ref m3, vI mo, vI oft, vI la, vI du, .ref m8, .ref m9, vI to, .ref m11, .ref m12, vJ tr, .ref m14, vI n, vI at0, vI sa, vI vv, .ref m19, vI rdu, .ref m21, .ref m22, vI se, vI its, .ref m25, .ref m26, vJ lt0]), (m8, aI ca 6 dn), (m9, aI ca 6 dw)]) 0 0 := by
  refine zm_I (cc := cX8_due) (maxL := 3) (ret := some .int) (by decide) rfl (Nat.le_of_ble_eq_true rfl) ?_
  intro p e s m below meth c A ls R args Q hR hargs hQ hx hb hml hr hts hown hlk hnm hK hP hD hA hS hl
  have hown : s.vm.findClass RX8 = some m.cls := hown
  have hl : lv_has ls 3 [(0, .ref hm), (1, vI i), (2, vI x)] := hl
  have lk_f76 : (Cond.fieldLink RX8 76 "DripRingsModel" "dues" "I").before args s = true := hts _ (by decide +kernel)
  have inF_X8 : ∀ w ∈ wsX80, w ∈ wsX8_due := by decide +kernel
  have lk_f24 : (Cond.fieldLink RX8 24 "DripRingsModel" "dueWeight" "[I").before args s = true := hts _ (by decide +kernel)
  have lk_f21 : (Cond.fieldLink RX8 21 "DripRingsModel" "dueNight" "[I").before args s = true := hts _ (by decide +kernel)
  have hdu := hDU.1
  refine lv_iload_n hx hb dX8_due_0 rfl (lv_at hl 1 rfl) ?_
  refine ri_l hx hb dX8_due_1 hx0 ?_
  refine lv_lconst (v := Int64.ofInt 0) hx hb dX8_due_2 (by decide) ?_
  refine lv_aload_n hx hb dX8_due_3 rfl (lv_at hl 0 rfl) ?_
  refine va_get (D := g) (ci := 8) (v := vI du) (C := RX8) (T := TX8) (N := 28) hx hb hts inF_X8 hown hK.1 hP 0 rfl rfl 7 (by decide) lk_f76 (fun _ h9 => h9) rfl dX8_due_4 ?_
  refine lv_iconst (v := Int32.ofInt 1) hx hb dX8_due_7 rfl ?_
  refine ri_sub hx hb dX8_due_8 (fun z8 e8 => ?_)
  refine ri_l hx hb dX8_due_9 ⟨by omega, by omega⟩ ?_
  refine zc_SI (As := [vJ i, vJ 0, vJ z8]) (rest := []) (wc := []) (wr := [(hm, oB 8 [.ref m0, vI un, .ref m2, .ref m3, vI mo, vI oft, vI la, vI du, .ref m8, .ref m9, vI to, .ref m11, .ref m12, vJ tr, .ref m14, vI n, vI at0, vI sa, vI vv, .ref m19, vI rdu, .ref m21, .ref m22, vI se, vI its, .ref m25, .ref m26, vJ lt0]), (m8, aI ca 6 dn), (m9, aI ca 6 dw)]) (k_X8_in l g ca i 0 z8 (by exact ⟨by omega, by omega⟩) (by exact ⟨by omega, by omega⟩) (by exact ⟨by omega, by omega⟩)) dX8_due_10 (va_cwS 3 hts gX8_due_X8_in rfl rfl rfl (by decide +kernel) (by rw [hR]; exact ⟨Nat.le_of_ble_eq_true rfl, Nat.le_of_ble_eq_true rfl⟩)) ⟨hx, hb, hml, hown, hts⟩ hl.1 hK hP hD hS hA [] [0, 1, 2] rfl (by decide) rfl (by decide) (by decide) rfl rfl (Nat.le_of_ble_eq_true rfl) (by rw [hR]; exact ⟨Nat.le_of_ble_eq_true rfl, Nat.le_of_ble_eq_true rfl⟩) (fun z10 u H locs q10 hP hD hS => ?_)
  have q10 : (z10 = 1 ∧ 0 ≤ i ∧ i ≤ z8) ∨ (z10 = 0 ∧ ¬ (0 ≤ i ∧ i ≤ z8)) := q10
  have hP : va_P g vwCl [(hm, oB 8 [.ref m0, vI un, .ref m2, .ref m3, vI mo, vI oft, vI la, vI du, .ref m8, .ref m9, vI to, .ref m11, .ref m12, vJ tr, .ref m14, vI n, vI at0, vI sa, vI vv, .ref m19, vI rdu, .ref m21, .ref m22, vI se, vI its, .ref m25, .ref m26, vJ lt0]), (m8, aI ca 6 dn), (m9, aI ca 6 dw)] H := hP.sub [0, 1, 2] rfl
  have hD : va_D A [(hm, oB 8 [.ref m0, vI un, .ref m2, .ref m3, vI mo, vI oft, vI la, vI du, .ref m8, .ref m9, vI to, .ref m11, .ref m12, vJ tr, .ref m14, vI n, vI at0, vI sa, vI vv, .ref m19, vI rdu, .ref m21, .ref m22, vI se, vI its, .ref m25, .ref m26, vJ lt0]), (m8, aI ca 6 dn), (m9, aI ca 6 dw)] := hD.sub [0, 1, 2] (by decide) rfl
  refine ri_if_eq (tgt := 26) hx hb dX8_due_13 (by decide) ⟨by omega, by omega⟩ (fun c13 => ?_) (fun c13 => ?_)
  · skip
    refine lv_iconst (v := Int32.ofInt (-1)) hx hb dX8_due_26 rfl ?_
    refine zr_I hx hb hr hlk hQ () hP hD hS dX8_due_27 (Nat.le_of_ble_eq_true rfl) (Nat.le_of_ble_eq_true rfl) ?_
    show (-1) = duv dn dw du i x
    unfold duv
    first
    | (rw [if_neg (fun q => by omega)])
    | (by_cases ho9 : 0 ≤ i ∧ i < du
       · rw [if_pos ho9, if_neg (by omega), if_neg (by omega)]
       · rw [if_neg ho9])
    | (rw [if_pos (by omega), if_pos (by omega)])
    | (rw [if_pos (by omega), if_neg (by omega), if_pos (by omega)])
  · skip
    refine lv_iload_n hx hb dX8_due_16 rfl (lv_at hl 2 rfl) ?_
    refine ri_l hx hb dX8_due_17 hx1 ?_
    refine lv_lconst (v := Int64.ofInt 0) hx hb dX8_due_18 (by decide) ?_
    refine lv_lconst (v := Int64.ofInt 1) hx hb dX8_due_19 (by decide) ?_
    refine zc_SI (As := [vJ x, vJ 0, vJ 1]) (rest := []) (wc := []) (wr := [(hm, oB 8 [.ref m0, vI un, .ref m2, .ref m3, vI mo, vI oft, vI la, vI du, .ref m8, .ref m9, vI to, .ref m11, .ref m12, vJ tr, .ref m14, vI n, vI at0, vI sa, vI vv, .ref m19, vI rdu, .ref m21, .ref m22, vI se, vI its, .ref m25, .ref m26, vJ lt0]), (m8, aI ca 6 dn), (m9, aI ca 6 dw)]) (k_X8_in l g ca x 0 1 (by exact ⟨by omega, by omega⟩) (by exact ⟨by omega, by omega⟩) (by exact ⟨by omega, by omega⟩)) dX8_due_20 (va_cwS 3 hts gX8_due_X8_in rfl rfl rfl (by decide +kernel) (by rw [hR]; exact ⟨Nat.le_of_ble_eq_true rfl, Nat.le_of_ble_eq_true rfl⟩)) ⟨hx, hb, hml, hown, hts⟩ hl.1 hK hP hD hS hA [] [0, 1, 2] rfl (by decide) rfl (by decide) (by decide) rfl rfl (Nat.le_of_ble_eq_true rfl) (by rw [hR]; exact ⟨Nat.le_of_ble_eq_true rfl, Nat.le_of_ble_eq_true rfl⟩) (fun z20 u H locs q20 hP hD hS => ?_)
    have q20 : (z20 = 1 ∧ 0 ≤ x ∧ x ≤ 1) ∨ (z20 = 0 ∧ ¬ (0 ≤ x ∧ x ≤ 1)) := q20
    have hP : va_P g vwCl [(hm, oB 8 [.ref m0, vI un, .ref m2, .ref m3, vI mo, vI oft, vI la, vI du, .ref m8, .ref m9, vI to, .ref m11, .ref m12, vJ tr, .ref m14, vI n, vI at0, vI sa, vI vv, .ref m19, vI rdu, .ref m21, .ref m22, vI se, vI its, .ref m25, .ref m26, vJ lt0]), (m8, aI ca 6 dn), (m9, aI ca 6 dw)] H := hP.sub [0, 1, 2] rfl
    have hD : va_D A [(hm, oB 8 [.ref m0, vI un, .ref m2, .ref m3, vI mo, vI oft, vI la, vI du, .ref m8, .ref m9, vI to, .ref m11, .ref m12, vJ tr, .ref m14, vI n, vI at0, vI sa, vI vv, .ref m19, vI rdu, .ref m21, .ref m22, vI se, vI its, .ref m25, .ref m26, vJ lt0]), (m8, aI ca 6 dn), (m9, aI ca 6 dw)] := hD.sub [0, 1, 2] (by decide) rfl
    refine ri_if_ne (tgt := 28) hx hb dX8_due_23 (by decide) ⟨by omega, by omega⟩ (fun c23 => ?_) (fun c23 => ?_)
    · skip
      refine lv_iload_n hx hb dX8_due_28 rfl (lv_at hl 2 rfl) ?_
      refine ri_if_ne (tgt := 41) hx hb dX8_due_29 (by decide) hx1 (fun c29 => ?_) (fun c29 => ?_)
      · skip
        refine lv_aload_n hx hb dX8_due_41 rfl (lv_at hl 0 rfl) ?_
        refine va_get (D := g) (ci := 8) (v := .ref m9) (C := RX8) (T := TX8) (N := 28) hx hb hts inF_X8 hown hK.1 hP 0 rfl rfl 9 (by decide) lk_f24 (fun _ h9 => h9) rfl dX8_due_42 ?_
        refine lv_iload_n hx hb dX8_due_45 rfl (lv_at hl 1 rfl) ?_
        refine ra_ild hx hb hK hP 2 rfl dX8_due_46 ⟨by omega, by omega⟩ (by omega) ?_
        refine zr_I hx hb hr hlk hQ () hP hD hS dX8_due_47 (Nat.le_of_ble_eq_true rfl) (Nat.le_of_ble_eq_true rfl) ?_
        show (dw i) = duv dn dw du i x
        unfold duv
        first
        | (rw [if_neg (fun q => by omega)])
        | (by_cases ho9 : 0 ≤ i ∧ i < du
           · rw [if_pos ho9, if_neg (by omega), if_neg (by omega)]
           · rw [if_neg ho9])
        | (rw [if_pos (by omega), if_pos (by omega)])
        | (rw [if_pos (by omega), if_neg (by omega), if_pos (by omega)])
      · skip
        refine lv_aload_n hx hb dX8_due_32 rfl (lv_at hl 0 rfl) ?_
        refine va_get (D := g) (ci := 8) (v := .ref m8) (C := RX8) (T := TX8) (N := 28) hx hb hts inF_X8 hown hK.1 hP 0 rfl rfl 8 (by decide) lk_f21 (fun _ h9 => h9) rfl dX8_due_33 ?_
        refine lv_iload_n hx hb dX8_due_36 rfl (lv_at hl 1 rfl) ?_
        refine ra_ild hx hb hK hP 1 rfl dX8_due_37 ⟨by omega, by omega⟩ (by omega) ?_
        refine lv_goto (tgt := 47) hx hb dX8_due_38 (by decide) ?_
        refine zr_I hx hb hr hlk hQ () hP hD hS dX8_due_47 (Nat.le_of_ble_eq_true rfl) (Nat.le_of_ble_eq_true rfl) ?_
        show (dn i) = duv dn dw du i x
        unfold duv
        first
        | (rw [if_neg (fun q => by omega)])
        | (by_cases ho9 : 0 ≤ i ∧ i < du
           · rw [if_pos ho9, if_neg (by omega), if_neg (by omega)]
           · rw [if_neg ho9])
        | (rw [if_pos (by omega), if_pos (by omega)])
        | (rw [if_pos (by omega), if_neg (by omega), if_pos (by omega)])
    · skip
      refine lv_iconst (v := Int32.ofInt (-1)) hx hb dX8_due_26 rfl ?_
      refine zr_I hx hb hr hlk hQ () hP hD hS dX8_due_27 (Nat.le_of_ble_eq_true rfl) (Nat.le_of_ble_eq_true rfl) ?_
      show (-1) = duv dn dw du i x
      unfold duv
      first
      | (rw [if_neg (fun q => by omega)])
      | (by_cases ho9 : 0 ≤ i ∧ i < du
         · rw [if_pos ho9, if_neg (by omega), if_neg (by omega)]
         · rw [if_neg ho9])
      | (rw [if_pos (by omega), if_pos (by omega)])
      | (rw [if_pos (by omega), if_neg (by omega), if_pos (by omega)])
set_option maxHeartbeats 4000000 in
set_option maxRecDepth 100000 in
theorem k_X8_now (l : Launch) (g : va_G) (ca : Nat → ClassId) (hm : Nat) (m0 : Nat) (m2 : Nat) (m3 : Nat) (m8 : Nat) (m9 : Nat) (m11 : Nat) (m12 : Nat) (m14 : Nat) (m19 : Nat) (m21 : Nat) (m22 : Nat) (m25 : Nat) (m26 : Nat) (un : Int) (mo : Int) (oft : Int) (la : Int) (du : Int) (to : Int) (tr : Int) (n : Int) (at0 : Int) (sa : Int) (vv : Int) (rdu : Int) (se : Int) (its : Int) (lt0 : Int) (d : Int → Int) (w : Int → Int) (x : Int) (b : Int → Int) (nn : Int) (ml : Int) (hAT : AT d 0 b nn ml) (hB : GB b nn) (hW : GW w) (hun : 0 ≤ un ∧ un ≤ 8) (hx0 : in32 x) : zJ (S := Unit) l yX8_now wsX8_now ({ frames := 2, cells := 0, slots := 0, locals := 49 } : Room) g ca [.ref hm, vI x] [(hm, oB 8 [.ref m0, vI un, .ref m2, .ref m3, vI mo, vI oft, vI la, vI du, .ref m8, .ref m9, vI to, .ref m11, .ref m12, vJ tr, .ref m14, vI n, vI at0, vI sa, vI vv, .ref m19, vI rdu, .ref m21, .ref m22, vI se, vI its, .ref m25, .ref m26, vJ lt0]), (m0, aJ ca 7284 d), (m3, aI ca 5 w)] (fun (z : Int) (u : Unit) => z = nov w b nn ml un x) (fun (u : Unit) => [(hm, oB 8 [.ref m0, vI un, .ref m2, .ref m3, vI mo, vI oft, vI la, vI du, .ref m8, .ref m9, vI to, .ref m11, .ref m12, vJ tr, .ref m14, vI n, vI at0, vI sa, vI vv, .ref m19, vI rdu, .ref m21, .ref m22, vI se, vI its, .ref m25, .ref m26, vJ lt0]), (m0, aJ ca 7284 d), (m3, aI ca 5 w)]) 0 0 := by
  refine zm_J (cc := cX8_now) (maxL := 2) (ret := some .long) (by decide) rfl (Nat.le_of_ble_eq_true rfl) ?_
  intro p e s m below meth c A ls R args Q hR hargs hQ hx hb hml hr hts hown hlk hnm hK hP hD hA hS hl
  have hown : s.vm.findClass RX8 = some m.cls := hown
  have hl : lv_has ls 2 [(0, .ref hm), (1, vI x)] := hl
  have lk_f7 : (Cond.fieldLink RX8 7 "DripRingsModel" "d" "[J").before args s = true := hts _ (by decide +kernel)
  have inF_X8 : ∀ w ∈ wsX80, w ∈ wsX8_now := by decide +kernel
  have lk_f82 : (Cond.fieldLink RX8 82 "DripRingsModel" "undoes" "I").before args s = true := hts _ (by decide +kernel)
  have lk_c164 : (Cond.constantLong RX8 164 (-1)).before args s = true := hts _ (by decide +kernel)
  have hd606 : d 606 = nn := by have := hAT.2.2; rw [show (0 : Int) + 606 = 606 from rfl] at this; exact this
  have hd605 : d 605 = ml := by have := hAT.2.1; rw [show (0 : Int) + 605 = 605 from rfl] at this; exact this
  refine lv_iload_n hx hb dX8_now_0 rfl (lv_at hl 1 rfl) ?_
  by_cases c1 : x = 0
  · skip
    refine ri_to c1 ?_
    refine lv_tableIn (tgt := 36) hx hb dX8_now_1 (by rw [xi_to ⟨by omega, by omega⟩]; omega) (by rw [xi_to ⟨by omega, by omega⟩]; omega) (off := 35) (by rw [xi_to ⟨by omega, by omega⟩]; rfl) (by decide) ?_
    refine lv_aload_n hx hb dX8_now_36 rfl (lv_at hl 0 rfl) ?_
    refine va_get (D := g) (ci := 8) (v := .ref m0) (C := RX8) (T := TX8) (N := 28) hx hb hts inF_X8 hown hK.1 hP 0 rfl rfl 0 (by decide) lk_f7 (fun _ h9 => h9) rfl dX8_now_37 ?_
    refine lv_sipush (v := Int32.ofInt 606) hx hb dX8_now_40 (by decide) ?_
    refine ra_lld hx hb hK hP 1 rfl dX8_now_43 ⟨by omega, by omega⟩ (by omega) ?_
    refine zr_J hx hb hr hlk hQ () hP hD hS dX8_now_44 (Nat.le_of_ble_eq_true rfl) (Nat.le_of_ble_eq_true rfl) ?_
    show (d 606) = nov w b nn ml un x
    unfold nov
    first
    | (rw [if_pos (by omega)]; omega)
    | (rw [if_neg (by omega), if_pos (by omega)]; omega)
    | (rw [if_neg (by omega), if_neg (by omega), if_pos (by omega), q56])
    | (rw [if_neg (by omega), if_neg (by omega), if_neg (by omega), if_pos (by omega), q62])
    | (rw [if_neg (by omega), if_neg (by omega), if_neg (by omega), if_neg (by omega), if_pos (by omega)])
    | (rw [if_neg (by omega), if_neg (by omega), if_neg (by omega), if_neg (by omega), if_neg (by omega)])
  by_cases c1_2 : x = 1
  · skip
    refine ri_to c1_2 ?_
    refine lv_tableIn (tgt := 45) hx hb dX8_now_1 (by rw [xi_to ⟨by omega, by omega⟩]; omega) (by rw [xi_to ⟨by omega, by omega⟩]; omega) (off := 44) (by rw [xi_to ⟨by omega, by omega⟩]; rfl) (by decide) ?_
    refine lv_aload_n hx hb dX8_now_45 rfl (lv_at hl 0 rfl) ?_
    refine va_get (D := g) (ci := 8) (v := .ref m0) (C := RX8) (T := TX8) (N := 28) hx hb hts inF_X8 hown hK.1 hP 0 rfl rfl 0 (by decide) lk_f7 (fun _ h9 => h9) rfl dX8_now_46 ?_
    refine lv_sipush (v := Int32.ofInt 605) hx hb dX8_now_49 (by decide) ?_
    refine ra_lld hx hb hK hP 1 rfl dX8_now_52 ⟨by omega, by omega⟩ (by omega) ?_
    refine zr_J hx hb hr hlk hQ () hP hD hS dX8_now_53 (Nat.le_of_ble_eq_true rfl) (Nat.le_of_ble_eq_true rfl) ?_
    show (d 605) = nov w b nn ml un x
    unfold nov
    first
    | (rw [if_pos (by omega)]; omega)
    | (rw [if_neg (by omega), if_pos (by omega)]; omega)
    | (rw [if_neg (by omega), if_neg (by omega), if_pos (by omega), q56])
    | (rw [if_neg (by omega), if_neg (by omega), if_neg (by omega), if_pos (by omega), q62])
    | (rw [if_neg (by omega), if_neg (by omega), if_neg (by omega), if_neg (by omega), if_pos (by omega)])
    | (rw [if_neg (by omega), if_neg (by omega), if_neg (by omega), if_neg (by omega), if_neg (by omega)])
  by_cases c1_3 : x = 2
  · skip
    refine ri_to c1_3 ?_
    refine lv_tableIn (tgt := 54) hx hb dX8_now_1 (by rw [xi_to ⟨by omega, by omega⟩]; omega) (by rw [xi_to ⟨by omega, by omega⟩]; omega) (off := 53) (by rw [xi_to ⟨by omega, by omega⟩]; rfl) (by decide) ?_
    refine lv_aload_n hx hb dX8_now_54 rfl (lv_at hl 0 rfl) ?_
    refine lv_iconst (v := Int32.ofInt 0) hx hb dX8_now_55 rfl ?_
    refine zc_VJ (As := [vI 0]) (rest := []) (wc := [(hm, oB 8 [.ref m0, vI un, .ref m2, .ref m3, vI mo, vI oft, vI la, vI du, .ref m8, .ref m9, vI to, .ref m11, .ref m12, vJ tr, .ref m14, vI n, vI at0, vI sa, vI vv, .ref m19, vI rdu, .ref m21, .ref m22, vI se, vI its, .ref m25, .ref m26, vJ lt0]), (m0, aJ ca 7284 d)]) (wr := [(m3, aI ca 5 w)]) (k_X8_allOf l g ca hm m0 m2 m3 m8 m9 m11 m12 m14 m19 m21 m22 m25 m26 un mo oft la du to tr n at0 sa vv rdu se its lt0 d 0 b nn ml (by first | assumption | omega) (by first | assumption | omega) (by first | assumption | omega)) dX8_now_56 (cwV 1 hts gX8_now_X8_allOf rfl rfl rfl (by decide +kernel) (by rw [hR]; exact ⟨Nat.le_of_ble_eq_true rfl, Nat.le_of_ble_eq_true rfl⟩)) ⟨hx, hb, hml, hown, hts⟩ hl.1 hK hP hD hS hA 0 rfl rfl rfl [0, 1] [2] rfl (by decide) rfl (by decide) (by decide) rfl rfl (Nat.le_of_ble_eq_true rfl) (by rw [hR]; exact ⟨Nat.le_of_ble_eq_true rfl, Nat.le_of_ble_eq_true rfl⟩) (fun z56 u H locs q56 hP hD hS => ?_)
    have q56 : z56 = tot b nn := q56
    have hP : va_P g vwCl [(hm, oB 8 [.ref m0, vI un, .ref m2, .ref m3, vI mo, vI oft, vI la, vI du, .ref m8, .ref m9, vI to, .ref m11, .ref m12, vJ tr, .ref m14, vI n, vI at0, vI sa, vI vv, .ref m19, vI rdu, .ref m21, .ref m22, vI se, vI its, .ref m25, .ref m26, vJ lt0]), (m0, aJ ca 7284 d), (m3, aI ca 5 w)] H := hP.sub [1, 2, 0] rfl
    have hD : va_D A [(hm, oB 8 [.ref m0, vI un, .ref m2, .ref m3, vI mo, vI oft, vI la, vI du, .ref m8, .ref m9, vI to, .ref m11, .ref m12, vJ tr, .ref m14, vI n, vI at0, vI sa, vI vv, .ref m19, vI rdu, .ref m21, .ref m22, vI se, vI its, .ref m25, .ref m26, vJ lt0]), (m0, aJ ca 7284 d), (m3, aI ca 5 w)] := hD.sub [1, 2, 0] (by decide) rfl
    refine zr_J hx hb hr hlk hQ () hP hD hS dX8_now_59 (Nat.le_of_ble_eq_true rfl) (Nat.le_of_ble_eq_true rfl) ?_
    show z56 = nov w b nn ml un x
    unfold nov
    first
    | (rw [if_pos (by omega)]; omega)
    | (rw [if_neg (by omega), if_pos (by omega)]; omega)
    | (rw [if_neg (by omega), if_neg (by omega), if_pos (by omega), q56])
    | (rw [if_neg (by omega), if_neg (by omega), if_neg (by omega), if_pos (by omega), q62])
    | (rw [if_neg (by omega), if_neg (by omega), if_neg (by omega), if_neg (by omega), if_pos (by omega)])
    | (rw [if_neg (by omega), if_neg (by omega), if_neg (by omega), if_neg (by omega), if_neg (by omega)])
  by_cases c1_4 : x = 3
  · skip
    refine ri_to c1_4 ?_
    refine lv_tableIn (tgt := 60) hx hb dX8_now_1 (by rw [xi_to ⟨by omega, by omega⟩]; omega) (by rw [xi_to ⟨by omega, by omega⟩]; omega) (off := 59) (by rw [xi_to ⟨by omega, by omega⟩]; rfl) (by decide) ?_
    refine lv_aload_n hx hb dX8_now_60 rfl (lv_at hl 0 rfl) ?_
    refine lv_iconst (v := Int32.ofInt 0) hx hb dX8_now_61 rfl ?_
    refine zc_VJ (As := [vI 0]) (rest := []) (wc := [(hm, oB 8 [.ref m0, vI un, .ref m2, .ref m3, vI mo, vI oft, vI la, vI du, .ref m8, .ref m9, vI to, .ref m11, .ref m12, vJ tr, .ref m14, vI n, vI at0, vI sa, vI vv, .ref m19, vI rdu, .ref m21, .ref m22, vI se, vI its, .ref m25, .ref m26, vJ lt0]), (m0, aJ ca 7284 d), (m3, aI ca 5 w)]) (wr := []) (k_X8_weighs l g ca hm m0 m2 m3 m8 m9 m11 m12 m14 m19 m21 m22 m25 m26 un mo oft la du to tr n at0 sa vv rdu se its lt0 d w 0 b nn ml (by first | assumption | omega) (by first | assumption | omega) (by first | assumption | omega) (by first | assumption | omega)) dX8_now_62 (cwV 1 hts gX8_now_X8_weighs rfl rfl rfl (by decide +kernel) (by rw [hR]; exact ⟨Nat.le_of_ble_eq_true rfl, Nat.le_of_ble_eq_true rfl⟩)) ⟨hx, hb, hml, hown, hts⟩ hl.1 hK hP hD hS hA 0 rfl rfl rfl [0, 1, 2] [] rfl (by decide) rfl (by decide) (by decide) rfl rfl (Nat.le_of_ble_eq_true rfl) (by rw [hR]; exact ⟨Nat.le_of_ble_eq_true rfl, Nat.le_of_ble_eq_true rfl⟩) (fun z62 u H locs q62 hP hD hS => ?_)
    have q62 : z62 = wgt b w nn + ml := q62
    have hP : va_P g vwCl [(hm, oB 8 [.ref m0, vI un, .ref m2, .ref m3, vI mo, vI oft, vI la, vI du, .ref m8, .ref m9, vI to, .ref m11, .ref m12, vJ tr, .ref m14, vI n, vI at0, vI sa, vI vv, .ref m19, vI rdu, .ref m21, .ref m22, vI se, vI its, .ref m25, .ref m26, vJ lt0]), (m0, aJ ca 7284 d), (m3, aI ca 5 w)] H := hP.sub [0, 1, 2] rfl
    have hD : va_D A [(hm, oB 8 [.ref m0, vI un, .ref m2, .ref m3, vI mo, vI oft, vI la, vI du, .ref m8, .ref m9, vI to, .ref m11, .ref m12, vJ tr, .ref m14, vI n, vI at0, vI sa, vI vv, .ref m19, vI rdu, .ref m21, .ref m22, vI se, vI its, .ref m25, .ref m26, vJ lt0]), (m0, aJ ca 7284 d), (m3, aI ca 5 w)] := hD.sub [0, 1, 2] (by decide) rfl
    refine zr_J hx hb hr hlk hQ () hP hD hS dX8_now_65 (Nat.le_of_ble_eq_true rfl) (Nat.le_of_ble_eq_true rfl) ?_
    show z62 = nov w b nn ml un x
    unfold nov
    first
    | (rw [if_pos (by omega)]; omega)
    | (rw [if_neg (by omega), if_pos (by omega)]; omega)
    | (rw [if_neg (by omega), if_neg (by omega), if_pos (by omega), q56])
    | (rw [if_neg (by omega), if_neg (by omega), if_neg (by omega), if_pos (by omega), q62])
    | (rw [if_neg (by omega), if_neg (by omega), if_neg (by omega), if_neg (by omega), if_pos (by omega)])
    | (rw [if_neg (by omega), if_neg (by omega), if_neg (by omega), if_neg (by omega), if_neg (by omega)])
  by_cases c1_5 : x = 4
  · skip
    refine ri_to c1_5 ?_
    refine lv_tableIn (tgt := 66) hx hb dX8_now_1 (by rw [xi_to ⟨by omega, by omega⟩]; omega) (by rw [xi_to ⟨by omega, by omega⟩]; omega) (off := 65) (by rw [xi_to ⟨by omega, by omega⟩]; rfl) (by decide) ?_
    refine lv_aload_n hx hb dX8_now_66 rfl (lv_at hl 0 rfl) ?_
    refine va_get (D := g) (ci := 8) (v := vI un) (C := RX8) (T := TX8) (N := 28) hx hb hts inF_X8 hown hK.1 hP 0 rfl rfl 1 (by decide) lk_f82 (fun _ h9 => h9) rfl dX8_now_67 ?_
    refine ri_l hx hb dX8_now_70 ⟨by omega, by omega⟩ ?_
    refine zr_J hx hb hr hlk hQ () hP hD hS dX8_now_71 (Nat.le_of_ble_eq_true rfl) (Nat.le_of_ble_eq_true rfl) ?_
    show un = nov w b nn ml un x
    unfold nov
    first
    | (rw [if_pos (by omega)]; omega)
    | (rw [if_neg (by omega), if_pos (by omega)]; omega)
    | (rw [if_neg (by omega), if_neg (by omega), if_pos (by omega), q56])
    | (rw [if_neg (by omega), if_neg (by omega), if_neg (by omega), if_pos (by omega), q62])
    | (rw [if_neg (by omega), if_neg (by omega), if_neg (by omega), if_neg (by omega), if_pos (by omega)])
    | (rw [if_neg (by omega), if_neg (by omega), if_neg (by omega), if_neg (by omega), if_neg (by omega)])
  refine lv_tableOut (tgt := 72) hx hb dX8_now_1 (by rw [xi_to hx0]; omega) (by decide) ?_
  refine rj_ldc (z := (-1)) hx hb hown lk_c164 dX8_now_72 (by decide) ?_
  refine zr_J hx hb hr hlk hQ () hP hD hS dX8_now_75 (Nat.le_of_ble_eq_true rfl) (Nat.le_of_ble_eq_true rfl) ?_
  show (-1) = nov w b nn ml un x
  unfold nov
  first
  | (rw [if_pos (by omega)]; omega)
  | (rw [if_neg (by omega), if_pos (by omega)]; omega)
  | (rw [if_neg (by omega), if_neg (by omega), if_pos (by omega), q56])
  | (rw [if_neg (by omega), if_neg (by omega), if_neg (by omega), if_pos (by omega), q62])
  | (rw [if_neg (by omega), if_neg (by omega), if_neg (by omega), if_neg (by omega), if_pos (by omega)])
  | (rw [if_neg (by omega), if_neg (by omega), if_neg (by omega), if_neg (by omega), if_neg (by omega)])
set_option maxHeartbeats 4000000 in
set_option maxRecDepth 100000 in
theorem k_X8_night (l : Launch) (g : va_G) (ca : Nat → ClassId) (hm : Nat) (m0 : Nat) (m2 : Nat) (m3 : Nat) (m8 : Nat) (m9 : Nat) (m11 : Nat) (m12 : Nat) (m14 : Nat) (m19 : Nat) (m21 : Nat) (m22 : Nat) (m25 : Nat) (m26 : Nat) (un : Int) (mo : Int) (oft : Int) (la : Int) (du : Int) (to : Int) (tr : Int) (n : Int) (at0 : Int) (sa : Int) (vv : Int) (rdu : Int) (se : Int) (its : Int) (lt0 : Int) (d : Int → Int) (w : Int → Int) (b : Int → Int) (nn : Int) (ml : Int) (hAT : AT d 0 b nn ml) (hB : GB b nn) (hun : 0 ≤ un ∧ un ≤ 8) (hW : GW w) (hE : EAok (ef oft la)) (hM : 1 ≤ mo ∧ mo ≤ 9) : zJ (S := Int × (Int → Int)) l yX8_night wsX8_night ({ frames := 2, cells := 0, slots := 0, locals := 49 } : Room) g ca [.ref hm] [(hm, oB 8 [.ref m0, vI un, .ref m2, .ref m3, vI mo, vI oft, vI la, vI du, .ref m8, .ref m9, vI to, .ref m11, .ref m12, vJ tr, .ref m14, vI n, vI at0, vI sa, vI vv, .ref m19, vI rdu, .ref m21, .ref m22, vI se, vI its, .ref m25, .ref m26, vJ lt0]), (m0, aJ ca 7284 d), (m3, aI ca 5 w)] (fun (z : Int) (u : Int × (Int → Int)) => (nn = 120 ∧ z = -2 ∧ u.1 = un ∧ u.2 = d) ∨ (nn < 120 ∧ z = (gs w (ef oft la) mo (nn + 1) b 4).2 ∧ ∃ d2 : Int → Int, MN un u.1 d d2 ∧ AT u.2 0 (gs w (ef oft la) mo (nn + 1) b 4).1 (nn + 1) ml ∧ FRM d2 u.2 0)) (fun (u : Int × (Int → Int)) => [(hm, oB 8 [.ref m0, vI u.1, .ref m2, .ref m3, vI mo, vI oft, vI la, vI du, .ref m8, .ref m9, vI to, .ref m11, .ref m12, vJ tr, .ref m14, vI n, vI at0, vI sa, vI vv, .ref m19, vI rdu, .ref m21, .ref m22, vI se, vI its, .ref m25, .ref m26, vJ lt0]), (m0, aJ ca 7284 u.2), (m3, aI ca 5 w)]) 0 0 := by
  refine zm_J (cc := cX8_night) (maxL := 1) (ret := some .long) (by decide) rfl (Nat.le_of_ble_eq_true rfl) ?_
  intro p e s m below meth c A ls R args Q hR hargs hQ hx hb hml hr hts hown hlk hnm hK hP hD hA hS hl
  have hown : s.vm.findClass RX8 = some m.cls := hown
  have hl : lv_has ls 1 [(0, .ref hm)] := hl
  have lk_f7 : (Cond.fieldLink RX8 7 "DripRingsModel" "d" "[J").before args s = true := hts _ (by decide +kernel)
  have inF_X8 : ∀ w ∈ wsX80, w ∈ wsX8_night := by decide +kernel
  have lk_c170 : (Cond.constantLong RX8 170 (120)).before args s = true := hts _ (by decide +kernel)
  have lk_c172 : (Cond.constantLong RX8 172 (-2)).before args s = true := hts _ (by decide +kernel)
  have hd606 : d 606 = nn := by have := hAT.2.2; rw [show (0 : Int) + 606 = 606 from rfl] at this; exact this
  have hn0 := hB.1
  refine lv_aload_n hx hb dX8_night_0 rfl (lv_at hl 0 rfl) ?_
  refine va_get (D := g) (ci := 8) (v := .ref m0) (C := RX8) (T := TX8) (N := 28) hx hb hts inF_X8 hown hK.1 hP 0 rfl rfl 0 (by decide) lk_f7 (fun _ h9 => h9) rfl dX8_night_1 ?_
  refine lv_sipush (v := Int32.ofInt 606) hx hb dX8_night_4 (by decide) ?_
  refine ra_lld hx hb hK hP 1 rfl dX8_night_7 ⟨by omega, by omega⟩ (by omega) ?_
  refine rj_ldc (z := 120) hx hb hown lk_c170 dX8_night_8 (by decide) ?_
  refine rj_cmp hx hb dX8_night_11 ⟨by omega, by omega⟩ ⟨by omega, by omega⟩ (fun z11 e11 => ?_)
  refine ri_if_ne (tgt := 19) hx hb dX8_night_12 (by decide) ⟨by omega, by omega⟩ (fun c12 => ?_) (fun c12 => ?_)
  · skip
    have c12 : ¬ (d 606) = 120 := by omega
    clear e11
    refine lv_aload_n hx hb dX8_night_19 rfl (lv_at hl 0 rfl) ?_
    refine zc_VV (As := []) (rest := []) (wc := [(hm, oB 8 [.ref m0, vI un, .ref m2, .ref m3, vI mo, vI oft, vI la, vI du, .ref m8, .ref m9, vI to, .ref m11, .ref m12, vJ tr, .ref m14, vI n, vI at0, vI sa, vI vv, .ref m19, vI rdu, .ref m21, .ref m22, vI se, vI its, .ref m25, .ref m26, vJ lt0]), (m0, aJ ca 7284 d)]) (wr := [(m3, aI ca 5 w)]) (k_X8_minds l g ca hm m0 m2 m3 m8 m9 m11 m12 m14 m19 m21 m22 m25 m26 un mo oft la du to tr n at0 sa vv rdu se its lt0 d (by first | assumption | omega)) dX8_night_20 (cwV 0 hts gX8_night_X8_minds rfl rfl rfl (by decide +kernel) (by rw [hR]; exact ⟨Nat.le_of_ble_eq_true rfl, Nat.le_of_ble_eq_true rfl⟩)) ⟨hx, hb, hml, hown, hts⟩ hl.1 hK hP hD hS hA 0 rfl rfl rfl [0, 1] [2] rfl (by decide) rfl (by decide) (by decide) rfl rfl (Nat.le_of_ble_eq_true rfl) (by rw [hR]; exact ⟨Nat.le_of_ble_eq_true rfl, Nat.le_of_ble_eq_true rfl⟩) (fun u H locs q20 hP hD hS => ?_)
    obtain ⟨un1_20, d1_20⟩ := u
    have q20 : MN un un1_20 d d1_20 := q20
    have hP : va_P g vwCl [(hm, oB 8 [.ref m0, vI un1_20, .ref m2, .ref m3, vI mo, vI oft, vI la, vI du, .ref m8, .ref m9, vI to, .ref m11, .ref m12, vJ tr, .ref m14, vI n, vI at0, vI sa, vI vv, .ref m19, vI rdu, .ref m21, .ref m22, vI se, vI its, .ref m25, .ref m26, vJ lt0]), (m0, aJ ca 7284 d1_20), (m3, aI ca 5 w)] H := hP.sub [1, 2, 0] rfl
    have hD : va_D A [(hm, oB 8 [.ref m0, vI un1_20, .ref m2, .ref m3, vI mo, vI oft, vI la, vI du, .ref m8, .ref m9, vI to, .ref m11, .ref m12, vJ tr, .ref m14, vI n, vI at0, vI sa, vI vv, .ref m19, vI rdu, .ref m21, .ref m22, vI se, vI its, .ref m25, .ref m26, vJ lt0]), (m0, aJ ca 7284 d1_20), (m3, aI ca 5 w)] := hD.sub [1, 2, 0] (by decide) rfl
    refine lv_aload_n hx hb dX8_night_23 rfl (lv_at hl 0 rfl) ?_
    refine lv_iconst (v := Int32.ofInt 0) hx hb dX8_night_24 rfl ?_
    refine zc_VJ (As := [vI 0]) (rest := []) (wc := [(hm, oB 8 [.ref m0, vI un1_20, .ref m2, .ref m3, vI mo, vI oft, vI la, vI du, .ref m8, .ref m9, vI to, .ref m11, .ref m12, vJ tr, .ref m14, vI n, vI at0, vI sa, vI vv, .ref m19, vI rdu, .ref m21, .ref m22, vI se, vI its, .ref m25, .ref m26, vJ lt0]), (m0, aJ ca 7284 d1_20), (m3, aI ca 5 w)]) (wr := []) (k_X8_goes l g ca hm m0 m2 m3 m8 m9 m11 m12 m14 m19 m21 m22 m25 m26 un1_20 mo oft la du to tr n at0 sa vv rdu se its lt0 d1_20 w 0 b nn ml (by first | assumption | omega) (by exact MN_AT q20 hun.1 hAT) (by first | assumption | omega) (by first | assumption | omega) (by first | assumption | omega) (by first | assumption | omega) (by first | assumption | omega)) dX8_night_25 (cwV 1 hts gX8_night_X8_goes rfl rfl rfl (by decide +kernel) (by rw [hR]; exact ⟨Nat.le_of_ble_eq_true rfl, Nat.le_of_ble_eq_true rfl⟩)) ⟨hx, hb, hml, hown, hts⟩ hl.1 hK hP hD hS hA 0 rfl rfl rfl [0, 1, 2] [] rfl (by decide) rfl (by decide) (by decide) rfl rfl (Nat.le_of_ble_eq_true rfl) (by rw [hR]; exact ⟨Nat.le_of_ble_eq_true rfl, Nat.le_of_ble_eq_true rfl⟩) (fun z25 u H locs q25 hP hD hS => ?_)
    obtain ⟨d1_25, rfl⟩ : ∃ q, q = u := ⟨_, rfl⟩
    have q25 : AT d1_25 0 (gs w (ef oft la) mo (nn + 1) b 4).1 (nn + 1) ml ∧ FRM d1_20 d1_25 0 ∧ z25 = (gs w (ef oft la) mo (nn + 1) b 4).2 := q25
    obtain ⟨q25_0, q25_1, q25_2⟩ := q25
    have hP : va_P g vwCl [(hm, oB 8 [.ref m0, vI un1_20, .ref m2, .ref m3, vI mo, vI oft, vI la, vI du, .ref m8, .ref m9, vI to, .ref m11, .ref m12, vJ tr, .ref m14, vI n, vI at0, vI sa, vI vv, .ref m19, vI rdu, .ref m21, .ref m22, vI se, vI its, .ref m25, .ref m26, vJ lt0]), (m0, aJ ca 7284 d1_25), (m3, aI ca 5 w)] H := hP.sub [0, 1, 2] rfl
    have hD : va_D A [(hm, oB 8 [.ref m0, vI un1_20, .ref m2, .ref m3, vI mo, vI oft, vI la, vI du, .ref m8, .ref m9, vI to, .ref m11, .ref m12, vJ tr, .ref m14, vI n, vI at0, vI sa, vI vv, .ref m19, vI rdu, .ref m21, .ref m22, vI se, vI its, .ref m25, .ref m26, vJ lt0]), (m0, aJ ca 7284 d1_25), (m3, aI ca 5 w)] := hD.sub [0, 1, 2] (by decide) rfl
    refine zr_J hx hb hr hlk hQ (un1_20, d1_25) hP hD hS dX8_night_28 (Nat.le_of_ble_eq_true rfl) (Nat.le_of_ble_eq_true rfl) ?_
    show (nn = 120 ∧ z25 = -2 ∧ un1_20 = un ∧ d1_25 = d) ∨ (nn < 120 ∧ z25 = (gs w (ef oft la) mo (nn + 1) b 4).2 ∧ ∃ d2 : Int → Int, MN un un1_20 d d2 ∧ AT d1_25 0 (gs w (ef oft la) mo (nn + 1) b 4).1 (nn + 1) ml ∧ FRM d2 d1_25 0)
    first | exact Or.inl ⟨by omega, rfl, rfl, rfl⟩ | exact Or.inr ⟨by omega, q25_2, _, q20, q25_0, q25_1⟩
  · skip
    have c12 : (d 606) = 120 := by omega
    clear e11
    refine rj_ldc (z := (-2)) hx hb hown lk_c172 dX8_night_15 (by decide) ?_
    refine zr_J hx hb hr hlk hQ (un, d) hP hD hS dX8_night_18 (Nat.le_of_ble_eq_true rfl) (Nat.le_of_ble_eq_true rfl) ?_
    show (nn = 120 ∧ (-2) = -2 ∧ un = un ∧ d = d) ∨ (nn < 120 ∧ (-2) = (gs w (ef oft la) mo (nn + 1) b 4).2 ∧ ∃ d2 : Int → Int, MN un un d d2 ∧ AT d 0 (gs w (ef oft la) mo (nn + 1) b 4).1 (nn + 1) ml ∧ FRM d2 d 0)
    first | exact Or.inl ⟨by omega, rfl, rfl, rfl⟩ | exact Or.inr ⟨by omega, q25_2, _, q20, q25_0, q25_1⟩
set_option maxHeartbeats 4000000 in
set_option maxRecDepth 100000 in
theorem k_X8_swans (l : Launch) (g : va_G) (ca : Nat → ClassId) (hm : Nat) (m0 : Nat) (m2 : Nat) (m3 : Nat) (m8 : Nat) (m9 : Nat) (m11 : Nat) (m12 : Nat) (m14 : Nat) (m19 : Nat) (m21 : Nat) (m22 : Nat) (m25 : Nat) (m26 : Nat) (un : Int) (mo : Int) (oft : Int) (la : Int) (du : Int) (to : Int) (tr : Int) (n : Int) (at0 : Int) (sa : Int) (vv : Int) (rdu : Int) (se : Int) (its : Int) (lt0 : Int) (d : Int → Int) (w : Int → Int) (o : Int) (x : Int) (b : Int → Int) (nn : Int) (ml : Int) (hAT : AT d 0 b nn ml) (hB : GB b nn) (hun : 0 ≤ un ∧ un ≤ 8) (hW : GW w) (hx0 : in32 o) (hx1 : in32 x) : zJ (S := Int × (Int → Int)) l yX8_swans wsX8_swans ({ frames := 3, cells := 0, slots := 0, locals := 67 } : Room) g ca [.ref hm, vI o, vI x] [(hm, oB 8 [.ref m0, vI un, .ref m2, .ref m3, vI mo, vI oft, vI la, vI du, .ref m8, .ref m9, vI to, .ref m11, .ref m12, vJ tr, .ref m14, vI n, vI at0, vI sa, vI vv, .ref m19, vI rdu, .ref m21, .ref m22, vI se, vI its, .ref m25, .ref m26, vJ lt0]), (m0, aJ ca 7284 d), (m3, aI ca 5 w)] (fun (z : Int) (u : Int × (Int → Int)) => (¬ ((0 ≤ o ∧ o ≤ 4) ∧ 1 ≤ x ∧ x ≤ 1000000) ∧ z = -1 ∧ u.1 = un ∧ u.2 = d) ∨ (((0 ≤ o ∧ o ≤ 4) ∧ 1 ≤ x ∧ x ≤ 1000000) ∧ cnt b nn o < x ∧ z = -2 ∧ u.1 = un ∧ u.2 = d) ∨ (((0 ≤ o ∧ o ≤ 4) ∧ 1 ≤ x ∧ x ≤ 1000000) ∧ x ≤ cnt b nn o ∧ z = x * w o ∧ ∃ d2 : Int → Int, MN un u.1 d d2 ∧ AT u.2 0 (tk b (121 * o) x) nn ml ∧ FRM d2 u.2 0)) (fun (u : Int × (Int → Int)) => [(hm, oB 8 [.ref m0, vI u.1, .ref m2, .ref m3, vI mo, vI oft, vI la, vI du, .ref m8, .ref m9, vI to, .ref m11, .ref m12, vJ tr, .ref m14, vI n, vI at0, vI sa, vI vv, .ref m19, vI rdu, .ref m21, .ref m22, vI se, vI its, .ref m25, .ref m26, vJ lt0]), (m0, aJ ca 7284 u.2), (m3, aI ca 5 w)]) 0 0 := by
  refine zm_J (cc := cX8_swans) (maxL := 3) (ret := some .long) (by decide) rfl (Nat.le_of_ble_eq_true rfl) ?_
  intro p e s m below meth c A ls R args Q hR hargs hQ hx hb hml hr hts hown hlk hnm hK hP hD hA hS hl
  have hown : s.vm.findClass RX8 = some m.cls := hown
  have hl : lv_has ls 3 [(0, .ref hm), (1, vI o), (2, vI x)] := hl
  have lk_f17 : (Cond.fieldLink RX8 17 "DripRingsModel" "weights" "[I").before args s = true := hts _ (by decide +kernel)
  have inF_X8 : ∀ w ∈ wsX80, w ∈ wsX8_swans := by decide +kernel
  have lk_c172 : (Cond.constantLong RX8 172 (-2)).before args s = true := hts _ (by decide +kernel)
  have lk_c164 : (Cond.constantLong RX8 164 (-1)).before args s = true := hts _ (by decide +kernel)
  refine lv_aload_n hx hb dX8_swans_0 rfl (lv_at hl 0 rfl) ?_
  refine lv_iload_n hx hb dX8_swans_1 rfl (lv_at hl 1 rfl) ?_
  refine lv_iload_n hx hb dX8_swans_2 rfl (lv_at hl 2 rfl) ?_
  refine zc_VI (As := [vI o, vI x]) (rest := []) (wc := [(hm, oB 8 [.ref m0, vI un, .ref m2, .ref m3, vI mo, vI oft, vI la, vI du, .ref m8, .ref m9, vI to, .ref m11, .ref m12, vJ tr, .ref m14, vI n, vI at0, vI sa, vI vv, .ref m19, vI rdu, .ref m21, .ref m22, vI se, vI its, .ref m25, .ref m26, vJ lt0])]) (wr := [(m0, aJ ca 7284 d), (m3, aI ca 5 w)]) (k_X8_areMany l g ca hm m0 m2 m3 m8 m9 m11 m12 m14 m19 m21 m22 m25 m26 un mo oft la du to tr n at0 sa vv rdu se its lt0 o x (by exact hx0) (by exact hx1)) dX8_swans_3 (cwV 2 hts gX8_swans_X8_areMany rfl rfl rfl (by decide +kernel) (by rw [hR]; exact ⟨Nat.le_of_ble_eq_true rfl, Nat.le_of_ble_eq_true rfl⟩)) ⟨hx, hb, hml, hown, hts⟩ hl.1 hK hP hD hS hA 0 rfl rfl rfl [0] [1, 2] rfl (by decide) rfl (by decide) (by decide) rfl rfl (Nat.le_of_ble_eq_true rfl) (by rw [hR]; exact ⟨Nat.le_of_ble_eq_true rfl, Nat.le_of_ble_eq_true rfl⟩) (fun z3 u H locs q3 hP hD hS => ?_)
  have q3 : (z3 = 1 ∧ (0 ≤ o ∧ o ≤ 4) ∧ 1 ≤ x ∧ x ≤ 1000000) ∨ (z3 = 0 ∧ ¬ ((0 ≤ o ∧ o ≤ 4) ∧ 1 ≤ x ∧ x ≤ 1000000)) := q3
  have hP : va_P g vwCl [(hm, oB 8 [.ref m0, vI un, .ref m2, .ref m3, vI mo, vI oft, vI la, vI du, .ref m8, .ref m9, vI to, .ref m11, .ref m12, vJ tr, .ref m14, vI n, vI at0, vI sa, vI vv, .ref m19, vI rdu, .ref m21, .ref m22, vI se, vI its, .ref m25, .ref m26, vJ lt0]), (m0, aJ ca 7284 d), (m3, aI ca 5 w)] H := hP.sub [2, 0, 1] rfl
  have hD : va_D A [(hm, oB 8 [.ref m0, vI un, .ref m2, .ref m3, vI mo, vI oft, vI la, vI du, .ref m8, .ref m9, vI to, .ref m11, .ref m12, vJ tr, .ref m14, vI n, vI at0, vI sa, vI vv, .ref m19, vI rdu, .ref m21, .ref m22, vI se, vI its, .ref m25, .ref m26, vJ lt0]), (m0, aJ ca 7284 d), (m3, aI ca 5 w)] := hD.sub [2, 0, 1] (by decide) rfl
  refine ri_if_ne (tgt := 13) hx hb dX8_swans_6 (by decide) ⟨by omega, by omega⟩ (fun c6 => ?_) (fun c6 => ?_)
  · skip
    refine lv_aload_n hx hb dX8_swans_13 rfl (lv_at hl 0 rfl) ?_
    refine lv_iconst (v := Int32.ofInt 0) hx hb dX8_swans_14 rfl ?_
    refine lv_iload_n hx hb dX8_swans_15 rfl (lv_at hl 1 rfl) ?_
    refine zc_VJ (As := [vI 0, vI o]) (rest := []) (wc := [(hm, oB 8 [.ref m0, vI un, .ref m2, .ref m3, vI mo, vI oft, vI la, vI du, .ref m8, .ref m9, vI to, .ref m11, .ref m12, vJ tr, .ref m14, vI n, vI at0, vI sa, vI vv, .ref m19, vI rdu, .ref m21, .ref m22, vI se, vI its, .ref m25, .ref m26, vJ lt0]), (m0, aJ ca 7284 d)]) (wr := [(m3, aI ca 5 w)]) (k_X8_manyOf l g ca hm m0 m2 m3 m8 m9 m11 m12 m14 m19 m21 m22 m25 m26 un mo oft la du to tr n at0 sa vv rdu se its lt0 d 0 o b nn ml (by first | assumption | omega) (by first | assumption | omega) (by first | assumption | omega) (by first | assumption | omega)) dX8_swans_16 (cwV 2 hts gX8_swans_X8_manyOf rfl rfl rfl (by decide +kernel) (by rw [hR]; exact ⟨Nat.le_of_ble_eq_true rfl, Nat.le_of_ble_eq_true rfl⟩)) ⟨hx, hb, hml, hown, hts⟩ hl.1 hK hP hD hS hA 0 rfl rfl rfl [0, 1] [2] rfl (by decide) rfl (by decide) (by decide) rfl rfl (Nat.le_of_ble_eq_true rfl) (by rw [hR]; exact ⟨Nat.le_of_ble_eq_true rfl, Nat.le_of_ble_eq_true rfl⟩) (fun z16 u H locs q16 hP hD hS => ?_)
    have q16 : z16 = cnt b nn o := q16
    have hP : va_P g vwCl [(hm, oB 8 [.ref m0, vI un, .ref m2, .ref m3, vI mo, vI oft, vI la, vI du, .ref m8, .ref m9, vI to, .ref m11, .ref m12, vJ tr, .ref m14, vI n, vI at0, vI sa, vI vv, .ref m19, vI rdu, .ref m21, .ref m22, vI se, vI its, .ref m25, .ref m26, vJ lt0]), (m0, aJ ca 7284 d), (m3, aI ca 5 w)] H := hP.sub [1, 2, 0] rfl
    have hD : va_D A [(hm, oB 8 [.ref m0, vI un, .ref m2, .ref m3, vI mo, vI oft, vI la, vI du, .ref m8, .ref m9, vI to, .ref m11, .ref m12, vJ tr, .ref m14, vI n, vI at0, vI sa, vI vv, .ref m19, vI rdu, .ref m21, .ref m22, vI se, vI its, .ref m25, .ref m26, vJ lt0]), (m0, aJ ca 7284 d), (m3, aI ca 5 w)] := hD.sub [1, 2, 0] (by decide) rfl
    have hc19 := cnt_bd hB (o := o) (by omega) (by omega)
    refine lv_iload_n hx hb dX8_swans_19 rfl (lv_at hl 2 rfl) ?_
    refine ri_l hx hb dX8_swans_20 hx1 ?_
    refine rj_cmp hx hb dX8_swans_21 ⟨by omega, by omega⟩ ⟨by omega, by omega⟩ (fun z21 e21 => ?_)
    refine ri_if_ge (tgt := 29) hx hb dX8_swans_22 (by decide) ⟨by omega, by omega⟩ (fun c22 => ?_) (fun c22 => ?_)
    · skip
      have c22 : x ≤ z16 := by omega
      clear e21
      refine lv_aload_n hx hb dX8_swans_29 rfl (lv_at hl 0 rfl) ?_
      refine zc_VV (As := []) (rest := []) (wc := [(hm, oB 8 [.ref m0, vI un, .ref m2, .ref m3, vI mo, vI oft, vI la, vI du, .ref m8, .ref m9, vI to, .ref m11, .ref m12, vJ tr, .ref m14, vI n, vI at0, vI sa, vI vv, .ref m19, vI rdu, .ref m21, .ref m22, vI se, vI its, .ref m25, .ref m26, vJ lt0]), (m0, aJ ca 7284 d)]) (wr := [(m3, aI ca 5 w)]) (k_X8_minds l g ca hm m0 m2 m3 m8 m9 m11 m12 m14 m19 m21 m22 m25 m26 un mo oft la du to tr n at0 sa vv rdu se its lt0 d (by first | assumption | omega)) dX8_swans_30 (cwV 0 hts gX8_swans_X8_minds rfl rfl rfl (by decide +kernel) (by rw [hR]; exact ⟨Nat.le_of_ble_eq_true rfl, Nat.le_of_ble_eq_true rfl⟩)) ⟨hx, hb, hml, hown, hts⟩ hl.1 hK hP hD hS hA 0 rfl rfl rfl [0, 1] [2] rfl (by decide) rfl (by decide) (by decide) rfl rfl (Nat.le_of_ble_eq_true rfl) (by rw [hR]; exact ⟨Nat.le_of_ble_eq_true rfl, Nat.le_of_ble_eq_true rfl⟩) (fun u H locs q30 hP hD hS => ?_)
      obtain ⟨un1_30, d1_30⟩ := u
      have q30 : MN un un1_30 d d1_30 := q30
      have hP : va_P g vwCl [(hm, oB 8 [.ref m0, vI un1_30, .ref m2, .ref m3, vI mo, vI oft, vI la, vI du, .ref m8, .ref m9, vI to, .ref m11, .ref m12, vJ tr, .ref m14, vI n, vI at0, vI sa, vI vv, .ref m19, vI rdu, .ref m21, .ref m22, vI se, vI its, .ref m25, .ref m26, vJ lt0]), (m0, aJ ca 7284 d1_30), (m3, aI ca 5 w)] H := hP.sub [1, 2, 0] rfl
      have hD : va_D A [(hm, oB 8 [.ref m0, vI un1_30, .ref m2, .ref m3, vI mo, vI oft, vI la, vI du, .ref m8, .ref m9, vI to, .ref m11, .ref m12, vJ tr, .ref m14, vI n, vI at0, vI sa, vI vv, .ref m19, vI rdu, .ref m21, .ref m22, vI se, vI its, .ref m25, .ref m26, vJ lt0]), (m0, aJ ca 7284 d1_30), (m3, aI ca 5 w)] := hD.sub [1, 2, 0] (by decide) rfl
      refine lv_aload_n hx hb dX8_swans_33 rfl (lv_at hl 0 rfl) ?_
      refine lv_iconst (v := Int32.ofInt 0) hx hb dX8_swans_34 rfl ?_
      refine lv_iload_n hx hb dX8_swans_35 rfl (lv_at hl 1 rfl) ?_
      refine lv_iload_n hx hb dX8_swans_36 rfl (lv_at hl 2 rfl) ?_
      refine ri_l hx hb dX8_swans_37 ⟨by omega, by omega⟩ ?_
      refine zc_VV (As := [vI 0, vI o, vJ x]) (rest := []) (wc := [(hm, oB 8 [.ref m0, vI un1_30, .ref m2, .ref m3, vI mo, vI oft, vI la, vI du, .ref m8, .ref m9, vI to, .ref m11, .ref m12, vJ tr, .ref m14, vI n, vI at0, vI sa, vI vv, .ref m19, vI rdu, .ref m21, .ref m22, vI se, vI its, .ref m25, .ref m26, vJ lt0]), (m0, aJ ca 7284 d1_30)]) (wr := [(m3, aI ca 5 w)]) (k_X8_takesAway l g ca hm m0 m2 m3 m8 m9 m11 m12 m14 m19 m21 m22 m25 m26 un1_30 mo oft la du to tr n at0 sa vv rdu se its lt0 d1_30 0 o x b nn ml (by first | assumption | omega) (by first | assumption | omega) (by exact MN_AT q30 hun.1 hAT) (by first | assumption | omega) (by first | assumption | omega)) dX8_swans_38 (cwV 3 hts gX8_swans_X8_takesAway rfl rfl rfl (by decide +kernel) (by rw [hR]; exact ⟨Nat.le_of_ble_eq_true rfl, Nat.le_of_ble_eq_true rfl⟩)) ⟨hx, hb, hml, hown, hts⟩ hl.1 hK hP hD hS hA 0 rfl rfl rfl [0, 1] [2] rfl (by decide) rfl (by decide) (by decide) rfl rfl (Nat.le_of_ble_eq_true rfl) (by rw [hR]; exact ⟨Nat.le_of_ble_eq_true rfl, Nat.le_of_ble_eq_true rfl⟩) (fun u H locs q38 hP hD hS => ?_)
      obtain ⟨d1_38, rfl⟩ : ∃ q, q = u := ⟨_, rfl⟩
      have q38 : AT d1_38 0 (tk b (121 * o) x) nn ml ∧ FRM d1_30 d1_38 0 := q38
      obtain ⟨q38_0, q38_1⟩ := q38
      have hP : va_P g vwCl [(hm, oB 8 [.ref m0, vI un1_30, .ref m2, .ref m3, vI mo, vI oft, vI la, vI du, .ref m8, .ref m9, vI to, .ref m11, .ref m12, vJ tr, .ref m14, vI n, vI at0, vI sa, vI vv, .ref m19, vI rdu, .ref m21, .ref m22, vI se, vI its, .ref m25, .ref m26, vJ lt0]), (m0, aJ ca 7284 d1_38), (m3, aI ca 5 w)] H := hP.sub [1, 2, 0] rfl
      have hD : va_D A [(hm, oB 8 [.ref m0, vI un1_30, .ref m2, .ref m3, vI mo, vI oft, vI la, vI du, .ref m8, .ref m9, vI to, .ref m11, .ref m12, vJ tr, .ref m14, vI n, vI at0, vI sa, vI vv, .ref m19, vI rdu, .ref m21, .ref m22, vI se, vI its, .ref m25, .ref m26, vJ lt0]), (m0, aJ ca 7284 d1_38), (m3, aI ca 5 w)] := hD.sub [1, 2, 0] (by decide) rfl
      refine lv_iload_n hx hb dX8_swans_41 rfl (lv_at hl 2 rfl) ?_
      refine ri_l hx hb dX8_swans_42 ⟨by omega, by omega⟩ ?_
      refine lv_aload_n hx hb dX8_swans_43 rfl (lv_at hl 0 rfl) ?_
      refine va_get (D := g) (ci := 8) (v := .ref m3) (C := RX8) (T := TX8) (N := 28) hx hb hts inF_X8 hown hK.1 hP 0 rfl rfl 3 (by decide) lk_f17 (fun _ h9 => h9) rfl dX8_swans_44 ?_
      refine lv_iload_n hx hb dX8_swans_47 rfl (lv_at hl 1 rfl) ?_
      refine ra_ild hx hb hK hP 2 rfl dX8_swans_48 ⟨by omega, by omega⟩ (by omega) ?_
      have hw49 := hW o (by omega) (by omega)
      refine ri_l hx hb dX8_swans_49 ⟨by omega, by omega⟩ ?_
      refine rj_mul hx hb dX8_swans_50 (fun z50 e50 => ?_)
      refine zr_J hx hb hr hlk hQ (un1_30, d1_38) hP hD hS dX8_swans_51 (Nat.le_of_ble_eq_true rfl) (Nat.le_of_ble_eq_true rfl) ?_
      show (¬ ((0 ≤ o ∧ o ≤ 4) ∧ 1 ≤ x ∧ x ≤ 1000000) ∧ z50 = -1 ∧ un1_30 = un ∧ d1_38 = d) ∨ (((0 ≤ o ∧ o ≤ 4) ∧ 1 ≤ x ∧ x ≤ 1000000) ∧ cnt b nn o < x ∧ z50 = -2 ∧ un1_30 = un ∧ d1_38 = d) ∨ (((0 ≤ o ∧ o ≤ 4) ∧ 1 ≤ x ∧ x ≤ 1000000) ∧ x ≤ cnt b nn o ∧ z50 = x * w o ∧ ∃ d2 : Int → Int, MN un un1_30 d d2 ∧ AT d1_38 0 (tk b (121 * o) x) nn ml ∧ FRM d2 d1_38 0)
      first
      | exact Or.inl ⟨by omega, rfl, rfl, rfl⟩
      | exact Or.inr (Or.inl ⟨by omega, by omega, rfl, rfl, rfl⟩)
      | exact Or.inr (Or.inr ⟨by omega, by omega, e50, _, q30, q38_0, q38_1⟩)
    · skip
      have c22 : z16 < x := by omega
      clear e21
      refine rj_ldc (z := (-2)) hx hb hown lk_c172 dX8_swans_25 (by decide) ?_
      refine zr_J hx hb hr hlk hQ (un, d) hP hD hS dX8_swans_28 (Nat.le_of_ble_eq_true rfl) (Nat.le_of_ble_eq_true rfl) ?_
      show (¬ ((0 ≤ o ∧ o ≤ 4) ∧ 1 ≤ x ∧ x ≤ 1000000) ∧ (-2) = -1 ∧ un = un ∧ d = d) ∨ (((0 ≤ o ∧ o ≤ 4) ∧ 1 ≤ x ∧ x ≤ 1000000) ∧ cnt b nn o < x ∧ (-2) = -2 ∧ un = un ∧ d = d) ∨ (((0 ≤ o ∧ o ≤ 4) ∧ 1 ≤ x ∧ x ≤ 1000000) ∧ x ≤ cnt b nn o ∧ (-2) = x * w o ∧ ∃ d2 : Int → Int, MN un un d d2 ∧ AT d 0 (tk b (121 * o) x) nn ml ∧ FRM d2 d 0)
      first
      | exact Or.inl ⟨by omega, rfl, rfl, rfl⟩
      | exact Or.inr (Or.inl ⟨by omega, by omega, rfl, rfl, rfl⟩)
      | exact Or.inr (Or.inr ⟨by omega, by omega, e50, _, q30, q38_0, q38_1⟩)
  · skip
    refine rj_ldc (z := (-1)) hx hb hown lk_c164 dX8_swans_9 (by decide) ?_
    refine zr_J hx hb hr hlk hQ (un, d) hP hD hS dX8_swans_12 (Nat.le_of_ble_eq_true rfl) (Nat.le_of_ble_eq_true rfl) ?_
    show (¬ ((0 ≤ o ∧ o ≤ 4) ∧ 1 ≤ x ∧ x ≤ 1000000) ∧ (-1) = -1 ∧ un = un ∧ d = d) ∨ (((0 ≤ o ∧ o ≤ 4) ∧ 1 ≤ x ∧ x ≤ 1000000) ∧ cnt b nn o < x ∧ (-1) = -2 ∧ un = un ∧ d = d) ∨ (((0 ≤ o ∧ o ≤ 4) ∧ 1 ≤ x ∧ x ≤ 1000000) ∧ x ≤ cnt b nn o ∧ (-1) = x * w o ∧ ∃ d2 : Int → Int, MN un un d d2 ∧ AT d 0 (tk b (121 * o) x) nn ml ∧ FRM d2 d 0)
    first
    | exact Or.inl ⟨by omega, rfl, rfl, rfl⟩
    | exact Or.inr (Or.inl ⟨by omega, by omega, rfl, rfl, rfl⟩)
    | exact Or.inr (Or.inr ⟨by omega, by omega, e50, _, q30, q38_0, q38_1⟩)
set_option maxHeartbeats 4000000 in
set_option maxRecDepth 100000 in
theorem k_X8_melts (l : Launch) (g : va_G) (ca : Nat → ClassId) (hm : Nat) (m0 : Nat) (m2 : Nat) (m3 : Nat) (m8 : Nat) (m9 : Nat) (m11 : Nat) (m12 : Nat) (m14 : Nat) (m19 : Nat) (m21 : Nat) (m22 : Nat) (m25 : Nat) (m26 : Nat) (un : Int) (mo : Int) (oft : Int) (la : Int) (du : Int) (to : Int) (tr : Int) (n : Int) (at0 : Int) (sa : Int) (vv : Int) (rdu : Int) (se : Int) (its : Int) (lt0 : Int) (d : Int → Int) (w : Int → Int) (o : Int) (x : Int) (b : Int → Int) (nn : Int) (ml : Int) (hAT : AT d 0 b nn ml) (hB : GB b nn) (hun : 0 ≤ un ∧ un ≤ 8) (hW : GW w) (hx0 : in32 o) (hx1 : in32 x) : zJ (S := Int × (Int → Int)) l yX8_melts wsX8_melts ({ frames := 3, cells := 0, slots := 0, locals := 67 } : Room) g ca [.ref hm, vI o, vI x] [(hm, oB 8 [.ref m0, vI un, .ref m2, .ref m3, vI mo, vI oft, vI la, vI du, .ref m8, .ref m9, vI to, .ref m11, .ref m12, vJ tr, .ref m14, vI n, vI at0, vI sa, vI vv, .ref m19, vI rdu, .ref m21, .ref m22, vI se, vI its, .ref m25, .ref m26, vJ lt0]), (m0, aJ ca 7284 d), (m3, aI ca 5 w)] (fun (z : Int) (u : Int × (Int → Int)) => (¬ ((0 ≤ o ∧ o ≤ 4) ∧ 1 ≤ x ∧ x ≤ 1000000) ∧ z = -1 ∧ u.1 = un ∧ u.2 = d) ∨ (((0 ≤ o ∧ o ≤ 4) ∧ 1 ≤ x ∧ x ≤ 1000000) ∧ cnt b nn o < x ∧ z = -2 ∧ u.1 = un ∧ u.2 = d) ∨ (((0 ≤ o ∧ o ≤ 4) ∧ 1 ≤ x ∧ x ≤ 1000000) ∧ x ≤ cnt b nn o ∧ z = ml + x * w o ∧ ∃ d2 : Int → Int, MN un u.1 d d2 ∧ AT u.2 0 (tk b (121 * o) x) nn (ml + x * w o) ∧ FRM d2 u.2 0)) (fun (u : Int × (Int → Int)) => [(hm, oB 8 [.ref m0, vI u.1, .ref m2, .ref m3, vI mo, vI oft, vI la, vI du, .ref m8, .ref m9, vI to, .ref m11, .ref m12, vJ tr, .ref m14, vI n, vI at0, vI sa, vI vv, .ref m19, vI rdu, .ref m21, .ref m22, vI se, vI its, .ref m25, .ref m26, vJ lt0]), (m0, aJ ca 7284 u.2), (m3, aI ca 5 w)]) 0 0 := by
  refine zm_J (cc := cX8_melts) (maxL := 3) (ret := some .long) (by decide) rfl (Nat.le_of_ble_eq_true rfl) ?_
  intro p e s m below meth c A ls R args Q hR hargs hQ hx hb hml hr hts hown hlk hnm hK hP hD hA hS hl
  have hown : s.vm.findClass RX8 = some m.cls := hown
  have hl : lv_has ls 3 [(0, .ref hm), (1, vI o), (2, vI x)] := hl
  have lk_f7 : (Cond.fieldLink RX8 7 "DripRingsModel" "d" "[J").before args s = true := hts _ (by decide +kernel)
  have inF_X8 : ∀ w ∈ wsX80, w ∈ wsX8_melts := by decide +kernel
  have lk_f17 : (Cond.fieldLink RX8 17 "DripRingsModel" "weights" "[I").before args s = true := hts _ (by decide +kernel)
  have lk_c172 : (Cond.constantLong RX8 172 (-2)).before args s = true := hts _ (by decide +kernel)
  have lk_c164 : (Cond.constantLong RX8 164 (-1)).before args s = true := hts _ (by decide +kernel)
  refine lv_aload_n hx hb dX8_melts_0 rfl (lv_at hl 0 rfl) ?_
  refine lv_iload_n hx hb dX8_melts_1 rfl (lv_at hl 1 rfl) ?_
  refine lv_iload_n hx hb dX8_melts_2 rfl (lv_at hl 2 rfl) ?_
  refine zc_VI (As := [vI o, vI x]) (rest := []) (wc := [(hm, oB 8 [.ref m0, vI un, .ref m2, .ref m3, vI mo, vI oft, vI la, vI du, .ref m8, .ref m9, vI to, .ref m11, .ref m12, vJ tr, .ref m14, vI n, vI at0, vI sa, vI vv, .ref m19, vI rdu, .ref m21, .ref m22, vI se, vI its, .ref m25, .ref m26, vJ lt0])]) (wr := [(m0, aJ ca 7284 d), (m3, aI ca 5 w)]) (k_X8_areMany l g ca hm m0 m2 m3 m8 m9 m11 m12 m14 m19 m21 m22 m25 m26 un mo oft la du to tr n at0 sa vv rdu se its lt0 o x (by exact hx0) (by exact hx1)) dX8_melts_3 (cwV 2 hts gX8_melts_X8_areMany rfl rfl rfl (by decide +kernel) (by rw [hR]; exact ⟨Nat.le_of_ble_eq_true rfl, Nat.le_of_ble_eq_true rfl⟩)) ⟨hx, hb, hml, hown, hts⟩ hl.1 hK hP hD hS hA 0 rfl rfl rfl [0] [1, 2] rfl (by decide) rfl (by decide) (by decide) rfl rfl (Nat.le_of_ble_eq_true rfl) (by rw [hR]; exact ⟨Nat.le_of_ble_eq_true rfl, Nat.le_of_ble_eq_true rfl⟩) (fun z3 u H locs q3 hP hD hS => ?_)
  have q3 : (z3 = 1 ∧ (0 ≤ o ∧ o ≤ 4) ∧ 1 ≤ x ∧ x ≤ 1000000) ∨ (z3 = 0 ∧ ¬ ((0 ≤ o ∧ o ≤ 4) ∧ 1 ≤ x ∧ x ≤ 1000000)) := q3
  have hP : va_P g vwCl [(hm, oB 8 [.ref m0, vI un, .ref m2, .ref m3, vI mo, vI oft, vI la, vI du, .ref m8, .ref m9, vI to, .ref m11, .ref m12, vJ tr, .ref m14, vI n, vI at0, vI sa, vI vv, .ref m19, vI rdu, .ref m21, .ref m22, vI se, vI its, .ref m25, .ref m26, vJ lt0]), (m0, aJ ca 7284 d), (m3, aI ca 5 w)] H := hP.sub [2, 0, 1] rfl
  have hD : va_D A [(hm, oB 8 [.ref m0, vI un, .ref m2, .ref m3, vI mo, vI oft, vI la, vI du, .ref m8, .ref m9, vI to, .ref m11, .ref m12, vJ tr, .ref m14, vI n, vI at0, vI sa, vI vv, .ref m19, vI rdu, .ref m21, .ref m22, vI se, vI its, .ref m25, .ref m26, vJ lt0]), (m0, aJ ca 7284 d), (m3, aI ca 5 w)] := hD.sub [2, 0, 1] (by decide) rfl
  refine ri_if_ne (tgt := 13) hx hb dX8_melts_6 (by decide) ⟨by omega, by omega⟩ (fun c6 => ?_) (fun c6 => ?_)
  · skip
    refine lv_aload_n hx hb dX8_melts_13 rfl (lv_at hl 0 rfl) ?_
    refine lv_iconst (v := Int32.ofInt 0) hx hb dX8_melts_14 rfl ?_
    refine lv_iload_n hx hb dX8_melts_15 rfl (lv_at hl 1 rfl) ?_
    refine zc_VJ (As := [vI 0, vI o]) (rest := []) (wc := [(hm, oB 8 [.ref m0, vI un, .ref m2, .ref m3, vI mo, vI oft, vI la, vI du, .ref m8, .ref m9, vI to, .ref m11, .ref m12, vJ tr, .ref m14, vI n, vI at0, vI sa, vI vv, .ref m19, vI rdu, .ref m21, .ref m22, vI se, vI its, .ref m25, .ref m26, vJ lt0]), (m0, aJ ca 7284 d)]) (wr := [(m3, aI ca 5 w)]) (k_X8_manyOf l g ca hm m0 m2 m3 m8 m9 m11 m12 m14 m19 m21 m22 m25 m26 un mo oft la du to tr n at0 sa vv rdu se its lt0 d 0 o b nn ml (by first | assumption | omega) (by first | assumption | omega) (by first | assumption | omega) (by first | assumption | omega)) dX8_melts_16 (cwV 2 hts gX8_melts_X8_manyOf rfl rfl rfl (by decide +kernel) (by rw [hR]; exact ⟨Nat.le_of_ble_eq_true rfl, Nat.le_of_ble_eq_true rfl⟩)) ⟨hx, hb, hml, hown, hts⟩ hl.1 hK hP hD hS hA 0 rfl rfl rfl [0, 1] [2] rfl (by decide) rfl (by decide) (by decide) rfl rfl (Nat.le_of_ble_eq_true rfl) (by rw [hR]; exact ⟨Nat.le_of_ble_eq_true rfl, Nat.le_of_ble_eq_true rfl⟩) (fun z16 u H locs q16 hP hD hS => ?_)
    have q16 : z16 = cnt b nn o := q16
    have hP : va_P g vwCl [(hm, oB 8 [.ref m0, vI un, .ref m2, .ref m3, vI mo, vI oft, vI la, vI du, .ref m8, .ref m9, vI to, .ref m11, .ref m12, vJ tr, .ref m14, vI n, vI at0, vI sa, vI vv, .ref m19, vI rdu, .ref m21, .ref m22, vI se, vI its, .ref m25, .ref m26, vJ lt0]), (m0, aJ ca 7284 d), (m3, aI ca 5 w)] H := hP.sub [1, 2, 0] rfl
    have hD : va_D A [(hm, oB 8 [.ref m0, vI un, .ref m2, .ref m3, vI mo, vI oft, vI la, vI du, .ref m8, .ref m9, vI to, .ref m11, .ref m12, vJ tr, .ref m14, vI n, vI at0, vI sa, vI vv, .ref m19, vI rdu, .ref m21, .ref m22, vI se, vI its, .ref m25, .ref m26, vJ lt0]), (m0, aJ ca 7284 d), (m3, aI ca 5 w)] := hD.sub [1, 2, 0] (by decide) rfl
    have hc19 := cnt_bd hB (o := o) (by omega) (by omega)
    refine lv_iload_n hx hb dX8_melts_19 rfl (lv_at hl 2 rfl) ?_
    refine ri_l hx hb dX8_melts_20 hx1 ?_
    refine rj_cmp hx hb dX8_melts_21 ⟨by omega, by omega⟩ ⟨by omega, by omega⟩ (fun z21 e21 => ?_)
    refine ri_if_ge (tgt := 29) hx hb dX8_melts_22 (by decide) ⟨by omega, by omega⟩ (fun c22 => ?_) (fun c22 => ?_)
    · skip
      have c22 : x ≤ z16 := by omega
      clear e21
      refine lv_aload_n hx hb dX8_melts_29 rfl (lv_at hl 0 rfl) ?_
      refine zc_VV (As := []) (rest := []) (wc := [(hm, oB 8 [.ref m0, vI un, .ref m2, .ref m3, vI mo, vI oft, vI la, vI du, .ref m8, .ref m9, vI to, .ref m11, .ref m12, vJ tr, .ref m14, vI n, vI at0, vI sa, vI vv, .ref m19, vI rdu, .ref m21, .ref m22, vI se, vI its, .ref m25, .ref m26, vJ lt0]), (m0, aJ ca 7284 d)]) (wr := [(m3, aI ca 5 w)]) (k_X8_minds l g ca hm m0 m2 m3 m8 m9 m11 m12 m14 m19 m21 m22 m25 m26 un mo oft la du to tr n at0 sa vv rdu se its lt0 d (by first | assumption | omega)) dX8_melts_30 (cwV 0 hts gX8_melts_X8_minds rfl rfl rfl (by decide +kernel) (by rw [hR]; exact ⟨Nat.le_of_ble_eq_true rfl, Nat.le_of_ble_eq_true rfl⟩)) ⟨hx, hb, hml, hown, hts⟩ hl.1 hK hP hD hS hA 0 rfl rfl rfl [0, 1] [2] rfl (by decide) rfl (by decide) (by decide) rfl rfl (Nat.le_of_ble_eq_true rfl) (by rw [hR]; exact ⟨Nat.le_of_ble_eq_true rfl, Nat.le_of_ble_eq_true rfl⟩) (fun u H locs q30 hP hD hS => ?_)
      obtain ⟨un1_30, d1_30⟩ := u
      have q30 : MN un un1_30 d d1_30 := q30
      have hP : va_P g vwCl [(hm, oB 8 [.ref m0, vI un1_30, .ref m2, .ref m3, vI mo, vI oft, vI la, vI du, .ref m8, .ref m9, vI to, .ref m11, .ref m12, vJ tr, .ref m14, vI n, vI at0, vI sa, vI vv, .ref m19, vI rdu, .ref m21, .ref m22, vI se, vI its, .ref m25, .ref m26, vJ lt0]), (m0, aJ ca 7284 d1_30), (m3, aI ca 5 w)] H := hP.sub [1, 2, 0] rfl
      have hD : va_D A [(hm, oB 8 [.ref m0, vI un1_30, .ref m2, .ref m3, vI mo, vI oft, vI la, vI du, .ref m8, .ref m9, vI to, .ref m11, .ref m12, vJ tr, .ref m14, vI n, vI at0, vI sa, vI vv, .ref m19, vI rdu, .ref m21, .ref m22, vI se, vI its, .ref m25, .ref m26, vJ lt0]), (m0, aJ ca 7284 d1_30), (m3, aI ca 5 w)] := hD.sub [1, 2, 0] (by decide) rfl
      refine lv_aload_n hx hb dX8_melts_33 rfl (lv_at hl 0 rfl) ?_
      refine lv_iconst (v := Int32.ofInt 0) hx hb dX8_melts_34 rfl ?_
      refine lv_iload_n hx hb dX8_melts_35 rfl (lv_at hl 1 rfl) ?_
      refine lv_iload_n hx hb dX8_melts_36 rfl (lv_at hl 2 rfl) ?_
      refine ri_l hx hb dX8_melts_37 ⟨by omega, by omega⟩ ?_
      refine zc_VV (As := [vI 0, vI o, vJ x]) (rest := []) (wc := [(hm, oB 8 [.ref m0, vI un1_30, .ref m2, .ref m3, vI mo, vI oft, vI la, vI du, .ref m8, .ref m9, vI to, .ref m11, .ref m12, vJ tr, .ref m14, vI n, vI at0, vI sa, vI vv, .ref m19, vI rdu, .ref m21, .ref m22, vI se, vI its, .ref m25, .ref m26, vJ lt0]), (m0, aJ ca 7284 d1_30)]) (wr := [(m3, aI ca 5 w)]) (k_X8_takesAway l g ca hm m0 m2 m3 m8 m9 m11 m12 m14 m19 m21 m22 m25 m26 un1_30 mo oft la du to tr n at0 sa vv rdu se its lt0 d1_30 0 o x b nn ml (by first | assumption | omega) (by first | assumption | omega) (by exact MN_AT q30 hun.1 hAT) (by first | assumption | omega) (by first | assumption | omega)) dX8_melts_38 (cwV 3 hts gX8_melts_X8_takesAway rfl rfl rfl (by decide +kernel) (by rw [hR]; exact ⟨Nat.le_of_ble_eq_true rfl, Nat.le_of_ble_eq_true rfl⟩)) ⟨hx, hb, hml, hown, hts⟩ hl.1 hK hP hD hS hA 0 rfl rfl rfl [0, 1] [2] rfl (by decide) rfl (by decide) (by decide) rfl rfl (Nat.le_of_ble_eq_true rfl) (by rw [hR]; exact ⟨Nat.le_of_ble_eq_true rfl, Nat.le_of_ble_eq_true rfl⟩) (fun u H locs q38 hP hD hS => ?_)
      obtain ⟨d1_38, rfl⟩ : ∃ q, q = u := ⟨_, rfl⟩
      have q38 : AT d1_38 0 (tk b (121 * o) x) nn ml ∧ FRM d1_30 d1_38 0 := q38
      obtain ⟨q38_0, q38_1⟩ := q38
      have hP : va_P g vwCl [(hm, oB 8 [.ref m0, vI un1_30, .ref m2, .ref m3, vI mo, vI oft, vI la, vI du, .ref m8, .ref m9, vI to, .ref m11, .ref m12, vJ tr, .ref m14, vI n, vI at0, vI sa, vI vv, .ref m19, vI rdu, .ref m21, .ref m22, vI se, vI its, .ref m25, .ref m26, vJ lt0]), (m0, aJ ca 7284 d1_38), (m3, aI ca 5 w)] H := hP.sub [1, 2, 0] rfl
      have hD : va_D A [(hm, oB 8 [.ref m0, vI un1_30, .ref m2, .ref m3, vI mo, vI oft, vI la, vI du, .ref m8, .ref m9, vI to, .ref m11, .ref m12, vJ tr, .ref m14, vI n, vI at0, vI sa, vI vv, .ref m19, vI rdu, .ref m21, .ref m22, vI se, vI its, .ref m25, .ref m26, vJ lt0]), (m0, aJ ca 7284 d1_38), (m3, aI ca 5 w)] := hD.sub [1, 2, 0] (by decide) rfl
      refine lv_aload_n hx hb dX8_melts_41 rfl (lv_at hl 0 rfl) ?_
      refine va_get (D := g) (ci := 8) (v := .ref m0) (C := RX8) (T := TX8) (N := 28) hx hb hts inF_X8 hown hK.1 hP 0 rfl rfl 0 (by decide) lk_f7 (fun _ h9 => h9) rfl dX8_melts_42 ?_
      refine lv_sipush (v := Int32.ofInt 605) hx hb dX8_melts_45 (by decide) ?_
      refine lv_dup2_11 hx hb dX8_melts_48 rfl rfl ?_
      refine ra_lld hx hb hK hP 1 rfl dX8_melts_49 ⟨by omega, by omega⟩ (by omega) ?_
      refine lv_iload_n hx hb dX8_melts_50 rfl (lv_at hl 2 rfl) ?_
      refine ri_l hx hb dX8_melts_51 ⟨by omega, by omega⟩ ?_
      refine lv_aload_n hx hb dX8_melts_52 rfl (lv_at hl 0 rfl) ?_
      refine va_get (D := g) (ci := 8) (v := .ref m3) (C := RX8) (T := TX8) (N := 28) hx hb hts inF_X8 hown hK.1 hP 0 rfl rfl 3 (by decide) lk_f17 (fun _ h9 => h9) rfl dX8_melts_53 ?_
      refine lv_iload_n hx hb dX8_melts_56 rfl (lv_at hl 1 rfl) ?_
      refine ra_ild hx hb hK hP 2 rfl dX8_melts_57 ⟨by omega, by omega⟩ (by omega) ?_
      have hw49 := hW o (by omega) (by omega)
      refine ri_l hx hb dX8_melts_58 ⟨by omega, by omega⟩ ?_
      refine rj_mul hx hb dX8_melts_59 (fun z59 e59 => ?_)
      refine rj_add hx hb dX8_melts_60 (fun z60 e60 => ?_)
      have hm61 : d1_38 605 = ml := by have := q38_0.2.1; rw [show (0 : Int) + 605 = 605 from rfl] at this; exact this
      refine ra_lst hx hb hK hP hD hS 1 rfl dX8_melts_61 ⟨by omega, by omega⟩ (by omega) (fun H locs hP hD hS => ?_)
      have hP : va_P g vwCl [(hm, oB 8 [.ref m0, vI un1_30, .ref m2, .ref m3, vI mo, vI oft, vI la, vI du, .ref m8, .ref m9, vI to, .ref m11, .ref m12, vJ tr, .ref m14, vI n, vI at0, vI sa, vI vv, .ref m19, vI rdu, .ref m21, .ref m22, vI se, vI its, .ref m25, .ref m26, vJ lt0]), (m0, aJ ca 7284 (zu d1_38 605 z60)), (m3, aI ca 5 w)] H := hP
      have hD : va_D A [(hm, oB 8 [.ref m0, vI un1_30, .ref m2, .ref m3, vI mo, vI oft, vI la, vI du, .ref m8, .ref m9, vI to, .ref m11, .ref m12, vJ tr, .ref m14, vI n, vI at0, vI sa, vI vv, .ref m19, vI rdu, .ref m21, .ref m22, vI se, vI its, .ref m25, .ref m26, vJ lt0]), (m0, aJ ca 7284 (zu d1_38 605 z60)), (m3, aI ca 5 w)] := hD
      refine lv_aload_n hx hb dX8_melts_62 rfl (lv_at hl 0 rfl) ?_
      refine va_get (D := g) (ci := 8) (v := .ref m0) (C := RX8) (T := TX8) (N := 28) hx hb hts inF_X8 hown hK.1 hP 0 rfl rfl 0 (by decide) lk_f7 (fun _ h9 => h9) rfl dX8_melts_63 ?_
      refine lv_sipush (v := Int32.ofInt 605) hx hb dX8_melts_66 (by decide) ?_
      refine ra_lld hx hb hK hP 1 rfl dX8_melts_69 ⟨by omega, by omega⟩ (by omega) ?_
      refine zr_J hx hb hr hlk hQ (un1_30, zu d1_38 605 z60) hP hD hS dX8_melts_70 (Nat.le_of_ble_eq_true rfl) (Nat.le_of_ble_eq_true rfl) ?_
      show (¬ ((0 ≤ o ∧ o ≤ 4) ∧ 1 ≤ x ∧ x ≤ 1000000) ∧ ((zu d1_38 605 z60) 605) = -1 ∧ un1_30 = un ∧ (zu d1_38 605 z60) = d) ∨ (((0 ≤ o ∧ o ≤ 4) ∧ 1 ≤ x ∧ x ≤ 1000000) ∧ cnt b nn o < x ∧ ((zu d1_38 605 z60) 605) = -2 ∧ un1_30 = un ∧ (zu d1_38 605 z60) = d) ∨ (((0 ≤ o ∧ o ≤ 4) ∧ 1 ≤ x ∧ x ≤ 1000000) ∧ x ≤ cnt b nn o ∧ ((zu d1_38 605 z60) 605) = ml + x * w o ∧ ∃ d2 : Int → Int, MN un un1_30 d d2 ∧ AT (zu d1_38 605 z60) 0 (tk b (121 * o) x) nn (ml + x * w o) ∧ FRM d2 (zu d1_38 605 z60) 0)
      first
      | exact Or.inl ⟨by omega, rfl, rfl, rfl⟩
      | exact Or.inr (Or.inl ⟨by omega, by omega, rfl, rfl, rfl⟩)
      | (have e9 : z60 = ml + x * w o := by rw [e60, hm61, e59]
         refine Or.inr (Or.inr ⟨by omega, by omega, by rw [zu_s]; exact e9, _, q30, ⟨fun k h1 h2 => ?_, ?_, ?_⟩, FRM_zu q38_1 (by omega)⟩)
         · rw [zu_n (by omega)]; exact q38_0.1 k h1 h2
         · rw [show (0 : Int) + 605 = 605 from rfl, zu_s]; exact e9
         · rw [zu_n (by omega)]; exact q38_0.2.2)
    · skip
      have c22 : z16 < x := by omega
      clear e21
      refine rj_ldc (z := (-2)) hx hb hown lk_c172 dX8_melts_25 (by decide) ?_
      refine zr_J hx hb hr hlk hQ (un, d) hP hD hS dX8_melts_28 (Nat.le_of_ble_eq_true rfl) (Nat.le_of_ble_eq_true rfl) ?_
      show (¬ ((0 ≤ o ∧ o ≤ 4) ∧ 1 ≤ x ∧ x ≤ 1000000) ∧ (-2) = -1 ∧ un = un ∧ d = d) ∨ (((0 ≤ o ∧ o ≤ 4) ∧ 1 ≤ x ∧ x ≤ 1000000) ∧ cnt b nn o < x ∧ (-2) = -2 ∧ un = un ∧ d = d) ∨ (((0 ≤ o ∧ o ≤ 4) ∧ 1 ≤ x ∧ x ≤ 1000000) ∧ x ≤ cnt b nn o ∧ (-2) = ml + x * w o ∧ ∃ d2 : Int → Int, MN un un d d2 ∧ AT d 0 (tk b (121 * o) x) nn (ml + x * w o) ∧ FRM d2 d 0)
      first
      | exact Or.inl ⟨by omega, rfl, rfl, rfl⟩
      | exact Or.inr (Or.inl ⟨by omega, by omega, rfl, rfl, rfl⟩)
      | (have e9 : z60 = ml + x * w o := by rw [e60, hm61, e59]
         refine Or.inr (Or.inr ⟨by omega, by omega, by rw [zu_s]; exact e9, _, q30, ⟨fun k h1 h2 => ?_, ?_, ?_⟩, FRM_zu q38_1 (by omega)⟩)
         · rw [zu_n (by omega)]; exact q38_0.1 k h1 h2
         · rw [show (0 : Int) + 605 = 605 from rfl, zu_s]; exact e9
         · rw [zu_n (by omega)]; exact q38_0.2.2)
  · skip
    refine rj_ldc (z := (-1)) hx hb hown lk_c164 dX8_melts_9 (by decide) ?_
    refine zr_J hx hb hr hlk hQ (un, d) hP hD hS dX8_melts_12 (Nat.le_of_ble_eq_true rfl) (Nat.le_of_ble_eq_true rfl) ?_
    show (¬ ((0 ≤ o ∧ o ≤ 4) ∧ 1 ≤ x ∧ x ≤ 1000000) ∧ (-1) = -1 ∧ un = un ∧ d = d) ∨ (((0 ≤ o ∧ o ≤ 4) ∧ 1 ≤ x ∧ x ≤ 1000000) ∧ cnt b nn o < x ∧ (-1) = -2 ∧ un = un ∧ d = d) ∨ (((0 ≤ o ∧ o ≤ 4) ∧ 1 ≤ x ∧ x ≤ 1000000) ∧ x ≤ cnt b nn o ∧ (-1) = ml + x * w o ∧ ∃ d2 : Int → Int, MN un un d d2 ∧ AT d 0 (tk b (121 * o) x) nn (ml + x * w o) ∧ FRM d2 d 0)
    first
    | exact Or.inl ⟨by omega, rfl, rfl, rfl⟩
    | exact Or.inr (Or.inl ⟨by omega, by omega, rfl, rfl, rfl⟩)
    | (have e9 : z60 = ml + x * w o := by rw [e60, hm61, e59]
       refine Or.inr (Or.inr ⟨by omega, by omega, by rw [zu_s]; exact e9, _, q30, ⟨fun k h1 h2 => ?_, ?_, ?_⟩, FRM_zu q38_1 (by omega)⟩)
       · rw [zu_n (by omega)]; exact q38_0.1 k h1 h2
       · rw [show (0 : Int) + 605 = 605 from rfl, zu_s]; exact e9
       · rw [zu_n (by omega)]; exact q38_0.2.2)
set_option maxHeartbeats 4000000 in
set_option maxRecDepth 100000 in
theorem k_X8_pays (l : Launch) (g : va_G) (ca : Nat → ClassId) (hm : Nat) (m0 : Nat) (m2 : Nat) (m3 : Nat) (m8 : Nat) (m9 : Nat) (m11 : Nat) (m12 : Nat) (m14 : Nat) (m19 : Nat) (m21 : Nat) (m22 : Nat) (m25 : Nat) (m26 : Nat) (un : Int) (mo : Int) (oft : Int) (la : Int) (du : Int) (to : Int) (tr : Int) (n : Int) (at0 : Int) (sa : Int) (vv : Int) (rdu : Int) (se : Int) (its : Int) (lt0 : Int) (d : Int → Int) (x : Int) (b : Int → Int) (nn : Int) (ml : Int) (hAT : AT d 0 b nn ml) (hB : GB b nn) (hun : 0 ≤ un ∧ un ≤ 8) (hLM : LMok ml) (hx0 : in32 x) : zJ (S := Int × (Int → Int)) l yX8_pays wsX8_pays ({ frames := 2, cells := 0, slots := 0, locals := 44 } : Room) g ca [.ref hm, vI x] [(hm, oB 8 [.ref m0, vI un, .ref m2, .ref m3, vI mo, vI oft, vI la, vI du, .ref m8, .ref m9, vI to, .ref m11, .ref m12, vJ tr, .ref m14, vI n, vI at0, vI sa, vI vv, .ref m19, vI rdu, .ref m21, .ref m22, vI se, vI its, .ref m25, .ref m26, vJ lt0]), (m0, aJ ca 7284 d)] (fun (z : Int) (u : Int × (Int → Int)) => (¬ (1 ≤ x ∧ x ≤ 1000000) ∧ z = -1 ∧ u.1 = un ∧ u.2 = d) ∨ ((1 ≤ x ∧ x ≤ 1000000) ∧ ml < x ∧ z = -2 ∧ u.1 = un ∧ u.2 = d) ∨ ((1 ≤ x ∧ x ≤ 1000000) ∧ x ≤ ml ∧ z = ml - x ∧ ∃ d2 : Int → Int, MN un u.1 d d2 ∧ AT u.2 0 b nn (ml - x) ∧ FRM d2 u.2 0)) (fun (u : Int × (Int → Int)) => [(hm, oB 8 [.ref m0, vI u.1, .ref m2, .ref m3, vI mo, vI oft, vI la, vI du, .ref m8, .ref m9, vI to, .ref m11, .ref m12, vJ tr, .ref m14, vI n, vI at0, vI sa, vI vv, .ref m19, vI rdu, .ref m21, .ref m22, vI se, vI its, .ref m25, .ref m26, vJ lt0]), (m0, aJ ca 7284 u.2)]) 0 0 := by
  refine zm_J (cc := cX8_pays) (maxL := 2) (ret := some .long) (by decide) rfl (Nat.le_of_ble_eq_true rfl) ?_
  intro p e s m below meth c A ls R args Q hR hargs hQ hx hb hml hr hts hown hlk hnm hK hP hD hA hS hl
  have hown : s.vm.findClass RX8 = some m.cls := hown
  have hl : lv_has ls 2 [(0, .ref hm), (1, vI x)] := hl
  have lk_c180 : (Cond.constantLong RX8 180 (1000000)).before args s = true := hts _ (by decide +kernel)
  have lk_f7 : (Cond.fieldLink RX8 7 "DripRingsModel" "d" "[J").before args s = true := hts _ (by decide +kernel)
  have inF_X8 : ∀ w ∈ wsX80, w ∈ wsX8_pays := by decide +kernel
  have lk_c172 : (Cond.constantLong RX8 172 (-2)).before args s = true := hts _ (by decide +kernel)
  have lk_c164 : (Cond.constantLong RX8 164 (-1)).before args s = true := hts _ (by decide +kernel)
  have hd605 : d 605 = ml := by have := hAT.2.1; rw [show (0 : Int) + 605 = 605 from rfl] at this; exact this
  obtain ⟨hlm1, hlm2⟩ := hLM
  refine lv_iload_n hx hb dX8_pays_0 rfl (lv_at hl 1 rfl) ?_
  refine ri_l hx hb dX8_pays_1 hx0 ?_
  refine lv_lconst (v := Int64.ofInt 1) hx hb dX8_pays_2 (by decide) ?_
  refine rj_ldc (z := 1000000) hx hb hown lk_c180 dX8_pays_3 (by decide) ?_
  refine zc_SI (As := [vJ x, vJ 1, vJ 1000000]) (rest := []) (wc := []) (wr := [(hm, oB 8 [.ref m0, vI un, .ref m2, .ref m3, vI mo, vI oft, vI la, vI du, .ref m8, .ref m9, vI to, .ref m11, .ref m12, vJ tr, .ref m14, vI n, vI at0, vI sa, vI vv, .ref m19, vI rdu, .ref m21, .ref m22, vI se, vI its, .ref m25, .ref m26, vJ lt0]), (m0, aJ ca 7284 d)]) (k_X8_in l g ca x 1 1000000 (by exact ⟨by omega, by omega⟩) (by exact ⟨by omega, by omega⟩) (by exact ⟨by omega, by omega⟩)) dX8_pays_6 (va_cwS 3 hts gX8_pays_X8_in rfl rfl rfl (by decide +kernel) (by rw [hR]; exact ⟨Nat.le_of_ble_eq_true rfl, Nat.le_of_ble_eq_true rfl⟩)) ⟨hx, hb, hml, hown, hts⟩ hl.1 hK hP hD hS hA [] [0, 1] rfl (by decide) rfl (by decide) (by decide) rfl rfl (Nat.le_of_ble_eq_true rfl) (by rw [hR]; exact ⟨Nat.le_of_ble_eq_true rfl, Nat.le_of_ble_eq_true rfl⟩) (fun z6 u H locs q6 hP hD hS => ?_)
  have q6 : (z6 = 1 ∧ 1 ≤ x ∧ x ≤ 1000000) ∨ (z6 = 0 ∧ ¬ (1 ≤ x ∧ x ≤ 1000000)) := q6
  have hP : va_P g vwCl [(hm, oB 8 [.ref m0, vI un, .ref m2, .ref m3, vI mo, vI oft, vI la, vI du, .ref m8, .ref m9, vI to, .ref m11, .ref m12, vJ tr, .ref m14, vI n, vI at0, vI sa, vI vv, .ref m19, vI rdu, .ref m21, .ref m22, vI se, vI its, .ref m25, .ref m26, vJ lt0]), (m0, aJ ca 7284 d)] H := hP.sub [0, 1] rfl
  have hD : va_D A [(hm, oB 8 [.ref m0, vI un, .ref m2, .ref m3, vI mo, vI oft, vI la, vI du, .ref m8, .ref m9, vI to, .ref m11, .ref m12, vJ tr, .ref m14, vI n, vI at0, vI sa, vI vv, .ref m19, vI rdu, .ref m21, .ref m22, vI se, vI its, .ref m25, .ref m26, vJ lt0]), (m0, aJ ca 7284 d)] := hD.sub [0, 1] (by decide) rfl
  refine ri_if_ne (tgt := 16) hx hb dX8_pays_9 (by decide) ⟨by omega, by omega⟩ (fun c9 => ?_) (fun c9 => ?_)
  · skip
    refine lv_aload_n hx hb dX8_pays_16 rfl (lv_at hl 0 rfl) ?_
    refine va_get (D := g) (ci := 8) (v := .ref m0) (C := RX8) (T := TX8) (N := 28) hx hb hts inF_X8 hown hK.1 hP 0 rfl rfl 0 (by decide) lk_f7 (fun _ h9 => h9) rfl dX8_pays_17 ?_
    refine lv_sipush (v := Int32.ofInt 605) hx hb dX8_pays_20 (by decide) ?_
    refine ra_lld hx hb hK hP 1 rfl dX8_pays_23 ⟨by omega, by omega⟩ (by omega) ?_
    refine lv_iload_n hx hb dX8_pays_24 rfl (lv_at hl 1 rfl) ?_
    refine ri_l hx hb dX8_pays_25 hx0 ?_
    refine rj_cmp hx hb dX8_pays_26 ⟨by omega, by omega⟩ ⟨by omega, by omega⟩ (fun z26 e26 => ?_)
    refine ri_if_ge (tgt := 34) hx hb dX8_pays_27 (by decide) ⟨by omega, by omega⟩ (fun c27 => ?_) (fun c27 => ?_)
    · skip
      have c27 : x ≤ (d 605) := by omega
      clear e26
      refine lv_aload_n hx hb dX8_pays_34 rfl (lv_at hl 0 rfl) ?_
      refine zc_VV (As := []) (rest := []) (wc := [(hm, oB 8 [.ref m0, vI un, .ref m2, .ref m3, vI mo, vI oft, vI la, vI du, .ref m8, .ref m9, vI to, .ref m11, .ref m12, vJ tr, .ref m14, vI n, vI at0, vI sa, vI vv, .ref m19, vI rdu, .ref m21, .ref m22, vI se, vI its, .ref m25, .ref m26, vJ lt0]), (m0, aJ ca 7284 d)]) (wr := []) (k_X8_minds l g ca hm m0 m2 m3 m8 m9 m11 m12 m14 m19 m21 m22 m25 m26 un mo oft la du to tr n at0 sa vv rdu se its lt0 d (by first | assumption | omega)) dX8_pays_35 (cwV 0 hts gX8_pays_X8_minds rfl rfl rfl (by decide +kernel) (by rw [hR]; exact ⟨Nat.le_of_ble_eq_true rfl, Nat.le_of_ble_eq_true rfl⟩)) ⟨hx, hb, hml, hown, hts⟩ hl.1 hK hP hD hS hA 0 rfl rfl rfl [0, 1] [] rfl (by decide) rfl (by decide) (by decide) rfl rfl (Nat.le_of_ble_eq_true rfl) (by rw [hR]; exact ⟨Nat.le_of_ble_eq_true rfl, Nat.le_of_ble_eq_true rfl⟩) (fun u H locs q35 hP hD hS => ?_)
      obtain ⟨un1_35, d1_35⟩ := u
      have q35 : MN un un1_35 d d1_35 := q35
      have hP : va_P g vwCl [(hm, oB 8 [.ref m0, vI un1_35, .ref m2, .ref m3, vI mo, vI oft, vI la, vI du, .ref m8, .ref m9, vI to, .ref m11, .ref m12, vJ tr, .ref m14, vI n, vI at0, vI sa, vI vv, .ref m19, vI rdu, .ref m21, .ref m22, vI se, vI its, .ref m25, .ref m26, vJ lt0]), (m0, aJ ca 7284 d1_35)] H := hP.sub [0, 1] rfl
      have hD : va_D A [(hm, oB 8 [.ref m0, vI un1_35, .ref m2, .ref m3, vI mo, vI oft, vI la, vI du, .ref m8, .ref m9, vI to, .ref m11, .ref m12, vJ tr, .ref m14, vI n, vI at0, vI sa, vI vv, .ref m19, vI rdu, .ref m21, .ref m22, vI se, vI its, .ref m25, .ref m26, vJ lt0]), (m0, aJ ca 7284 d1_35)] := hD.sub [0, 1] (by decide) rfl
      refine lv_aload_n hx hb dX8_pays_38 rfl (lv_at hl 0 rfl) ?_
      refine va_get (D := g) (ci := 8) (v := .ref m0) (C := RX8) (T := TX8) (N := 28) hx hb hts inF_X8 hown hK.1 hP 0 rfl rfl 0 (by decide) lk_f7 (fun _ h9 => h9) rfl dX8_pays_39 ?_
      refine lv_sipush (v := Int32.ofInt 605) hx hb dX8_pays_42 (by decide) ?_
      refine lv_dup2_11 hx hb dX8_pays_45 rfl rfl ?_
      have hAT2 := MN_AT q35 hun.1 hAT
      have hm46 : d1_35 605 = ml := by have := hAT2.2.1; rw [show (0 : Int) + 605 = 605 from rfl] at this; exact this
      refine ra_lld hx hb hK hP 1 rfl dX8_pays_46 ⟨by omega, by omega⟩ (by omega) ?_
      refine lv_iload_n hx hb dX8_pays_47 rfl (lv_at hl 1 rfl) ?_
      refine ri_l hx hb dX8_pays_48 ⟨by omega, by omega⟩ ?_
      refine rj_sub hx hb dX8_pays_49 (fun z49 e49 => ?_)
      refine ra_lst hx hb hK hP hD hS 1 rfl dX8_pays_50 ⟨by omega, by omega⟩ (by omega) (fun H locs hP hD hS => ?_)
      have hP : va_P g vwCl [(hm, oB 8 [.ref m0, vI un1_35, .ref m2, .ref m3, vI mo, vI oft, vI la, vI du, .ref m8, .ref m9, vI to, .ref m11, .ref m12, vJ tr, .ref m14, vI n, vI at0, vI sa, vI vv, .ref m19, vI rdu, .ref m21, .ref m22, vI se, vI its, .ref m25, .ref m26, vJ lt0]), (m0, aJ ca 7284 (zu d1_35 605 z49))] H := hP
      have hD : va_D A [(hm, oB 8 [.ref m0, vI un1_35, .ref m2, .ref m3, vI mo, vI oft, vI la, vI du, .ref m8, .ref m9, vI to, .ref m11, .ref m12, vJ tr, .ref m14, vI n, vI at0, vI sa, vI vv, .ref m19, vI rdu, .ref m21, .ref m22, vI se, vI its, .ref m25, .ref m26, vJ lt0]), (m0, aJ ca 7284 (zu d1_35 605 z49))] := hD
      refine lv_aload_n hx hb dX8_pays_51 rfl (lv_at hl 0 rfl) ?_
      refine va_get (D := g) (ci := 8) (v := .ref m0) (C := RX8) (T := TX8) (N := 28) hx hb hts inF_X8 hown hK.1 hP 0 rfl rfl 0 (by decide) lk_f7 (fun _ h9 => h9) rfl dX8_pays_52 ?_
      refine lv_sipush (v := Int32.ofInt 605) hx hb dX8_pays_55 (by decide) ?_
      refine ra_lld hx hb hK hP 1 rfl dX8_pays_58 ⟨by omega, by omega⟩ (by omega) ?_
      refine zr_J hx hb hr hlk hQ (un1_35, zu d1_35 605 z49) hP hD hS dX8_pays_59 (Nat.le_of_ble_eq_true rfl) (Nat.le_of_ble_eq_true rfl) ?_
      show (¬ (1 ≤ x ∧ x ≤ 1000000) ∧ ((zu d1_35 605 z49) 605) = -1 ∧ un1_35 = un ∧ (zu d1_35 605 z49) = d) ∨ ((1 ≤ x ∧ x ≤ 1000000) ∧ ml < x ∧ ((zu d1_35 605 z49) 605) = -2 ∧ un1_35 = un ∧ (zu d1_35 605 z49) = d) ∨ ((1 ≤ x ∧ x ≤ 1000000) ∧ x ≤ ml ∧ ((zu d1_35 605 z49) 605) = ml - x ∧ ∃ d2 : Int → Int, MN un un1_35 d d2 ∧ AT (zu d1_35 605 z49) 0 b nn (ml - x) ∧ FRM d2 (zu d1_35 605 z49) 0)
      first
      | exact Or.inl ⟨by omega, rfl, rfl, rfl⟩
      | exact Or.inr (Or.inl ⟨by omega, by omega, rfl, rfl, rfl⟩)
      | (have e9 : z49 = ml - x := by rw [e49, hm46]
         refine Or.inr (Or.inr ⟨by omega, by omega, by rw [zu_s]; exact e9, _, q35, ⟨fun k h1 h2 => ?_, ?_, ?_⟩, FRM_zu FRM_rf (by omega)⟩)
         · rw [zu_n (by omega)]; exact hAT2.1 k h1 h2
         · rw [show (0 : Int) + 605 = 605 from rfl, zu_s]; exact e9
         · rw [zu_n (by omega)]; exact hAT2.2.2)
    · skip
      have c27 : (d 605) < x := by omega
      clear e26
      refine rj_ldc (z := (-2)) hx hb hown lk_c172 dX8_pays_30 (by decide) ?_
      refine zr_J hx hb hr hlk hQ (un, d) hP hD hS dX8_pays_33 (Nat.le_of_ble_eq_true rfl) (Nat.le_of_ble_eq_true rfl) ?_
      show (¬ (1 ≤ x ∧ x ≤ 1000000) ∧ (-2) = -1 ∧ un = un ∧ d = d) ∨ ((1 ≤ x ∧ x ≤ 1000000) ∧ ml < x ∧ (-2) = -2 ∧ un = un ∧ d = d) ∨ ((1 ≤ x ∧ x ≤ 1000000) ∧ x ≤ ml ∧ (-2) = ml - x ∧ ∃ d2 : Int → Int, MN un un d d2 ∧ AT d 0 b nn (ml - x) ∧ FRM d2 d 0)
      first
      | exact Or.inl ⟨by omega, rfl, rfl, rfl⟩
      | exact Or.inr (Or.inl ⟨by omega, by omega, rfl, rfl, rfl⟩)
      | (have e9 : z49 = ml - x := by rw [e49, hm46]
         refine Or.inr (Or.inr ⟨by omega, by omega, by rw [zu_s]; exact e9, _, q35, ⟨fun k h1 h2 => ?_, ?_, ?_⟩, FRM_zu FRM_rf (by omega)⟩)
         · rw [zu_n (by omega)]; exact hAT2.1 k h1 h2
         · rw [show (0 : Int) + 605 = 605 from rfl, zu_s]; exact e9
         · rw [zu_n (by omega)]; exact hAT2.2.2)
  · skip
    refine rj_ldc (z := (-1)) hx hb hown lk_c164 dX8_pays_12 (by decide) ?_
    refine zr_J hx hb hr hlk hQ (un, d) hP hD hS dX8_pays_15 (Nat.le_of_ble_eq_true rfl) (Nat.le_of_ble_eq_true rfl) ?_
    show (¬ (1 ≤ x ∧ x ≤ 1000000) ∧ (-1) = -1 ∧ un = un ∧ d = d) ∨ ((1 ≤ x ∧ x ≤ 1000000) ∧ ml < x ∧ (-1) = -2 ∧ un = un ∧ d = d) ∨ ((1 ≤ x ∧ x ≤ 1000000) ∧ x ≤ ml ∧ (-1) = ml - x ∧ ∃ d2 : Int → Int, MN un un d d2 ∧ AT d 0 b nn (ml - x) ∧ FRM d2 d 0)
    first
    | exact Or.inl ⟨by omega, rfl, rfl, rfl⟩
    | exact Or.inr (Or.inl ⟨by omega, by omega, rfl, rfl, rfl⟩)
    | (have e9 : z49 = ml - x := by rw [e49, hm46]
       refine Or.inr (Or.inr ⟨by omega, by omega, by rw [zu_s]; exact e9, _, q35, ⟨fun k h1 h2 => ?_, ?_, ?_⟩, FRM_zu FRM_rf (by omega)⟩)
       · rw [zu_n (by omega)]; exact hAT2.1 k h1 h2
       · rw [show (0 : Int) + 605 = 605 from rfl, zu_s]; exact e9
       · rw [zu_n (by omega)]; exact hAT2.2.2)
set_option maxHeartbeats 4000000 in
set_option maxRecDepth 100000 in
theorem k_X8_undo (l : Launch) (g : va_G) (ca : Nat → ClassId) (hm : Nat) (m0 : Nat) (m2 : Nat) (m3 : Nat) (m8 : Nat) (m9 : Nat) (m11 : Nat) (m12 : Nat) (m14 : Nat) (m19 : Nat) (m21 : Nat) (m22 : Nat) (m25 : Nat) (m26 : Nat) (un : Int) (mo : Int) (oft : Int) (la : Int) (du : Int) (to : Int) (tr : Int) (n : Int) (at0 : Int) (sa : Int) (vv : Int) (rdu : Int) (se : Int) (its : Int) (lt0 : Int) (d : Int → Int) (hun : 0 ≤ un ∧ un ≤ 8) : zI (S := Int × (Int → Int)) l yX8_undo wsX8_undo ({ frames := 1, cells := 0, slots := 0, locals := 23 } : Room) g ca [.ref hm] [(hm, oB 8 [.ref m0, vI un, .ref m2, .ref m3, vI mo, vI oft, vI la, vI du, .ref m8, .ref m9, vI to, .ref m11, .ref m12, vJ tr, .ref m14, vI n, vI at0, vI sa, vI vv, .ref m19, vI rdu, .ref m21, .ref m22, vI se, vI its, .ref m25, .ref m26, vJ lt0]), (m0, aJ ca 7284 d)] (fun (z : Int) (u : Int × (Int → Int)) => (un = 0 ∧ z = -2 ∧ u.1 = un ∧ u.2 = d) ∨ (0 < un ∧ z = un - 1 ∧ u.1 = un - 1 ∧ ∀ j : Int, u.2 j = if 0 ≤ j ∧ j < 607 then d (2428 + 607 * (un - 1) + j) else d j)) (fun (u : Int × (Int → Int)) => [(hm, oB 8 [.ref m0, vI u.1, .ref m2, .ref m3, vI mo, vI oft, vI la, vI du, .ref m8, .ref m9, vI to, .ref m11, .ref m12, vJ tr, .ref m14, vI n, vI at0, vI sa, vI vv, .ref m19, vI rdu, .ref m21, .ref m22, vI se, vI its, .ref m25, .ref m26, vJ lt0]), (m0, aJ ca 7284 u.2)]) 0 0 := by
  refine zm_I (cc := cX8_undo) (maxL := 1) (ret := some .int) (by decide) rfl (Nat.le_of_ble_eq_true rfl) ?_
  intro p e s m below meth c A ls R args Q hR hargs hQ hx hb hml hr hts hown hlk hnm hK hP hD hA hS hl
  have hown : s.vm.findClass RX8 = some m.cls := hown
  have hl : lv_has ls 1 [(0, .ref hm)] := hl
  have lk_f82 : (Cond.fieldLink RX8 82 "DripRingsModel" "undoes" "I").before args s = true := hts _ (by decide +kernel)
  have inF_X8 : ∀ w ∈ wsX80, w ∈ wsX8_undo := by decide +kernel
  refine lv_aload_n hx hb dX8_undo_0 rfl (lv_at hl 0 rfl) ?_
  refine va_get (D := g) (ci := 8) (v := vI un) (C := RX8) (T := TX8) (N := 28) hx hb hts inF_X8 hown hK.1 hP 0 rfl rfl 1 (by decide) lk_f82 (fun _ h9 => h9) rfl dX8_undo_1 ?_
  refine ri_if_ne (tgt := 10) hx hb dX8_undo_4 (by decide) ⟨by omega, by omega⟩ (fun c4 => ?_) (fun c4 => ?_)
  · skip
    refine lv_aload_n hx hb dX8_undo_10 rfl (lv_at hl 0 rfl) ?_
    refine lv_dup hx hb dX8_undo_11 rfl ?_
    refine va_get (D := g) (ci := 8) (v := vI un) (C := RX8) (T := TX8) (N := 28) hx hb hts inF_X8 hown hK.1 hP 0 rfl rfl 1 (by decide) lk_f82 (fun _ h9 => h9) rfl dX8_undo_12 ?_
    refine lv_iconst (v := Int32.ofInt 1) hx hb dX8_undo_15 rfl ?_
    refine ri_sub hx hb dX8_undo_16 (fun z16 e16 => ?_)
    refine va_put (D := g) (ci := 8) (v := vI z16) (ty := .int) (C := RX8) (T := TX8) (N := 28) hx hb hts inF_X8 tyX8 tyX8_ok nmX8 hown hK.1 hP hD hS 0 rfl rfl 1 (by decide) lk_f82 (fun _ h9 => h9) rfl (by decide +kernel) rfl rfl (Nat.le_of_ble_eq_true rfl) dX8_undo_17 (fun H locs hP hD hS => ?_)
    have hP : va_P g vwCl [(hm, oB 8 [.ref m0, vI z16, .ref m2, .ref m3, vI mo, vI oft, vI la, vI du, .ref m8, .ref m9, vI to, .ref m11, .ref m12, vJ tr, .ref m14, vI n, vI at0, vI sa, vI vv, .ref m19, vI rdu, .ref m21, .ref m22, vI se, vI its, .ref m25, .ref m26, vJ lt0]), (m0, aJ ca 7284 d)] H := hP
    have hD : va_D A [(hm, oB 8 [.ref m0, vI z16, .ref m2, .ref m3, vI mo, vI oft, vI la, vI du, .ref m8, .ref m9, vI to, .ref m11, .ref m12, vJ tr, .ref m14, vI n, vI at0, vI sa, vI vv, .ref m19, vI rdu, .ref m21, .ref m22, vI se, vI its, .ref m25, .ref m26, vJ lt0]), (m0, aJ ca 7284 d)] := hD
    refine lv_aload_n hx hb dX8_undo_20 rfl (lv_at hl 0 rfl) ?_
    refine lv_sipush (v := Int32.ofInt 2428) hx hb dX8_undo_21 (by decide) ?_
    refine lv_sipush (v := Int32.ofInt 607) hx hb dX8_undo_24 (by decide) ?_
    refine lv_aload_n hx hb dX8_undo_27 rfl (lv_at hl 0 rfl) ?_
    refine va_get (D := g) (ci := 8) (v := vI z16) (C := RX8) (T := TX8) (N := 28) hx hb hts inF_X8 hown hK.1 hP 0 rfl rfl 1 (by decide) lk_f82 (fun _ h9 => h9) rfl dX8_undo_28 ?_
    refine ri_mul hx hb dX8_undo_31 (fun z31 e31 => ?_)
    refine ri_add hx hb dX8_undo_32 (fun z32 e32 => ?_)
    refine lv_iconst (v := Int32.ofInt 0) hx hb dX8_undo_33 rfl ?_
    refine zc_VV (As := [vI z32, vI 0]) (rest := []) (wc := [(hm, oB 8 [.ref m0, vI z16, .ref m2, .ref m3, vI mo, vI oft, vI la, vI du, .ref m8, .ref m9, vI to, .ref m11, .ref m12, vJ tr, .ref m14, vI n, vI at0, vI sa, vI vv, .ref m19, vI rdu, .ref m21, .ref m22, vI se, vI its, .ref m25, .ref m26, vJ lt0]), (m0, aJ ca 7284 d)]) (wr := []) (k_X8_copy l g ca hm m0 m2 m3 m8 m9 m11 m12 m14 m19 m21 m22 m25 m26 z16 mo oft la du to tr n at0 sa vv rdu se its lt0 d z32 0 (by first | assumption | omega)) dX8_undo_34 (cwV 2 hts gX8_undo_X8_copy rfl rfl rfl (by decide +kernel) (by rw [hR]; exact ⟨Nat.le_of_ble_eq_true rfl, Nat.le_of_ble_eq_true rfl⟩)) ⟨hx, hb, hml, hown, hts⟩ hl.1 hK hP hD hS hA 0 rfl rfl rfl [0, 1] [] rfl (by decide) rfl (by decide) (by decide) rfl rfl (Nat.le_of_ble_eq_true rfl) (by rw [hR]; exact ⟨Nat.le_of_ble_eq_true rfl, Nat.le_of_ble_eq_true rfl⟩) (fun u H locs q34 hP hD hS => ?_)
    obtain ⟨d1_34, rfl⟩ : ∃ q, q = u := ⟨_, rfl⟩
    have q34 : (∀ j : Int, d1_34 j = if 0 ≤ j ∧ j < 0 + 607 then d (z32 + (j - 0)) else d j) := q34
    have hP : va_P g vwCl [(hm, oB 8 [.ref m0, vI z16, .ref m2, .ref m3, vI mo, vI oft, vI la, vI du, .ref m8, .ref m9, vI to, .ref m11, .ref m12, vJ tr, .ref m14, vI n, vI at0, vI sa, vI vv, .ref m19, vI rdu, .ref m21, .ref m22, vI se, vI its, .ref m25, .ref m26, vJ lt0]), (m0, aJ ca 7284 d1_34)] H := hP.sub [0, 1] rfl
    have hD : va_D A [(hm, oB 8 [.ref m0, vI z16, .ref m2, .ref m3, vI mo, vI oft, vI la, vI du, .ref m8, .ref m9, vI to, .ref m11, .ref m12, vJ tr, .ref m14, vI n, vI at0, vI sa, vI vv, .ref m19, vI rdu, .ref m21, .ref m22, vI se, vI its, .ref m25, .ref m26, vJ lt0]), (m0, aJ ca 7284 d1_34)] := hD.sub [0, 1] (by decide) rfl
    refine lv_aload_n hx hb dX8_undo_37 rfl (lv_at hl 0 rfl) ?_
    refine va_get (D := g) (ci := 8) (v := vI z16) (C := RX8) (T := TX8) (N := 28) hx hb hts inF_X8 hown hK.1 hP 0 rfl rfl 1 (by decide) lk_f82 (fun _ h9 => h9) rfl dX8_undo_38 ?_
    refine zr_I hx hb hr hlk hQ (z16, d1_34) hP hD hS dX8_undo_41 (Nat.le_of_ble_eq_true rfl) (Nat.le_of_ble_eq_true rfl) ?_
    show (un = 0 ∧ z16 = -2 ∧ z16 = un ∧ d1_34 = d) ∨ (0 < un ∧ z16 = un - 1 ∧ z16 = un - 1 ∧ ∀ j : Int, d1_34 j = if 0 ≤ j ∧ j < 607 then d (2428 + 607 * (un - 1) + j) else d j)
    first
    | exact Or.inl ⟨by omega, rfl, rfl, rfl⟩
    | (refine Or.inr ⟨by omega, e16, e16, fun j => ?_⟩
       rw [q34]
       split
       · rw [if_pos (by omega)]; congr 1; omega
       · rw [if_neg (by omega)])
  · skip
    refine lv_bipush (v := Int32.ofInt (-2)) hx hb dX8_undo_7 (by decide) ?_
    refine zr_I hx hb hr hlk hQ (un, d) hP hD hS dX8_undo_9 (Nat.le_of_ble_eq_true rfl) (Nat.le_of_ble_eq_true rfl) ?_
    show (un = 0 ∧ (-2) = -2 ∧ un = un ∧ d = d) ∨ (0 < un ∧ (-2) = un - 1 ∧ un = un - 1 ∧ ∀ j : Int, d j = if 0 ≤ j ∧ j < 607 then d (2428 + 607 * (un - 1) + j) else d j)
    first
    | exact Or.inl ⟨by omega, rfl, rfl, rfl⟩
    | (refine Or.inr ⟨by omega, e16, e16, fun j => ?_⟩
       rw [q34]
       split
       · rw [if_pos (by omega)]; congr 1; omega
       · rw [if_neg (by omega)])
set_option maxHeartbeats 4000000 in
set_option maxRecDepth 100000 in
theorem k_X8_all (l : Launch) (g : va_G) (ca : Nat → ClassId) (hm : Nat) (m0 : Nat) (m2 : Nat) (m3 : Nat) (m8 : Nat) (m9 : Nat) (m11 : Nat) (m12 : Nat) (m14 : Nat) (m19 : Nat) (m21 : Nat) (m22 : Nat) (m25 : Nat) (m26 : Nat) (un : Int) (mo : Int) (oft : Int) (la : Int) (du : Int) (to : Int) (tr : Int) (n : Int) (at0 : Int) (sa : Int) (vv : Int) (rdu : Int) (se : Int) (its : Int) (lt0 : Int) (d : Int → Int) (w : Int → Int) (t0 : Int) (o : Int) (b : Int → Int) (nn : Int) (ml : Int) (hAT : AT d 0 b nn ml) (hB : GB b nn) (hLM : LMok ml) (hW : GW w) (hE : EAok (ef oft la)) (hM : 1 ≤ mo ∧ mo ≤ 9) (hx0 : in32 t0) (hx1 : in32 o) : zJ (S := (Int → Int)) l yX8_all wsX8_all ({ frames := 3, cells := 0, slots := 0, locals := 71 } : Room) g ca [.ref hm, vI t0, vI o] [(hm, oB 8 [.ref m0, vI un, .ref m2, .ref m3, vI mo, vI oft, vI la, vI du, .ref m8, .ref m9, vI to, .ref m11, .ref m12, vJ tr, .ref m14, vI n, vI at0, vI sa, vI vv, .ref m19, vI rdu, .ref m21, .ref m22, vI se, vI its, .ref m25, .ref m26, vJ lt0]), (m0, aJ ca 7284 d), (m3, aI ca 5 w)] (fun (z : Int) (u : (Int → Int)) => z = alv w (ef oft la) b mo nn ml t0 o ∧ FRM d u 607) (fun (u : (Int → Int)) => [(hm, oB 8 [.ref m0, vI un, .ref m2, .ref m3, vI mo, vI oft, vI la, vI du, .ref m8, .ref m9, vI to, .ref m11, .ref m12, vJ tr, .ref m14, vI n, vI at0, vI sa, vI vv, .ref m19, vI rdu, .ref m21, .ref m22, vI se, vI its, .ref m25, .ref m26, vJ lt0]), (m0, aJ ca 7284 u), (m3, aI ca 5 w)]) 0 0 := by
  refine zm_J (cc := cX8_all) (maxL := 3) (ret := some .long) (by decide) rfl (Nat.le_of_ble_eq_true rfl) ?_
  intro p e s m below meth c A ls R args Q hR hargs hQ hx hb hml hr hts hown hlk hnm hK hP hD hA hS hl
  have hown : s.vm.findClass RX8 = some m.cls := hown
  have hl : lv_has ls 3 [(0, .ref hm), (1, vI t0), (2, vI o)] := hl
  have lk_c164 : (Cond.constantLong RX8 164 (-1)).before args s = true := hts _ (by decide +kernel)
  have lk_c172 : (Cond.constantLong RX8 172 (-2)).before args s = true := hts _ (by decide +kernel)
  have lk_c136 : (Cond.constantLong RX8 136 (4)).before args s = true := hts _ (by decide +kernel)
  have hn0 := hB.1
  refine lv_aload_n hx hb dX8_all_0 rfl (lv_at hl 0 rfl) ?_
  refine lv_iload_n hx hb dX8_all_1 rfl (lv_at hl 1 rfl) ?_
  refine zc_VI (As := [vI t0]) (rest := []) (wc := [(hm, oB 8 [.ref m0, vI un, .ref m2, .ref m3, vI mo, vI oft, vI la, vI du, .ref m8, .ref m9, vI to, .ref m11, .ref m12, vJ tr, .ref m14, vI n, vI at0, vI sa, vI vv, .ref m19, vI rdu, .ref m21, .ref m22, vI se, vI its, .ref m25, .ref m26, vJ lt0]), (m0, aJ ca 7284 d)]) (wr := [(m3, aI ca 5 w)]) (k_X8_isToCome l g ca hm m0 m2 m3 m8 m9 m11 m12 m14 m19 m21 m22 m25 m26 un mo oft la du to tr n at0 sa vv rdu se its lt0 d t0 b nn ml (by first | assumption | omega) (by first | assumption | omega) (by exact hx0)) dX8_all_2 (cwV 1 hts gX8_all_X8_isToCome rfl rfl rfl (by decide +kernel) (by rw [hR]; exact ⟨Nat.le_of_ble_eq_true rfl, Nat.le_of_ble_eq_true rfl⟩)) ⟨hx, hb, hml, hown, hts⟩ hl.1 hK hP hD hS hA 0 rfl rfl rfl [0, 1] [2] rfl (by decide) rfl (by decide) (by decide) rfl rfl (Nat.le_of_ble_eq_true rfl) (by rw [hR]; exact ⟨Nat.le_of_ble_eq_true rfl, Nat.le_of_ble_eq_true rfl⟩) (fun z2 u H locs q2 hP hD hS => ?_)
  have q2 : (z2 = 1 ∧ nn ≤ t0 ∧ t0 ≤ 120) ∨ (z2 = 0 ∧ ¬ (nn ≤ t0 ∧ t0 ≤ 120)) := q2
  have hP : va_P g vwCl [(hm, oB 8 [.ref m0, vI un, .ref m2, .ref m3, vI mo, vI oft, vI la, vI du, .ref m8, .ref m9, vI to, .ref m11, .ref m12, vJ tr, .ref m14, vI n, vI at0, vI sa, vI vv, .ref m19, vI rdu, .ref m21, .ref m22, vI se, vI its, .ref m25, .ref m26, vJ lt0]), (m0, aJ ca 7284 d), (m3, aI ca 5 w)] H := hP.sub [1, 2, 0] rfl
  have hD : va_D A [(hm, oB 8 [.ref m0, vI un, .ref m2, .ref m3, vI mo, vI oft, vI la, vI du, .ref m8, .ref m9, vI to, .ref m11, .ref m12, vJ tr, .ref m14, vI n, vI at0, vI sa, vI vv, .ref m19, vI rdu, .ref m21, .ref m22, vI se, vI its, .ref m25, .ref m26, vJ lt0]), (m0, aJ ca 7284 d), (m3, aI ca 5 w)] := hD.sub [1, 2, 0] (by decide) rfl
  refine ri_if_eq (tgt := 22) hx hb dX8_all_5 (by decide) ⟨by omega, by omega⟩ (fun c5 => ?_) (fun c5 => ?_)
  · skip
    refine rj_ldc (z := (-1)) hx hb hown lk_c164 dX8_all_22 (by decide) ?_
    refine zr_J hx hb hr hlk hQ (d) hP hD hS dX8_all_25 (Nat.le_of_ble_eq_true rfl) (Nat.le_of_ble_eq_true rfl) ?_
    show (-1) = alv w (ef oft la) b mo nn ml t0 o ∧ FRM d d 607
    unfold alv
    first
    | exact ⟨by rw [if_neg (fun q => by omega)], FRM_rf⟩
    | exact ⟨by rw [if_pos (by omega), if_pos (by omega), q52], FRM_tr (CPY q31 hAT).2 q39_1⟩
    | exact ⟨by rw [if_pos (by omega), if_neg (by omega), if_pos (by omega), q67], FRM_tr (CPY q31 hAT).2 q39_1⟩
    | exact ⟨by rw [if_pos (by omega), if_neg (by omega), if_neg (by omega), q78], FRM_tr (CPY q31 hAT).2 q39_1⟩
  · skip
    refine lv_iload_n hx hb dX8_all_8 rfl (lv_at hl 2 rfl) ?_
    refine ri_l hx hb dX8_all_9 hx1 ?_
    refine rj_ldc (z := (-2)) hx hb hown lk_c172 dX8_all_10 (by decide) ?_
    refine rj_ldc (z := 4) hx hb hown lk_c136 dX8_all_13 (by decide) ?_
    refine zc_SI (As := [vJ o, vJ (-2), vJ 4]) (rest := []) (wc := []) (wr := [(hm, oB 8 [.ref m0, vI un, .ref m2, .ref m3, vI mo, vI oft, vI la, vI du, .ref m8, .ref m9, vI to, .ref m11, .ref m12, vJ tr, .ref m14, vI n, vI at0, vI sa, vI vv, .ref m19, vI rdu, .ref m21, .ref m22, vI se, vI its, .ref m25, .ref m26, vJ lt0]), (m0, aJ ca 7284 d), (m3, aI ca 5 w)]) (k_X8_in l g ca o (-2) 4 (by exact ⟨by omega, by omega⟩) (by exact ⟨by omega, by omega⟩) (by exact ⟨by omega, by omega⟩)) dX8_all_16 (va_cwS 3 hts gX8_all_X8_in rfl rfl rfl (by decide +kernel) (by rw [hR]; exact ⟨Nat.le_of_ble_eq_true rfl, Nat.le_of_ble_eq_true rfl⟩)) ⟨hx, hb, hml, hown, hts⟩ hl.1 hK hP hD hS hA [] [0, 1, 2] rfl (by decide) rfl (by decide) (by decide) rfl rfl (Nat.le_of_ble_eq_true rfl) (by rw [hR]; exact ⟨Nat.le_of_ble_eq_true rfl, Nat.le_of_ble_eq_true rfl⟩) (fun z16 u H locs q16 hP hD hS => ?_)
    have q16 : (z16 = 1 ∧ (-2) ≤ o ∧ o ≤ 4) ∨ (z16 = 0 ∧ ¬ ((-2) ≤ o ∧ o ≤ 4)) := q16
    have hP : va_P g vwCl [(hm, oB 8 [.ref m0, vI un, .ref m2, .ref m3, vI mo, vI oft, vI la, vI du, .ref m8, .ref m9, vI to, .ref m11, .ref m12, vJ tr, .ref m14, vI n, vI at0, vI sa, vI vv, .ref m19, vI rdu, .ref m21, .ref m22, vI se, vI its, .ref m25, .ref m26, vJ lt0]), (m0, aJ ca 7284 d), (m3, aI ca 5 w)] H := hP.sub [0, 1, 2] rfl
    have hD : va_D A [(hm, oB 8 [.ref m0, vI un, .ref m2, .ref m3, vI mo, vI oft, vI la, vI du, .ref m8, .ref m9, vI to, .ref m11, .ref m12, vJ tr, .ref m14, vI n, vI at0, vI sa, vI vv, .ref m19, vI rdu, .ref m21, .ref m22, vI se, vI its, .ref m25, .ref m26, vJ lt0]), (m0, aJ ca 7284 d), (m3, aI ca 5 w)] := hD.sub [0, 1, 2] (by decide) rfl
    refine ri_if_ne (tgt := 26) hx hb dX8_all_19 (by decide) ⟨by omega, by omega⟩ (fun c19 => ?_) (fun c19 => ?_)
    · skip
      refine lv_aload_n hx hb dX8_all_26 rfl (lv_at hl 0 rfl) ?_
      refine lv_iconst (v := Int32.ofInt 0) hx hb dX8_all_27 rfl ?_
      refine lv_sipush (v := Int32.ofInt 607) hx hb dX8_all_28 (by decide) ?_
      refine zc_VV (As := [vI 0, vI 607]) (rest := []) (wc := [(hm, oB 8 [.ref m0, vI un, .ref m2, .ref m3, vI mo, vI oft, vI la, vI du, .ref m8, .ref m9, vI to, .ref m11, .ref m12, vJ tr, .ref m14, vI n, vI at0, vI sa, vI vv, .ref m19, vI rdu, .ref m21, .ref m22, vI se, vI its, .ref m25, .ref m26, vJ lt0]), (m0, aJ ca 7284 d)]) (wr := [(m3, aI ca 5 w)]) (k_X8_copy l g ca hm m0 m2 m3 m8 m9 m11 m12 m14 m19 m21 m22 m25 m26 un mo oft la du to tr n at0 sa vv rdu se its lt0 d 0 607 (by first | assumption | omega)) dX8_all_31 (cwV 2 hts gX8_all_X8_copy rfl rfl rfl (by decide +kernel) (by rw [hR]; exact ⟨Nat.le_of_ble_eq_true rfl, Nat.le_of_ble_eq_true rfl⟩)) ⟨hx, hb, hml, hown, hts⟩ hl.1 hK hP hD hS hA 0 rfl rfl rfl [0, 1] [2] rfl (by decide) rfl (by decide) (by decide) rfl rfl (Nat.le_of_ble_eq_true rfl) (by rw [hR]; exact ⟨Nat.le_of_ble_eq_true rfl, Nat.le_of_ble_eq_true rfl⟩) (fun u H locs q31 hP hD hS => ?_)
      obtain ⟨d1_31, rfl⟩ : ∃ q, q = u := ⟨_, rfl⟩
      have q31 : (∀ j : Int, d1_31 j = if 607 ≤ j ∧ j < 607 + 607 then d (0 + (j - 607)) else d j) := q31
      have hP : va_P g vwCl [(hm, oB 8 [.ref m0, vI un, .ref m2, .ref m3, vI mo, vI oft, vI la, vI du, .ref m8, .ref m9, vI to, .ref m11, .ref m12, vJ tr, .ref m14, vI n, vI at0, vI sa, vI vv, .ref m19, vI rdu, .ref m21, .ref m22, vI se, vI its, .ref m25, .ref m26, vJ lt0]), (m0, aJ ca 7284 d1_31), (m3, aI ca 5 w)] H := hP.sub [1, 2, 0] rfl
      have hD : va_D A [(hm, oB 8 [.ref m0, vI un, .ref m2, .ref m3, vI mo, vI oft, vI la, vI du, .ref m8, .ref m9, vI to, .ref m11, .ref m12, vJ tr, .ref m14, vI n, vI at0, vI sa, vI vv, .ref m19, vI rdu, .ref m21, .ref m22, vI se, vI its, .ref m25, .ref m26, vJ lt0]), (m0, aJ ca 7284 d1_31), (m3, aI ca 5 w)] := hD.sub [1, 2, 0] (by decide) rfl
      refine lv_aload_n hx hb dX8_all_34 rfl (lv_at hl 0 rfl) ?_
      refine lv_sipush (v := Int32.ofInt 607) hx hb dX8_all_35 (by decide) ?_
      refine lv_iload_n hx hb dX8_all_38 rfl (lv_at hl 1 rfl) ?_
      refine zc_VV (As := [vI 607, vI t0]) (rest := []) (wc := [(hm, oB 8 [.ref m0, vI un, .ref m2, .ref m3, vI mo, vI oft, vI la, vI du, .ref m8, .ref m9, vI to, .ref m11, .ref m12, vJ tr, .ref m14, vI n, vI at0, vI sa, vI vv, .ref m19, vI rdu, .ref m21, .ref m22, vI se, vI its, .ref m25, .ref m26, vJ lt0]), (m0, aJ ca 7284 d1_31), (m3, aI ca 5 w)]) (wr := []) (k_X8_goesTill l g ca hm m0 m2 m3 m8 m9 m11 m12 m14 m19 m21 m22 m25 m26 un mo oft la du to tr n at0 sa vv rdu se its lt0 d1_31 w 607 t0 b nn ml (by first | assumption | omega) (by exact (CPY q31 hAT).1) (by first | assumption | omega) (by first | assumption | omega) (by first | assumption | omega) (by first | assumption | omega) (by first | assumption | omega)) dX8_all_39 (cwV 2 hts gX8_all_X8_goesTill rfl rfl rfl (by decide +kernel) (by rw [hR]; exact ⟨Nat.le_of_ble_eq_true rfl, Nat.le_of_ble_eq_true rfl⟩)) ⟨hx, hb, hml, hown, hts⟩ hl.1 hK hP hD hS hA 0 rfl rfl rfl [0, 1, 2] [] rfl (by decide) rfl (by decide) (by decide) rfl rfl (Nat.le_of_ble_eq_true rfl) (by rw [hR]; exact ⟨Nat.le_of_ble_eq_true rfl, Nat.le_of_ble_eq_true rfl⟩) (fun u H locs q39 hP hD hS => ?_)
      obtain ⟨d1_39, rfl⟩ : ∃ q, q = u := ⟨_, rfl⟩
      have q39 : AT d1_39 607 (gt w (ef oft la) mo nn b (t0 - nn).toNat) t0 ml ∧ FRM d1_31 d1_39 607 := q39
      obtain ⟨q39_0, q39_1⟩ := q39
      have hP : va_P g vwCl [(hm, oB 8 [.ref m0, vI un, .ref m2, .ref m3, vI mo, vI oft, vI la, vI du, .ref m8, .ref m9, vI to, .ref m11, .ref m12, vJ tr, .ref m14, vI n, vI at0, vI sa, vI vv, .ref m19, vI rdu, .ref m21, .ref m22, vI se, vI its, .ref m25, .ref m26, vJ lt0]), (m0, aJ ca 7284 d1_39), (m3, aI ca 5 w)] H := hP.sub [0, 1, 2] rfl
      have hD : va_D A [(hm, oB 8 [.ref m0, vI un, .ref m2, .ref m3, vI mo, vI oft, vI la, vI du, .ref m8, .ref m9, vI to, .ref m11, .ref m12, vJ tr, .ref m14, vI n, vI at0, vI sa, vI vv, .ref m19, vI rdu, .ref m21, .ref m22, vI se, vI its, .ref m25, .ref m26, vJ lt0]), (m0, aJ ca 7284 d1_39), (m3, aI ca 5 w)] := hD.sub [0, 1, 2] (by decide) rfl
      have hGT := GB_gt (w := w) hE hM hB (t0 - nn).toNat (by omega)
      rw [show nn + ((t0 - nn).toNat : Int) = t0 by omega] at hGT
      refine lv_iload_n hx hb dX8_all_42 rfl (lv_at hl 2 rfl) ?_
      refine lv_bipush (v := Int32.ofInt (-2)) hx hb dX8_all_43 (by decide) ?_
      refine ri_icmp_ne (tgt := 58) hx hb dX8_all_45 (by decide) hx1 ⟨by omega, by omega⟩ (fun c45 => ?_) (fun c45 => ?_)
      · skip
        refine lv_iload_n hx hb dX8_all_58 rfl (lv_at hl 2 rfl) ?_
        refine lv_iconst (v := Int32.ofInt (-1)) hx hb dX8_all_59 rfl ?_
        refine ri_icmp_ne (tgt := 73) hx hb dX8_all_60 (by decide) hx1 ⟨by omega, by omega⟩ (fun c60 => ?_) (fun c60 => ?_)
        · skip
          refine lv_aload_n hx hb dX8_all_73 rfl (lv_at hl 0 rfl) ?_
          refine lv_sipush (v := Int32.ofInt 607) hx hb dX8_all_74 (by decide) ?_
          refine lv_iload_n hx hb dX8_all_77 rfl (lv_at hl 2 rfl) ?_
          refine zc_VJ (As := [vI 607, vI o]) (rest := []) (wc := [(hm, oB 8 [.ref m0, vI un, .ref m2, .ref m3, vI mo, vI oft, vI la, vI du, .ref m8, .ref m9, vI to, .ref m11, .ref m12, vJ tr, .ref m14, vI n, vI at0, vI sa, vI vv, .ref m19, vI rdu, .ref m21, .ref m22, vI se, vI its, .ref m25, .ref m26, vJ lt0]), (m0, aJ ca 7284 d1_39)]) (wr := [(m3, aI ca 5 w)]) (k_X8_manyOf l g ca hm m0 m2 m3 m8 m9 m11 m12 m14 m19 m21 m22 m25 m26 un mo oft la du to tr n at0 sa vv rdu se its lt0 d1_39 607 o (gt w (ef oft la) mo nn b (t0 - nn).toNat) t0 ml (by first | assumption | omega) (by first | assumption | omega) (by exact q39_0) (by exact hGT)) dX8_all_78 (cwV 2 hts gX8_all_X8_manyOf rfl rfl rfl (by decide +kernel) (by rw [hR]; exact ⟨Nat.le_of_ble_eq_true rfl, Nat.le_of_ble_eq_true rfl⟩)) ⟨hx, hb, hml, hown, hts⟩ hl.1 hK hP hD hS hA 0 rfl rfl rfl [0, 1] [2] rfl (by decide) rfl (by decide) (by decide) rfl rfl (Nat.le_of_ble_eq_true rfl) (by rw [hR]; exact ⟨Nat.le_of_ble_eq_true rfl, Nat.le_of_ble_eq_true rfl⟩) (fun z78 u H locs q78 hP hD hS => ?_)
          have q78 : z78 = cnt (gt w (ef oft la) mo nn b (t0 - nn).toNat) t0 o := q78
          have hP : va_P g vwCl [(hm, oB 8 [.ref m0, vI un, .ref m2, .ref m3, vI mo, vI oft, vI la, vI du, .ref m8, .ref m9, vI to, .ref m11, .ref m12, vJ tr, .ref m14, vI n, vI at0, vI sa, vI vv, .ref m19, vI rdu, .ref m21, .ref m22, vI se, vI its, .ref m25, .ref m26, vJ lt0]), (m0, aJ ca 7284 d1_39), (m3, aI ca 5 w)] H := hP.sub [1, 2, 0] rfl
          have hD : va_D A [(hm, oB 8 [.ref m0, vI un, .ref m2, .ref m3, vI mo, vI oft, vI la, vI du, .ref m8, .ref m9, vI to, .ref m11, .ref m12, vJ tr, .ref m14, vI n, vI at0, vI sa, vI vv, .ref m19, vI rdu, .ref m21, .ref m22, vI se, vI its, .ref m25, .ref m26, vJ lt0]), (m0, aJ ca 7284 d1_39), (m3, aI ca 5 w)] := hD.sub [1, 2, 0] (by decide) rfl
          refine zr_J hx hb hr hlk hQ (d1_39) hP hD hS dX8_all_81 (Nat.le_of_ble_eq_true rfl) (Nat.le_of_ble_eq_true rfl) ?_
          show z78 = alv w (ef oft la) b mo nn ml t0 o ∧ FRM d d1_39 607
          unfold alv
          first
          | exact ⟨by rw [if_neg (fun q => by omega)], FRM_rf⟩
          | exact ⟨by rw [if_pos (by omega), if_pos (by omega), q52], FRM_tr (CPY q31 hAT).2 q39_1⟩
          | exact ⟨by rw [if_pos (by omega), if_neg (by omega), if_pos (by omega), q67], FRM_tr (CPY q31 hAT).2 q39_1⟩
          | exact ⟨by rw [if_pos (by omega), if_neg (by omega), if_neg (by omega), q78], FRM_tr (CPY q31 hAT).2 q39_1⟩
        · skip
          refine lv_aload_n hx hb dX8_all_63 rfl (lv_at hl 0 rfl) ?_
          refine lv_sipush (v := Int32.ofInt 607) hx hb dX8_all_64 (by decide) ?_
          refine zc_VJ (As := [vI 607]) (rest := []) (wc := [(hm, oB 8 [.ref m0, vI un, .ref m2, .ref m3, vI mo, vI oft, vI la, vI du, .ref m8, .ref m9, vI to, .ref m11, .ref m12, vJ tr, .ref m14, vI n, vI at0, vI sa, vI vv, .ref m19, vI rdu, .ref m21, .ref m22, vI se, vI its, .ref m25, .ref m26, vJ lt0]), (m0, aJ ca 7284 d1_39)]) (wr := [(m3, aI ca 5 w)]) (k_X8_allOf l g ca hm m0 m2 m3 m8 m9 m11 m12 m14 m19 m21 m22 m25 m26 un mo oft la du to tr n at0 sa vv rdu se its lt0 d1_39 607 (gt w (ef oft la) mo nn b (t0 - nn).toNat) t0 ml (by first | assumption | omega) (by exact q39_0) (by exact hGT)) dX8_all_67 (cwV 1 hts gX8_all_X8_allOf rfl rfl rfl (by decide +kernel) (by rw [hR]; exact ⟨Nat.le_of_ble_eq_true rfl, Nat.le_of_ble_eq_true rfl⟩)) ⟨hx, hb, hml, hown, hts⟩ hl.1 hK hP hD hS hA 0 rfl rfl rfl [0, 1] [2] rfl (by decide) rfl (by decide) (by decide) rfl rfl (Nat.le_of_ble_eq_true rfl) (by rw [hR]; exact ⟨Nat.le_of_ble_eq_true rfl, Nat.le_of_ble_eq_true rfl⟩) (fun z67 u H locs q67 hP hD hS => ?_)
          have q67 : z67 = tot (gt w (ef oft la) mo nn b (t0 - nn).toNat) t0 := q67
          have hP : va_P g vwCl [(hm, oB 8 [.ref m0, vI un, .ref m2, .ref m3, vI mo, vI oft, vI la, vI du, .ref m8, .ref m9, vI to, .ref m11, .ref m12, vJ tr, .ref m14, vI n, vI at0, vI sa, vI vv, .ref m19, vI rdu, .ref m21, .ref m22, vI se, vI its, .ref m25, .ref m26, vJ lt0]), (m0, aJ ca 7284 d1_39), (m3, aI ca 5 w)] H := hP.sub [1, 2, 0] rfl
          have hD : va_D A [(hm, oB 8 [.ref m0, vI un, .ref m2, .ref m3, vI mo, vI oft, vI la, vI du, .ref m8, .ref m9, vI to, .ref m11, .ref m12, vJ tr, .ref m14, vI n, vI at0, vI sa, vI vv, .ref m19, vI rdu, .ref m21, .ref m22, vI se, vI its, .ref m25, .ref m26, vJ lt0]), (m0, aJ ca 7284 d1_39), (m3, aI ca 5 w)] := hD.sub [1, 2, 0] (by decide) rfl
          refine lv_goto (tgt := 81) hx hb dX8_all_70 (by decide) ?_
          refine zr_J hx hb hr hlk hQ (d1_39) hP hD hS dX8_all_81 (Nat.le_of_ble_eq_true rfl) (Nat.le_of_ble_eq_true rfl) ?_
          show z67 = alv w (ef oft la) b mo nn ml t0 o ∧ FRM d d1_39 607
          unfold alv
          first
          | exact ⟨by rw [if_neg (fun q => by omega)], FRM_rf⟩
          | exact ⟨by rw [if_pos (by omega), if_pos (by omega), q52], FRM_tr (CPY q31 hAT).2 q39_1⟩
          | exact ⟨by rw [if_pos (by omega), if_neg (by omega), if_pos (by omega), q67], FRM_tr (CPY q31 hAT).2 q39_1⟩
          | exact ⟨by rw [if_pos (by omega), if_neg (by omega), if_neg (by omega), q78], FRM_tr (CPY q31 hAT).2 q39_1⟩
      · skip
        refine lv_aload_n hx hb dX8_all_48 rfl (lv_at hl 0 rfl) ?_
        refine lv_sipush (v := Int32.ofInt 607) hx hb dX8_all_49 (by decide) ?_
        refine zc_VJ (As := [vI 607]) (rest := []) (wc := [(hm, oB 8 [.ref m0, vI un, .ref m2, .ref m3, vI mo, vI oft, vI la, vI du, .ref m8, .ref m9, vI to, .ref m11, .ref m12, vJ tr, .ref m14, vI n, vI at0, vI sa, vI vv, .ref m19, vI rdu, .ref m21, .ref m22, vI se, vI its, .ref m25, .ref m26, vJ lt0]), (m0, aJ ca 7284 d1_39), (m3, aI ca 5 w)]) (wr := []) (k_X8_weighs l g ca hm m0 m2 m3 m8 m9 m11 m12 m14 m19 m21 m22 m25 m26 un mo oft la du to tr n at0 sa vv rdu se its lt0 d1_39 w 607 (gt w (ef oft la) mo nn b (t0 - nn).toNat) t0 ml (by first | assumption | omega) (by exact q39_0) (by exact hGT) (by first | assumption | omega)) dX8_all_52 (cwV 1 hts gX8_all_X8_weighs rfl rfl rfl (by decide +kernel) (by rw [hR]; exact ⟨Nat.le_of_ble_eq_true rfl, Nat.le_of_ble_eq_true rfl⟩)) ⟨hx, hb, hml, hown, hts⟩ hl.1 hK hP hD hS hA 0 rfl rfl rfl [0, 1, 2] [] rfl (by decide) rfl (by decide) (by decide) rfl rfl (Nat.le_of_ble_eq_true rfl) (by rw [hR]; exact ⟨Nat.le_of_ble_eq_true rfl, Nat.le_of_ble_eq_true rfl⟩) (fun z52 u H locs q52 hP hD hS => ?_)
        have q52 : z52 = wgt (gt w (ef oft la) mo nn b (t0 - nn).toNat) w t0 + ml := q52
        have hP : va_P g vwCl [(hm, oB 8 [.ref m0, vI un, .ref m2, .ref m3, vI mo, vI oft, vI la, vI du, .ref m8, .ref m9, vI to, .ref m11, .ref m12, vJ tr, .ref m14, vI n, vI at0, vI sa, vI vv, .ref m19, vI rdu, .ref m21, .ref m22, vI se, vI its, .ref m25, .ref m26, vJ lt0]), (m0, aJ ca 7284 d1_39), (m3, aI ca 5 w)] H := hP.sub [0, 1, 2] rfl
        have hD : va_D A [(hm, oB 8 [.ref m0, vI un, .ref m2, .ref m3, vI mo, vI oft, vI la, vI du, .ref m8, .ref m9, vI to, .ref m11, .ref m12, vJ tr, .ref m14, vI n, vI at0, vI sa, vI vv, .ref m19, vI rdu, .ref m21, .ref m22, vI se, vI its, .ref m25, .ref m26, vJ lt0]), (m0, aJ ca 7284 d1_39), (m3, aI ca 5 w)] := hD.sub [0, 1, 2] (by decide) rfl
        refine lv_goto (tgt := 81) hx hb dX8_all_55 (by decide) ?_
        refine zr_J hx hb hr hlk hQ (d1_39) hP hD hS dX8_all_81 (Nat.le_of_ble_eq_true rfl) (Nat.le_of_ble_eq_true rfl) ?_
        show z52 = alv w (ef oft la) b mo nn ml t0 o ∧ FRM d d1_39 607
        unfold alv
        first
        | exact ⟨by rw [if_neg (fun q => by omega)], FRM_rf⟩
        | exact ⟨by rw [if_pos (by omega), if_pos (by omega), q52], FRM_tr (CPY q31 hAT).2 q39_1⟩
        | exact ⟨by rw [if_pos (by omega), if_neg (by omega), if_pos (by omega), q67], FRM_tr (CPY q31 hAT).2 q39_1⟩
        | exact ⟨by rw [if_pos (by omega), if_neg (by omega), if_neg (by omega), q78], FRM_tr (CPY q31 hAT).2 q39_1⟩
    · skip
      refine rj_ldc (z := (-1)) hx hb hown lk_c164 dX8_all_22 (by decide) ?_
      refine zr_J hx hb hr hlk hQ (d) hP hD hS dX8_all_25 (Nat.le_of_ble_eq_true rfl) (Nat.le_of_ble_eq_true rfl) ?_
      show (-1) = alv w (ef oft la) b mo nn ml t0 o ∧ FRM d d 607
      unfold alv
      first
      | exact ⟨by rw [if_neg (fun q => by omega)], FRM_rf⟩
      | exact ⟨by rw [if_pos (by omega), if_pos (by omega), q52], FRM_tr (CPY q31 hAT).2 q39_1⟩
      | exact ⟨by rw [if_pos (by omega), if_neg (by omega), if_pos (by omega), q67], FRM_tr (CPY q31 hAT).2 q39_1⟩
      | exact ⟨by rw [if_pos (by omega), if_neg (by omega), if_neg (by omega), q78], FRM_tr (CPY q31 hAT).2 q39_1⟩
set_option maxHeartbeats 4000000 in
set_option maxRecDepth 100000 in
theorem k_X8_above (l : Launch) (g : va_G) (ca : Nat → ClassId) (hm : Nat) (m0 : Nat) (m2 : Nat) (m3 : Nat) (m8 : Nat) (m9 : Nat) (m11 : Nat) (m12 : Nat) (m14 : Nat) (m19 : Nat) (m21 : Nat) (m22 : Nat) (m25 : Nat) (m26 : Nat) (un : Int) (mo : Int) (oft : Int) (la : Int) (du : Int) (to : Int) (tr : Int) (n : Int) (at0 : Int) (sa : Int) (vv : Int) (rdu : Int) (se : Int) (its : Int) (lt0 : Int) (d : Int → Int) (w : Int → Int) (x : Int) (b : Int → Int) (nn : Int) (ml : Int) (hAT : AT d 0 b nn ml) (hB : GB b nn) (hLM : LMok ml) (hW : GW w) (hE : EAok (ef oft la)) (hM : 1 ≤ mo ∧ mo ≤ 9) (hx0 : in32 x) : zI (S := (Int → Int)) l yX8_above wsX8_above ({ frames := 2, cells := 0, slots := 0, locals := 49 } : Room) g ca [.ref hm, vI x] [(hm, oB 8 [.ref m0, vI un, .ref m2, .ref m3, vI mo, vI oft, vI la, vI du, .ref m8, .ref m9, vI to, .ref m11, .ref m12, vJ tr, .ref m14, vI n, vI at0, vI sa, vI vv, .ref m19, vI rdu, .ref m21, .ref m22, vI se, vI its, .ref m25, .ref m26, vJ lt0]), (m0, aJ ca 7284 d), (m3, aI ca 5 w)] (fun (z : Int) (u : (Int → Int)) => z = abv w (ef oft la) b mo nn ml x ∧ FRM d u 607) (fun (u : (Int → Int)) => [(hm, oB 8 [.ref m0, vI un, .ref m2, .ref m3, vI mo, vI oft, vI la, vI du, .ref m8, .ref m9, vI to, .ref m11, .ref m12, vJ tr, .ref m14, vI n, vI at0, vI sa, vI vv, .ref m19, vI rdu, .ref m21, .ref m22, vI se, vI its, .ref m25, .ref m26, vJ lt0]), (m0, aJ ca 7284 u), (m3, aI ca 5 w)]) 0 0 := by
  refine zm_I (cc := cX8_above) (maxL := 2) (ret := some .int) (by decide) rfl (Nat.le_of_ble_eq_true rfl) ?_
  intro p e s m below meth c A ls R args Q hR hargs hQ hx hb hml hr hts hown hlk hnm hK hP hD hA hS hl
  have hown : s.vm.findClass RX8 = some m.cls := hown
  have hl : lv_has ls 2 [(0, .ref hm), (1, vI x)] := hl
  have lk_c195 : (Cond.constantLong RX8 195 (1000000000)).before args s = true := hts _ (by decide +kernel)
  have lk_f7 : (Cond.fieldLink RX8 7 "DripRingsModel" "d" "[J").before args s = true := hts _ (by decide +kernel)
  have inF_X8 : ∀ w ∈ wsX80, w ∈ wsX8_above := by decide +kernel
  have lk_c170 : (Cond.constantLong RX8 170 (120)).before args s = true := hts _ (by decide +kernel)
  have hn0 := hB.1
  obtain ⟨hlm1, hlm2⟩ := hLM
  refine lv_iload_n hx hb dX8_above_0 rfl (lv_at hl 1 rfl) ?_
  refine ri_l hx hb dX8_above_1 hx0 ?_
  refine lv_lconst (v := Int64.ofInt 0) hx hb dX8_above_2 (by decide) ?_
  refine rj_ldc (z := 1000000000) hx hb hown lk_c195 dX8_above_3 (by decide) ?_
  refine zc_SI (As := [vJ x, vJ 0, vJ 1000000000]) (rest := []) (wc := []) (wr := [(hm, oB 8 [.ref m0, vI un, .ref m2, .ref m3, vI mo, vI oft, vI la, vI du, .ref m8, .ref m9, vI to, .ref m11, .ref m12, vJ tr, .ref m14, vI n, vI at0, vI sa, vI vv, .ref m19, vI rdu, .ref m21, .ref m22, vI se, vI its, .ref m25, .ref m26, vJ lt0]), (m0, aJ ca 7284 d), (m3, aI ca 5 w)]) (k_X8_in l g ca x 0 1000000000 (by exact ⟨by omega, by omega⟩) (by exact ⟨by omega, by omega⟩) (by exact ⟨by omega, by omega⟩)) dX8_above_6 (va_cwS 3 hts gX8_above_X8_in rfl rfl rfl (by decide +kernel) (by rw [hR]; exact ⟨Nat.le_of_ble_eq_true rfl, Nat.le_of_ble_eq_true rfl⟩)) ⟨hx, hb, hml, hown, hts⟩ hl.1 hK hP hD hS hA [] [0, 1, 2] rfl (by decide) rfl (by decide) (by decide) rfl rfl (Nat.le_of_ble_eq_true rfl) (by rw [hR]; exact ⟨Nat.le_of_ble_eq_true rfl, Nat.le_of_ble_eq_true rfl⟩) (fun z6 u H locs q6 hP hD hS => ?_)
  have q6 : (z6 = 1 ∧ 0 ≤ x ∧ x ≤ 1000000000) ∨ (z6 = 0 ∧ ¬ (0 ≤ x ∧ x ≤ 1000000000)) := q6
  have hP : va_P g vwCl [(hm, oB 8 [.ref m0, vI un, .ref m2, .ref m3, vI mo, vI oft, vI la, vI du, .ref m8, .ref m9, vI to, .ref m11, .ref m12, vJ tr, .ref m14, vI n, vI at0, vI sa, vI vv, .ref m19, vI rdu, .ref m21, .ref m22, vI se, vI its, .ref m25, .ref m26, vJ lt0]), (m0, aJ ca 7284 d), (m3, aI ca 5 w)] H := hP.sub [0, 1, 2] rfl
  have hD : va_D A [(hm, oB 8 [.ref m0, vI un, .ref m2, .ref m3, vI mo, vI oft, vI la, vI du, .ref m8, .ref m9, vI to, .ref m11, .ref m12, vJ tr, .ref m14, vI n, vI at0, vI sa, vI vv, .ref m19, vI rdu, .ref m21, .ref m22, vI se, vI its, .ref m25, .ref m26, vJ lt0]), (m0, aJ ca 7284 d), (m3, aI ca 5 w)] := hD.sub [0, 1, 2] (by decide) rfl
  refine ri_if_ne (tgt := 14) hx hb dX8_above_9 (by decide) ⟨by omega, by omega⟩ (fun c9 => ?_) (fun c9 => ?_)
  · skip
    refine lv_aload_n hx hb dX8_above_14 rfl (lv_at hl 0 rfl) ?_
    refine lv_iconst (v := Int32.ofInt 0) hx hb dX8_above_15 rfl ?_
    refine lv_sipush (v := Int32.ofInt 607) hx hb dX8_above_16 (by decide) ?_
    refine zc_VV (As := [vI 0, vI 607]) (rest := []) (wc := [(hm, oB 8 [.ref m0, vI un, .ref m2, .ref m3, vI mo, vI oft, vI la, vI du, .ref m8, .ref m9, vI to, .ref m11, .ref m12, vJ tr, .ref m14, vI n, vI at0, vI sa, vI vv, .ref m19, vI rdu, .ref m21, .ref m22, vI se, vI its, .ref m25, .ref m26, vJ lt0]), (m0, aJ ca 7284 d)]) (wr := [(m3, aI ca 5 w)]) (k_X8_copy l g ca hm m0 m2 m3 m8 m9 m11 m12 m14 m19 m21 m22 m25 m26 un mo oft la du to tr n at0 sa vv rdu se its lt0 d 0 607 (by first | assumption | omega)) dX8_above_19 (cwV 2 hts gX8_above_X8_copy rfl rfl rfl (by decide +kernel) (by rw [hR]; exact ⟨Nat.le_of_ble_eq_true rfl, Nat.le_of_ble_eq_true rfl⟩)) ⟨hx, hb, hml, hown, hts⟩ hl.1 hK hP hD hS hA 0 rfl rfl rfl [0, 1] [2] rfl (by decide) rfl (by decide) (by decide) rfl rfl (Nat.le_of_ble_eq_true rfl) (by rw [hR]; exact ⟨Nat.le_of_ble_eq_true rfl, Nat.le_of_ble_eq_true rfl⟩) (fun u H locs q19 hP hD hS => ?_)
    obtain ⟨d1_19, rfl⟩ : ∃ q, q = u := ⟨_, rfl⟩
    have q19 : (∀ j : Int, d1_19 j = if 607 ≤ j ∧ j < 607 + 607 then d (0 + (j - 607)) else d j) := q19
    have hP : va_P g vwCl [(hm, oB 8 [.ref m0, vI un, .ref m2, .ref m3, vI mo, vI oft, vI la, vI du, .ref m8, .ref m9, vI to, .ref m11, .ref m12, vJ tr, .ref m14, vI n, vI at0, vI sa, vI vv, .ref m19, vI rdu, .ref m21, .ref m22, vI se, vI its, .ref m25, .ref m26, vJ lt0]), (m0, aJ ca 7284 d1_19), (m3, aI ca 5 w)] H := hP.sub [1, 2, 0] rfl
    have hD : va_D A [(hm, oB 8 [.ref m0, vI un, .ref m2, .ref m3, vI mo, vI oft, vI la, vI du, .ref m8, .ref m9, vI to, .ref m11, .ref m12, vJ tr, .ref m14, vI n, vI at0, vI sa, vI vv, .ref m19, vI rdu, .ref m21, .ref m22, vI se, vI its, .ref m25, .ref m26, vJ lt0]), (m0, aJ ca 7284 d1_19), (m3, aI ca 5 w)] := hD.sub [1, 2, 0] (by decide) rfl
    have L22 : ∀ (N22 : Nat) (i : Int) (bi : Int → Int) (f : Int → Int) (k : Nat) (hi : 0 ≤ i ∧ i + k = 121 ∧ i ≤ 120) (hf : AT f 607 bi i ml) (hfr : FRM d f 607) (hBi : GB bi i) (hv : abf w (ef oft la) mo ml x k i bi = abf w (ef oft la) mo ml x (121 - nn).toNat nn b) (hμ : k < N22) (H : Heap) (locs : List Loc) (hP : va_P g vwCl [(hm, oB 8 [.ref m0, vI un, .ref m2, .ref m3, vI mo, vI oft, vI la, vI du, .ref m8, .ref m9, vI to, .ref m11, .ref m12, vJ tr, .ref m14, vI n, vI at0, vI sa, vI vv, .ref m19, vI rdu, .ref m21, .ref m22, vI se, vI its, .ref m25, .ref m26, vJ lt0]), (m0, aJ ca 7284 f), (m3, aI ca 5 w)] H) (hD : va_D A [(hm, oB 8 [.ref m0, vI un, .ref m2, .ref m3, vI mo, vI oft, vI la, vI du, .ref m8, .ref m9, vI to, .ref m11, .ref m12, vJ tr, .ref m14, vI n, vI at0, vI sa, vI vv, .ref m19, vI rdu, .ref m21, .ref m22, vI se, vI its, .ref m25, .ref m26, vJ lt0]), (m0, aJ ca 7284 f), (m3, aI ca 5 w)]) (hS : va_S A s.heap H locs) (ls : Array Slot) (hl : lv_has ls 2 [(0, .ref hm), (1, vI x)]), W p l e R s m args below meth c H locs 0 0 Q (F0 m 22 ls []) := by
      intro N22; induction N22 with
      | zero => intro i bi f k hi hf hfr hBi hv hμ; exact absurd hμ (Nat.not_lt_zero _)
      | succ N22 ih22 =>
        intro i bi f k hi hf hfr hBi hv hμ H locs hP hD hS ls hl
        refine lv_aload_n hx hb dX8_above_22 rfl (lv_at hl 0 rfl) ?_
        refine lv_sipush (v := Int32.ofInt 607) hx hb dX8_above_23 (by decide) ?_
        refine zc_VJ (As := [vI 607]) (rest := []) (wc := [(hm, oB 8 [.ref m0, vI un, .ref m2, .ref m3, vI mo, vI oft, vI la, vI du, .ref m8, .ref m9, vI to, .ref m11, .ref m12, vJ tr, .ref m14, vI n, vI at0, vI sa, vI vv, .ref m19, vI rdu, .ref m21, .ref m22, vI se, vI its, .ref m25, .ref m26, vJ lt0]), (m0, aJ ca 7284 f), (m3, aI ca 5 w)]) (wr := []) (k_X8_weighs l g ca hm m0 m2 m3 m8 m9 m11 m12 m14 m19 m21 m22 m25 m26 un mo oft la du to tr n at0 sa vv rdu se its lt0 f w 607 bi i ml (by first | assumption | omega) (by exact hf) (by exact hBi) (by first | assumption | omega)) dX8_above_26 (cwV 1 hts gX8_above_X8_weighs rfl rfl rfl (by decide +kernel) (by rw [hR]; exact ⟨Nat.le_of_ble_eq_true rfl, Nat.le_of_ble_eq_true rfl⟩)) ⟨hx, hb, hml, hown, hts⟩ hl.1 hK hP hD hS hA 0 rfl rfl rfl [0, 1, 2] [] rfl (by decide) rfl (by decide) (by decide) rfl rfl (Nat.le_of_ble_eq_true rfl) (by rw [hR]; exact ⟨Nat.le_of_ble_eq_true rfl, Nat.le_of_ble_eq_true rfl⟩) (fun z26 u H locs q26 hP hD hS => ?_)
        have q26 : z26 = wgt bi w i + ml := q26
        have hP : va_P g vwCl [(hm, oB 8 [.ref m0, vI un, .ref m2, .ref m3, vI mo, vI oft, vI la, vI du, .ref m8, .ref m9, vI to, .ref m11, .ref m12, vJ tr, .ref m14, vI n, vI at0, vI sa, vI vv, .ref m19, vI rdu, .ref m21, .ref m22, vI se, vI its, .ref m25, .ref m26, vJ lt0]), (m0, aJ ca 7284 f), (m3, aI ca 5 w)] H := hP.sub [0, 1, 2] rfl
        have hD : va_D A [(hm, oB 8 [.ref m0, vI un, .ref m2, .ref m3, vI mo, vI oft, vI la, vI du, .ref m8, .ref m9, vI to, .ref m11, .ref m12, vJ tr, .ref m14, vI n, vI at0, vI sa, vI vv, .ref m19, vI rdu, .ref m21, .ref m22, vI se, vI its, .ref m25, .ref m26, vJ lt0]), (m0, aJ ca 7284 f), (m3, aI ca 5 w)] := hD.sub [0, 1, 2] (by decide) rfl
        have hw29 := wgt_bd hBi hW
        have hf1213 : f 1213 = i := by have := hf.2.2; rw [show (607 : Int) + 606 = 1213 from rfl] at this; exact this
        obtain ⟨k1, rfl⟩ : ∃ q, k = q + 1 := ⟨k - 1, by omega⟩
        refine lv_iload_n hx hb dX8_above_29 rfl (lv_at hl 1 rfl) ?_
        refine ri_l hx hb dX8_above_30 hx0 ?_
        refine rj_cmp hx hb dX8_above_31 ⟨by omega, by omega⟩ ⟨by omega, by omega⟩ (fun z31 e31 => ?_)
        refine ri_if_gt (tgt := 64) hx hb dX8_above_32 (by decide) ⟨by omega, by omega⟩ (fun c32 => ?_) (fun c32 => ?_)
        · skip
          have c32 : x < z26 := by omega
          clear e31
          refine lv_aload_n hx hb dX8_above_64 rfl (lv_at hl 0 rfl) ?_
          refine va_get (D := g) (ci := 8) (v := .ref m0) (C := RX8) (T := TX8) (N := 28) hx hb hts inF_X8 hown hK.1 hP 0 rfl rfl 0 (by decide) lk_f7 (fun _ h9 => h9) rfl dX8_above_65 ?_
          refine lv_sipush (v := Int32.ofInt 1213) hx hb dX8_above_68 (by decide) ?_
          refine ra_lld hx hb hK hP 1 rfl dX8_above_71 ⟨by omega, by omega⟩ (by omega) ?_
          refine rj_i hx hb dX8_above_72 ⟨by omega, by omega⟩ ?_
          refine zr_I hx hb hr hlk hQ (f) hP hD hS dX8_above_73 (Nat.le_of_ble_eq_true rfl) (Nat.le_of_ble_eq_true rfl) ?_
          show (f 1213) = abv w (ef oft la) b mo nn ml x ∧ FRM d f 607
          unfold abv
          first
          | exact ⟨by rw [if_neg (fun q => by omega)], FRM_rf⟩
          | (refine ⟨?_, hfr⟩
             rw [if_pos (by omega), ← hv]
             first
             | (rw [abf_y (by omega)]; omega)
             | (rw [abf_n (by omega), show k1 = 0 by omega]; rfl))
        · skip
          have c32 : z26 ≤ x := by omega
          clear e31
          refine lv_aload_n hx hb dX8_above_35 rfl (lv_at hl 0 rfl) ?_
          refine va_get (D := g) (ci := 8) (v := .ref m0) (C := RX8) (T := TX8) (N := 28) hx hb hts inF_X8 hown hK.1 hP 0 rfl rfl 0 (by decide) lk_f7 (fun _ h9 => h9) rfl dX8_above_36 ?_
          refine lv_sipush (v := Int32.ofInt 1213) hx hb dX8_above_39 (by decide) ?_
          refine ra_lld hx hb hK hP 1 rfl dX8_above_42 ⟨by omega, by omega⟩ (by omega) ?_
          refine rj_ldc (z := 120) hx hb hown lk_c170 dX8_above_43 (by decide) ?_
          refine rj_cmp hx hb dX8_above_46 ⟨by omega, by omega⟩ ⟨by omega, by omega⟩ (fun z46 e46 => ?_)
          refine ri_if_ne (tgt := 53) hx hb dX8_above_47 (by decide) ⟨by omega, by omega⟩ (fun c47 => ?_) (fun c47 => ?_)
          · skip
            have c47 : ¬ (f 1213) = 120 := by omega
            clear e46
            refine lv_aload_n hx hb dX8_above_53 rfl (lv_at hl 0 rfl) ?_
            refine lv_sipush (v := Int32.ofInt 607) hx hb dX8_above_54 (by decide) ?_
            refine zc_VJ (As := [vI 607]) (rest := []) (wc := [(hm, oB 8 [.ref m0, vI un, .ref m2, .ref m3, vI mo, vI oft, vI la, vI du, .ref m8, .ref m9, vI to, .ref m11, .ref m12, vJ tr, .ref m14, vI n, vI at0, vI sa, vI vv, .ref m19, vI rdu, .ref m21, .ref m22, vI se, vI its, .ref m25, .ref m26, vJ lt0]), (m0, aJ ca 7284 f), (m3, aI ca 5 w)]) (wr := []) (k_X8_goes l g ca hm m0 m2 m3 m8 m9 m11 m12 m14 m19 m21 m22 m25 m26 un mo oft la du to tr n at0 sa vv rdu se its lt0 f w 607 bi i ml (by first | assumption | omega) (by exact hf) (by exact hBi) (by first | assumption | omega) (by first | assumption | omega) (by first | assumption | omega) (by first | assumption | omega)) dX8_above_57 (cwV 1 hts gX8_above_X8_goes rfl rfl rfl (by decide +kernel) (by rw [hR]; exact ⟨Nat.le_of_ble_eq_true rfl, Nat.le_of_ble_eq_true rfl⟩)) ⟨hx, hb, hml, hown, hts⟩ hl.1 hK hP hD hS hA 0 rfl rfl rfl [0, 1, 2] [] rfl (by decide) rfl (by decide) (by decide) rfl rfl (Nat.le_of_ble_eq_true rfl) (by rw [hR]; exact ⟨Nat.le_of_ble_eq_true rfl, Nat.le_of_ble_eq_true rfl⟩) (fun z57 u H locs q57 hP hD hS => ?_)
            obtain ⟨d1_57, rfl⟩ : ∃ q, q = u := ⟨_, rfl⟩
            have q57 : AT d1_57 607 (gs w (ef oft la) mo (i + 1) bi 4).1 (i + 1) ml ∧ FRM f d1_57 607 ∧ z57 = (gs w (ef oft la) mo (i + 1) bi 4).2 := q57
            obtain ⟨q57_0, q57_1, q57_2⟩ := q57
            have hP : va_P g vwCl [(hm, oB 8 [.ref m0, vI un, .ref m2, .ref m3, vI mo, vI oft, vI la, vI du, .ref m8, .ref m9, vI to, .ref m11, .ref m12, vJ tr, .ref m14, vI n, vI at0, vI sa, vI vv, .ref m19, vI rdu, .ref m21, .ref m22, vI se, vI its, .ref m25, .ref m26, vJ lt0]), (m0, aJ ca 7284 d1_57), (m3, aI ca 5 w)] H := hP.sub [0, 1, 2] rfl
            have hD : va_D A [(hm, oB 8 [.ref m0, vI un, .ref m2, .ref m3, vI mo, vI oft, vI la, vI du, .ref m8, .ref m9, vI to, .ref m11, .ref m12, vJ tr, .ref m14, vI n, vI at0, vI sa, vI vv, .ref m19, vI rdu, .ref m21, .ref m22, vI se, vI its, .ref m25, .ref m26, vJ lt0]), (m0, aJ ca 7284 d1_57), (m3, aI ca 5 w)] := hD.sub [0, 1, 2] (by decide) rfl
            refine lv_pop2_2 hx hb dX8_above_60 rfl ?_
            refine lv_goto (tgt := 22) hx hb dX8_above_61 (by decide) ?_
            exact ih22 (i + 1) ((gs w (ef oft la) mo (i + 1) bi 4).1) d1_57 k1 (by first | assumption | omega) (by exact q57_0) (by exact FRM_tr hfr q57_1) (by exact GB_gs hE hM (GB_up hBi (by omega)) 4 (by omega)) (by rw [← hv, abf_n (by omega)]) (by omega) _ _ hP hD hS ls (lv_sub hl [0, 1] rfl)
          · skip
            have c47 : (f 1213) = 120 := by omega
            clear e46
            refine lv_bipush (v := Int32.ofInt (-9)) hx hb dX8_above_50 (by decide) ?_
            refine zr_I hx hb hr hlk hQ (f) hP hD hS dX8_above_52 (Nat.le_of_ble_eq_true rfl) (Nat.le_of_ble_eq_true rfl) ?_
            show (-9) = abv w (ef oft la) b mo nn ml x ∧ FRM d f 607
            unfold abv
            first
            | exact ⟨by rw [if_neg (fun q => by omega)], FRM_rf⟩
            | (refine ⟨?_, hfr⟩
               rw [if_pos (by omega), ← hv]
               first
               | (rw [abf_y (by omega)]; omega)
               | (rw [abf_n (by omega), show k1 = 0 by omega]; rfl))
    exact L22 _ nn b d1_19 ((121 - nn).toNat) (by first | assumption | omega) (by exact (CPY q19 hAT).1) (by exact (CPY q19 hAT).2) (by exact hB) (by rfl) (Nat.lt_succ_self _) _ _ hP hD hS ls (lv_sub hl [0, 1] rfl)
  · skip
    refine lv_iconst (v := Int32.ofInt (-1)) hx hb dX8_above_12 rfl ?_
    refine zr_I hx hb hr hlk hQ (d) hP hD hS dX8_above_13 (Nat.le_of_ble_eq_true rfl) (Nat.le_of_ble_eq_true rfl) ?_
    show (-1) = abv w (ef oft la) b mo nn ml x ∧ FRM d d 607
    unfold abv
    first
    | exact ⟨by rw [if_neg (fun q => by omega)], FRM_rf⟩
    | (refine ⟨?_, hfr⟩
       rw [if_pos (by omega), ← hv]
       first
       | (rw [abf_y (by omega)]; omega)
       | (rw [abf_n (by omega), show k1 = 0 by omega]; rfl))
set_option maxHeartbeats 4000000 in
set_option maxRecDepth 100000 in
theorem k_X8_first (l : Launch) (g : va_G) (ca : Nat → ClassId) (hm : Nat) (m0 : Nat) (m2 : Nat) (m3 : Nat) (m8 : Nat) (m9 : Nat) (m11 : Nat) (m12 : Nat) (m14 : Nat) (m19 : Nat) (m21 : Nat) (m22 : Nat) (m25 : Nat) (m26 : Nat) (un : Int) (mo : Int) (oft : Int) (la : Int) (du : Int) (to : Int) (tr : Int) (n : Int) (at0 : Int) (sa : Int) (vv : Int) (rdu : Int) (se : Int) (its : Int) (lt0 : Int) (d : Int → Int) (w : Int → Int) (o : Int) (x : Int) (hW : GW w) (hE : EAok (ef oft la)) (hM : 1 ≤ mo ∧ mo ≤ 9) (hx0 : in32 o) (hx1 : in32 x) : zI (S := (Int → Int)) l yX8_first wsX8_first ({ frames := 3, cells := 0, slots := 0, locals := 67 } : Room) g ca [.ref hm, vI o, vI x] [(hm, oB 8 [.ref m0, vI un, .ref m2, .ref m3, vI mo, vI oft, vI la, vI du, .ref m8, .ref m9, vI to, .ref m11, .ref m12, vJ tr, .ref m14, vI n, vI at0, vI sa, vI vv, .ref m19, vI rdu, .ref m21, .ref m22, vI se, vI its, .ref m25, .ref m26, vJ lt0]), (m0, aJ ca 7284 d), (m3, aI ca 5 w)] (fun (z : Int) (u : (Int → Int)) => z = fsv w (ef oft la) mo o x ∧ FRM d u 607) (fun (u : (Int → Int)) => [(hm, oB 8 [.ref m0, vI un, .ref m2, .ref m3, vI mo, vI oft, vI la, vI du, .ref m8, .ref m9, vI to, .ref m11, .ref m12, vJ tr, .ref m14, vI n, vI at0, vI sa, vI vv, .ref m19, vI rdu, .ref m21, .ref m22, vI se, vI its, .ref m25, .ref m26, vJ lt0]), (m0, aJ ca 7284 u), (m3, aI ca 5 w)]) 0 0 := by
  refine zm_I (cc := cX8_first) (maxL := 3) (ret := some .int) (by decide) rfl (Nat.le_of_ble_eq_true rfl) ?_
  intro p e s m below meth c A ls R args Q hR hargs hQ hx hb hml hr hts hown hlk hnm hK hP hD hA hS hl
  have hown : s.vm.findClass RX8 = some m.cls := hown
  have hl : lv_has ls 3 [(0, .ref hm), (1, vI o), (2, vI x)] := hl
  have lk_f7 : (Cond.fieldLink RX8 7 "DripRingsModel" "d" "[J").before args s = true := hts _ (by decide +kernel)
  have inF_X8 : ∀ w ∈ wsX80, w ∈ wsX8_first := by decide +kernel
  have lk_c170 : (Cond.constantLong RX8 170 (120)).before args s = true := hts _ (by decide +kernel)
  refine lv_aload_n hx hb dX8_first_0 rfl (lv_at hl 0 rfl) ?_
  refine lv_iload_n hx hb dX8_first_1 rfl (lv_at hl 1 rfl) ?_
  refine lv_iload_n hx hb dX8_first_2 rfl (lv_at hl 2 rfl) ?_
  refine zc_VI (As := [vI o, vI x]) (rest := []) (wc := [(hm, oB 8 [.ref m0, vI un, .ref m2, .ref m3, vI mo, vI oft, vI la, vI du, .ref m8, .ref m9, vI to, .ref m11, .ref m12, vJ tr, .ref m14, vI n, vI at0, vI sa, vI vv, .ref m19, vI rdu, .ref m21, .ref m22, vI se, vI its, .ref m25, .ref m26, vJ lt0])]) (wr := [(m0, aJ ca 7284 d), (m3, aI ca 5 w)]) (k_X8_areMany l g ca hm m0 m2 m3 m8 m9 m11 m12 m14 m19 m21 m22 m25 m26 un mo oft la du to tr n at0 sa vv rdu se its lt0 o x (by exact hx0) (by exact hx1)) dX8_first_3 (cwV 2 hts gX8_first_X8_areMany rfl rfl rfl (by decide +kernel) (by rw [hR]; exact ⟨Nat.le_of_ble_eq_true rfl, Nat.le_of_ble_eq_true rfl⟩)) ⟨hx, hb, hml, hown, hts⟩ hl.1 hK hP hD hS hA 0 rfl rfl rfl [0] [1, 2] rfl (by decide) rfl (by decide) (by decide) rfl rfl (Nat.le_of_ble_eq_true rfl) (by rw [hR]; exact ⟨Nat.le_of_ble_eq_true rfl, Nat.le_of_ble_eq_true rfl⟩) (fun z3 u H locs q3 hP hD hS => ?_)
  have q3 : (z3 = 1 ∧ (0 ≤ o ∧ o ≤ 4) ∧ 1 ≤ x ∧ x ≤ 1000000) ∨ (z3 = 0 ∧ ¬ ((0 ≤ o ∧ o ≤ 4) ∧ 1 ≤ x ∧ x ≤ 1000000)) := q3
  have hP : va_P g vwCl [(hm, oB 8 [.ref m0, vI un, .ref m2, .ref m3, vI mo, vI oft, vI la, vI du, .ref m8, .ref m9, vI to, .ref m11, .ref m12, vJ tr, .ref m14, vI n, vI at0, vI sa, vI vv, .ref m19, vI rdu, .ref m21, .ref m22, vI se, vI its, .ref m25, .ref m26, vJ lt0]), (m0, aJ ca 7284 d), (m3, aI ca 5 w)] H := hP.sub [2, 0, 1] rfl
  have hD : va_D A [(hm, oB 8 [.ref m0, vI un, .ref m2, .ref m3, vI mo, vI oft, vI la, vI du, .ref m8, .ref m9, vI to, .ref m11, .ref m12, vJ tr, .ref m14, vI n, vI at0, vI sa, vI vv, .ref m19, vI rdu, .ref m21, .ref m22, vI se, vI its, .ref m25, .ref m26, vJ lt0]), (m0, aJ ca 7284 d), (m3, aI ca 5 w)] := hD.sub [2, 0, 1] (by decide) rfl
  refine ri_if_ne (tgt := 11) hx hb dX8_first_6 (by decide) ⟨by omega, by omega⟩ (fun c6 => ?_) (fun c6 => ?_)
  · skip
    refine lv_aload_n hx hb dX8_first_11 rfl (lv_at hl 0 rfl) ?_
    refine lv_sipush (v := Int32.ofInt 607) hx hb dX8_first_12 (by decide) ?_
    refine zc_VV (As := [vI 607]) (rest := []) (wc := [(hm, oB 8 [.ref m0, vI un, .ref m2, .ref m3, vI mo, vI oft, vI la, vI du, .ref m8, .ref m9, vI to, .ref m11, .ref m12, vJ tr, .ref m14, vI n, vI at0, vI sa, vI vv, .ref m19, vI rdu, .ref m21, .ref m22, vI se, vI its, .ref m25, .ref m26, vJ lt0]), (m0, aJ ca 7284 d)]) (wr := [(m3, aI ca 5 w)]) (k_X8_begins l g ca hm m0 m2 m3 m8 m9 m11 m12 m14 m19 m21 m22 m25 m26 un mo oft la du to tr n at0 sa vv rdu se its lt0 d 607 (by first | assumption | omega)) dX8_first_15 (cwV 1 hts gX8_first_X8_begins rfl rfl rfl (by decide +kernel) (by rw [hR]; exact ⟨Nat.le_of_ble_eq_true rfl, Nat.le_of_ble_eq_true rfl⟩)) ⟨hx, hb, hml, hown, hts⟩ hl.1 hK hP hD hS hA 0 rfl rfl rfl [0, 1] [2] rfl (by decide) rfl (by decide) (by decide) rfl rfl (Nat.le_of_ble_eq_true rfl) (by rw [hR]; exact ⟨Nat.le_of_ble_eq_true rfl, Nat.le_of_ble_eq_true rfl⟩) (fun u H locs q15 hP hD hS => ?_)
    obtain ⟨d1_15, rfl⟩ : ∃ q, q = u := ⟨_, rfl⟩
    have q15 : AT d1_15 607 bg 0 0 ∧ FRM d d1_15 607 := q15
    obtain ⟨q15_0, q15_1⟩ := q15
    have hP : va_P g vwCl [(hm, oB 8 [.ref m0, vI un, .ref m2, .ref m3, vI mo, vI oft, vI la, vI du, .ref m8, .ref m9, vI to, .ref m11, .ref m12, vJ tr, .ref m14, vI n, vI at0, vI sa, vI vv, .ref m19, vI rdu, .ref m21, .ref m22, vI se, vI its, .ref m25, .ref m26, vJ lt0]), (m0, aJ ca 7284 d1_15), (m3, aI ca 5 w)] H := hP.sub [1, 2, 0] rfl
    have hD : va_D A [(hm, oB 8 [.ref m0, vI un, .ref m2, .ref m3, vI mo, vI oft, vI la, vI du, .ref m8, .ref m9, vI to, .ref m11, .ref m12, vJ tr, .ref m14, vI n, vI at0, vI sa, vI vv, .ref m19, vI rdu, .ref m21, .ref m22, vI se, vI its, .ref m25, .ref m26, vJ lt0]), (m0, aJ ca 7284 d1_15), (m3, aI ca 5 w)] := hD.sub [1, 2, 0] (by decide) rfl
    have L18 : ∀ (N18 : Nat) (i : Int) (bi : Int → Int) (f : Int → Int) (k : Nat) (hi : 0 ≤ i ∧ i + k = 121 ∧ i ≤ 120) (hf : AT f 607 bi i 0) (hfr : FRM d f 607) (hBi : GB bi i) (hv : fsf w (ef oft la) mo o x k i bi = fsf w (ef oft la) mo o x 121 0 bg) (hμ : k < N18) (H : Heap) (locs : List Loc) (hP : va_P g vwCl [(hm, oB 8 [.ref m0, vI un, .ref m2, .ref m3, vI mo, vI oft, vI la, vI du, .ref m8, .ref m9, vI to, .ref m11, .ref m12, vJ tr, .ref m14, vI n, vI at0, vI sa, vI vv, .ref m19, vI rdu, .ref m21, .ref m22, vI se, vI its, .ref m25, .ref m26, vJ lt0]), (m0, aJ ca 7284 f), (m3, aI ca 5 w)] H) (hD : va_D A [(hm, oB 8 [.ref m0, vI un, .ref m2, .ref m3, vI mo, vI oft, vI la, vI du, .ref m8, .ref m9, vI to, .ref m11, .ref m12, vJ tr, .ref m14, vI n, vI at0, vI sa, vI vv, .ref m19, vI rdu, .ref m21, .ref m22, vI se, vI its, .ref m25, .ref m26, vJ lt0]), (m0, aJ ca 7284 f), (m3, aI ca 5 w)]) (hS : va_S A s.heap H locs) (ls : Array Slot) (hl : lv_has ls 3 [(0, .ref hm), (1, vI o), (2, vI x)]), W p l e R s m args below meth c H locs 0 0 Q (F0 m 18 ls []) := by
      intro N18; induction N18 with
      | zero => intro i bi f k hi hf hfr hBi hv hμ; exact absurd hμ (Nat.not_lt_zero _)
      | succ N18 ih18 =>
        intro i bi f k hi hf hfr hBi hv hμ H locs hP hD hS ls hl
        refine lv_aload_n hx hb dX8_first_18 rfl (lv_at hl 0 rfl) ?_
        refine lv_sipush (v := Int32.ofInt 607) hx hb dX8_first_19 (by decide) ?_
        refine lv_iload_n hx hb dX8_first_22 rfl (lv_at hl 1 rfl) ?_
        refine zc_VJ (As := [vI 607, vI o]) (rest := []) (wc := [(hm, oB 8 [.ref m0, vI un, .ref m2, .ref m3, vI mo, vI oft, vI la, vI du, .ref m8, .ref m9, vI to, .ref m11, .ref m12, vJ tr, .ref m14, vI n, vI at0, vI sa, vI vv, .ref m19, vI rdu, .ref m21, .ref m22, vI se, vI its, .ref m25, .ref m26, vJ lt0]), (m0, aJ ca 7284 f)]) (wr := [(m3, aI ca 5 w)]) (k_X8_manyOf l g ca hm m0 m2 m3 m8 m9 m11 m12 m14 m19 m21 m22 m25 m26 un mo oft la du to tr n at0 sa vv rdu se its lt0 f 607 o bi i 0 (by first | assumption | omega) (by first | assumption | omega) (by exact hf) (by exact hBi)) dX8_first_23 (cwV 2 hts gX8_first_X8_manyOf rfl rfl rfl (by decide +kernel) (by rw [hR]; exact ⟨Nat.le_of_ble_eq_true rfl, Nat.le_of_ble_eq_true rfl⟩)) ⟨hx, hb, hml, hown, hts⟩ hl.1 hK hP hD hS hA 0 rfl rfl rfl [0, 1] [2] rfl (by decide) rfl (by decide) (by decide) rfl rfl (Nat.le_of_ble_eq_true rfl) (by rw [hR]; exact ⟨Nat.le_of_ble_eq_true rfl, Nat.le_of_ble_eq_true rfl⟩) (fun z23 u H locs q23 hP hD hS => ?_)
        have q23 : z23 = cnt bi i o := q23
        have hP : va_P g vwCl [(hm, oB 8 [.ref m0, vI un, .ref m2, .ref m3, vI mo, vI oft, vI la, vI du, .ref m8, .ref m9, vI to, .ref m11, .ref m12, vJ tr, .ref m14, vI n, vI at0, vI sa, vI vv, .ref m19, vI rdu, .ref m21, .ref m22, vI se, vI its, .ref m25, .ref m26, vJ lt0]), (m0, aJ ca 7284 f), (m3, aI ca 5 w)] H := hP.sub [1, 2, 0] rfl
        have hD : va_D A [(hm, oB 8 [.ref m0, vI un, .ref m2, .ref m3, vI mo, vI oft, vI la, vI du, .ref m8, .ref m9, vI to, .ref m11, .ref m12, vJ tr, .ref m14, vI n, vI at0, vI sa, vI vv, .ref m19, vI rdu, .ref m21, .ref m22, vI se, vI its, .ref m25, .ref m26, vJ lt0]), (m0, aJ ca 7284 f), (m3, aI ca 5 w)] := hD.sub [1, 2, 0] (by decide) rfl
        have hc26 := cnt_bd hBi (o := o) (by omega) (by omega)
        have hf1213 : f 1213 = i := by have := hf.2.2; rw [show (607 : Int) + 606 = 1213 from rfl] at this; exact this
        obtain ⟨k1, rfl⟩ : ∃ q, k = q + 1 := ⟨k - 1, by omega⟩
        refine lv_iload_n hx hb dX8_first_26 rfl (lv_at hl 2 rfl) ?_
        refine ri_l hx hb dX8_first_27 hx1 ?_
        refine rj_cmp hx hb dX8_first_28 ⟨by omega, by omega⟩ ⟨by omega, by omega⟩ (fun z28 e28 => ?_)
        refine ri_if_ge (tgt := 61) hx hb dX8_first_29 (by decide) ⟨by omega, by omega⟩ (fun c29 => ?_) (fun c29 => ?_)
        · skip
          have c29 : x ≤ z23 := by omega
          clear e28
          refine lv_aload_n hx hb dX8_first_61 rfl (lv_at hl 0 rfl) ?_
          refine va_get (D := g) (ci := 8) (v := .ref m0) (C := RX8) (T := TX8) (N := 28) hx hb hts inF_X8 hown hK.1 hP 0 rfl rfl 0 (by decide) lk_f7 (fun _ h9 => h9) rfl dX8_first_62 ?_
          refine lv_sipush (v := Int32.ofInt 1213) hx hb dX8_first_65 (by decide) ?_
          refine ra_lld hx hb hK hP 1 rfl dX8_first_68 ⟨by omega, by omega⟩ (by omega) ?_
          refine rj_i hx hb dX8_first_69 ⟨by omega, by omega⟩ ?_
          refine zr_I hx hb hr hlk hQ (f) hP hD hS dX8_first_70 (Nat.le_of_ble_eq_true rfl) (Nat.le_of_ble_eq_true rfl) ?_
          show (f 1213) = fsv w (ef oft la) mo o x ∧ FRM d f 607
          unfold fsv
          first
          | exact ⟨by rw [if_neg (fun q => by omega)], FRM_rf⟩
          | (refine ⟨?_, hfr⟩
             rw [if_pos (by omega), ← hv]
             first
             | (rw [fsf_y (by omega)]; omega)
             | (rw [fsf_n (by omega), show k1 = 0 by omega]; rfl))
        · skip
          have c29 : z23 < x := by omega
          clear e28
          refine lv_aload_n hx hb dX8_first_32 rfl (lv_at hl 0 rfl) ?_
          refine va_get (D := g) (ci := 8) (v := .ref m0) (C := RX8) (T := TX8) (N := 28) hx hb hts inF_X8 hown hK.1 hP 0 rfl rfl 0 (by decide) lk_f7 (fun _ h9 => h9) rfl dX8_first_33 ?_
          refine lv_sipush (v := Int32.ofInt 1213) hx hb dX8_first_36 (by decide) ?_
          refine ra_lld hx hb hK hP 1 rfl dX8_first_39 ⟨by omega, by omega⟩ (by omega) ?_
          refine rj_ldc (z := 120) hx hb hown lk_c170 dX8_first_40 (by decide) ?_
          refine rj_cmp hx hb dX8_first_43 ⟨by omega, by omega⟩ ⟨by omega, by omega⟩ (fun z43 e43 => ?_)
          refine ri_if_ne (tgt := 50) hx hb dX8_first_44 (by decide) ⟨by omega, by omega⟩ (fun c44 => ?_) (fun c44 => ?_)
          · skip
            have c44 : ¬ (f 1213) = 120 := by omega
            clear e43
            refine lv_aload_n hx hb dX8_first_50 rfl (lv_at hl 0 rfl) ?_
            refine lv_sipush (v := Int32.ofInt 607) hx hb dX8_first_51 (by decide) ?_
            refine zc_VJ (As := [vI 607]) (rest := []) (wc := [(hm, oB 8 [.ref m0, vI un, .ref m2, .ref m3, vI mo, vI oft, vI la, vI du, .ref m8, .ref m9, vI to, .ref m11, .ref m12, vJ tr, .ref m14, vI n, vI at0, vI sa, vI vv, .ref m19, vI rdu, .ref m21, .ref m22, vI se, vI its, .ref m25, .ref m26, vJ lt0]), (m0, aJ ca 7284 f), (m3, aI ca 5 w)]) (wr := []) (k_X8_goes l g ca hm m0 m2 m3 m8 m9 m11 m12 m14 m19 m21 m22 m25 m26 un mo oft la du to tr n at0 sa vv rdu se its lt0 f w 607 bi i 0 (by first | assumption | omega) (by exact hf) (by exact hBi) (by first | assumption | omega) (by first | assumption | omega) (by first | assumption | omega) (by first | assumption | omega)) dX8_first_54 (cwV 1 hts gX8_first_X8_goes rfl rfl rfl (by decide +kernel) (by rw [hR]; exact ⟨Nat.le_of_ble_eq_true rfl, Nat.le_of_ble_eq_true rfl⟩)) ⟨hx, hb, hml, hown, hts⟩ hl.1 hK hP hD hS hA 0 rfl rfl rfl [0, 1, 2] [] rfl (by decide) rfl (by decide) (by decide) rfl rfl (Nat.le_of_ble_eq_true rfl) (by rw [hR]; exact ⟨Nat.le_of_ble_eq_true rfl, Nat.le_of_ble_eq_true rfl⟩) (fun z54 u H locs q54 hP hD hS => ?_)
            obtain ⟨d1_54, rfl⟩ : ∃ q, q = u := ⟨_, rfl⟩
            have q54 : AT d1_54 607 (gs w (ef oft la) mo (i + 1) bi 4).1 (i + 1) 0 ∧ FRM f d1_54 607 ∧ z54 = (gs w (ef oft la) mo (i + 1) bi 4).2 := q54
            obtain ⟨q54_0, q54_1, q54_2⟩ := q54
            have hP : va_P g vwCl [(hm, oB 8 [.ref m0, vI un, .ref m2, .ref m3, vI mo, vI oft, vI la, vI du, .ref m8, .ref m9, vI to, .ref m11, .ref m12, vJ tr, .ref m14, vI n, vI at0, vI sa, vI vv, .ref m19, vI rdu, .ref m21, .ref m22, vI se, vI its, .ref m25, .ref m26, vJ lt0]), (m0, aJ ca 7284 d1_54), (m3, aI ca 5 w)] H := hP.sub [0, 1, 2] rfl
            have hD : va_D A [(hm, oB 8 [.ref m0, vI un, .ref m2, .ref m3, vI mo, vI oft, vI la, vI du, .ref m8, .ref m9, vI to, .ref m11, .ref m12, vJ tr, .ref m14, vI n, vI at0, vI sa, vI vv, .ref m19, vI rdu, .ref m21, .ref m22, vI se, vI its, .ref m25, .ref m26, vJ lt0]), (m0, aJ ca 7284 d1_54), (m3, aI ca 5 w)] := hD.sub [0, 1, 2] (by decide) rfl
            refine lv_pop2_2 hx hb dX8_first_57 rfl ?_
            refine lv_goto (tgt := 18) hx hb dX8_first_58 (by decide) ?_
            exact ih18 (i + 1) ((gs w (ef oft la) mo (i + 1) bi 4).1) d1_54 k1 (by first | assumption | omega) (by exact q54_0) (by exact FRM_tr hfr q54_1) (by exact GB_gs hE hM (GB_up hBi (by omega)) 4 (by omega)) (by rw [← hv, fsf_n (by omega)]) (by omega) _ _ hP hD hS ls (lv_sub hl [0, 1, 2] rfl)
          · skip
            have c44 : (f 1213) = 120 := by omega
            clear e43
            refine lv_bipush (v := Int32.ofInt (-9)) hx hb dX8_first_47 (by decide) ?_
            refine zr_I hx hb hr hlk hQ (f) hP hD hS dX8_first_49 (Nat.le_of_ble_eq_true rfl) (Nat.le_of_ble_eq_true rfl) ?_
            show (-9) = fsv w (ef oft la) mo o x ∧ FRM d f 607
            unfold fsv
            first
            | exact ⟨by rw [if_neg (fun q => by omega)], FRM_rf⟩
            | (refine ⟨?_, hfr⟩
               rw [if_pos (by omega), ← hv]
               first
               | (rw [fsf_y (by omega)]; omega)
               | (rw [fsf_n (by omega), show k1 = 0 by omega]; rfl))
    exact L18 _ 0 bg d1_15 121 (by first | assumption | omega) (by exact q15_0) (by exact q15_1) (by exact GB_bg) (by rfl) (Nat.lt_succ_self _) _ _ hP hD hS ls (lv_sub hl [0, 1, 2] rfl)
  · skip
    refine lv_iconst (v := Int32.ofInt (-1)) hx hb dX8_first_9 rfl ?_
    refine zr_I hx hb hr hlk hQ (d) hP hD hS dX8_first_10 (Nat.le_of_ble_eq_true rfl) (Nat.le_of_ble_eq_true rfl) ?_
    show (-1) = fsv w (ef oft la) mo o x ∧ FRM d d 607
    unfold fsv
    first
    | exact ⟨by rw [if_neg (fun q => by omega)], FRM_rf⟩
    | (refine ⟨?_, hfr⟩
       rw [if_pos (by omega), ← hv]
       first
       | (rw [fsf_y (by omega)]; omega)
       | (rw [fsf_n (by omega), show k1 = 0 by omega]; rfl))
set_option maxHeartbeats 4000000 in
set_option maxRecDepth 100000 in
theorem k_X8_lay (l : Launch) (g : va_G) (ca : Nat → ClassId) (hm : Nat) (m0 : Nat) (m2 : Nat) (m3 : Nat) (m8 : Nat) (m9 : Nat) (m11 : Nat) (m12 : Nat) (m14 : Nat) (m19 : Nat) (m21 : Nat) (m22 : Nat) (m25 : Nat) (m26 : Nat) (un : Int) (mo : Int) (oft : Int) (la : Int) (du : Int) (to : Int) (tr : Int) (n : Int) (at0 : Int) (sa : Int) (vv : Int) (rdu : Int) (se : Int) (its : Int) (lt0 : Int) (go : Int → Int) (gn : Int → Int) (o : Int) (x : Int) (hto : 0 ≤ to ∧ to ≤ 5) (hx0 : in32 o) (hx1 : in32 x) : zI (S := Int × (Int → Int) × (Int → Int)) l yX8_lay wsX8_lay ({ frames := 2, cells := 0, slots := 0, locals := 45 } : Room) g ca [.ref hm, vI o, vI x] [(hm, oB 8 [.ref m0, vI un, .ref m2, .ref m3, vI mo, vI oft, vI la, vI du, .ref m8, .ref m9, vI to, .ref m11, .ref m12, vJ tr, .ref m14, vI n, vI at0, vI sa, vI vv, .ref m19, vI rdu, .ref m21, .ref m22, vI se, vI its, .ref m25, .ref m26, vJ lt0]), (m11, aI ca 5 go), (m12, aI ca 5 gn)] (fun (z : Int) (u : Int × (Int → Int) × (Int → Int)) => (¬ ((0 ≤ o ∧ o ≤ 4) ∧ 0 ≤ x ∧ x ≤ 1000000) ∧ z = -1 ∧ u.1 = to ∧ u.2.1 = go ∧ u.2.2 = gn) ∨ (((0 ≤ o ∧ o ≤ 4) ∧ 0 ≤ x ∧ x ≤ 1000000) ∧ to = 5 ∧ z = -3 ∧ u.1 = to ∧ u.2.1 = go ∧ u.2.2 = gn) ∨ (((0 ≤ o ∧ o ≤ 4) ∧ 0 ≤ x ∧ x ≤ 1000000) ∧ to < 5 ∧ z = to + 1 ∧ u.1 = to + 1 ∧ u.2.1 = zu go to o ∧ u.2.2 = zu gn to x)) (fun (u : Int × (Int → Int) × (Int → Int)) => [(hm, oB 8 [.ref m0, vI un, .ref m2, .ref m3, vI mo, vI oft, vI la, vI du, .ref m8, .ref m9, vI u.1, .ref m11, .ref m12, vJ tr, .ref m14, vI n, vI at0, vI sa, vI vv, .ref m19, vI rdu, .ref m21, .ref m22, vI se, vI its, .ref m25, .ref m26, vJ lt0]), (m11, aI ca 5 u.2.1), (m12, aI ca 5 u.2.2)]) 0 0 := by
  refine zm_I (cc := cX8_lay) (maxL := 3) (ret := some .int) (by decide) rfl (Nat.le_of_ble_eq_true rfl) ?_
  intro p e s m below meth c A ls R args Q hR hargs hQ hx hb hml hr hts hown hlk hnm hK hP hD hA hS hl
  have hown : s.vm.findClass RX8 = some m.cls := hown
  have hl : lv_has ls 3 [(0, .ref hm), (1, vI o), (2, vI x)] := hl
  have lk_c180 : (Cond.constantLong RX8 180 (1000000)).before args s = true := hts _ (by decide +kernel)
  have lk_f79 : (Cond.fieldLink RX8 79 "DripRingsModel" "graves" "I").before args s = true := hts _ (by decide +kernel)
  have inF_X8 : ∀ w ∈ wsX80, w ∈ wsX8_lay := by decide +kernel
  have lk_f27 : (Cond.fieldLink RX8 27 "DripRingsModel" "graveOrder" "[I").before args s = true := hts _ (by decide +kernel)
  have lk_f30 : (Cond.fieldLink RX8 30 "DripRingsModel" "graveMany" "[I").before args s = true := hts _ (by decide +kernel)
  refine lv_iload_n hx hb dX8_lay_0 rfl (lv_at hl 1 rfl) ?_
  refine zc_SI (As := [vI o]) (rest := []) (wc := []) (wr := [(hm, oB 8 [.ref m0, vI un, .ref m2, .ref m3, vI mo, vI oft, vI la, vI du, .ref m8, .ref m9, vI to, .ref m11, .ref m12, vJ tr, .ref m14, vI n, vI at0, vI sa, vI vv, .ref m19, vI rdu, .ref m21, .ref m22, vI se, vI its, .ref m25, .ref m26, vJ lt0]), (m11, aI ca 5 go), (m12, aI ca 5 gn)]) (k_X8_isOrder l g ca o (by exact hx0)) dX8_lay_1 (va_cwS 1 hts gX8_lay_X8_isOrder rfl rfl rfl (by decide +kernel) (by rw [hR]; exact ⟨Nat.le_of_ble_eq_true rfl, Nat.le_of_ble_eq_true rfl⟩)) ⟨hx, hb, hml, hown, hts⟩ hl.1 hK hP hD hS hA [] [0, 1, 2] rfl (by decide) rfl (by decide) (by decide) rfl rfl (Nat.le_of_ble_eq_true rfl) (by rw [hR]; exact ⟨Nat.le_of_ble_eq_true rfl, Nat.le_of_ble_eq_true rfl⟩) (fun z1 u H locs q1 hP hD hS => ?_)
  have q1 : (z1 = 1 ∧ 0 ≤ o ∧ o ≤ 4) ∨ (z1 = 0 ∧ ¬ (0 ≤ o ∧ o ≤ 4)) := q1
  have hP : va_P g vwCl [(hm, oB 8 [.ref m0, vI un, .ref m2, .ref m3, vI mo, vI oft, vI la, vI du, .ref m8, .ref m9, vI to, .ref m11, .ref m12, vJ tr, .ref m14, vI n, vI at0, vI sa, vI vv, .ref m19, vI rdu, .ref m21, .ref m22, vI se, vI its, .ref m25, .ref m26, vJ lt0]), (m11, aI ca 5 go), (m12, aI ca 5 gn)] H := hP.sub [0, 1, 2] rfl
  have hD : va_D A [(hm, oB 8 [.ref m0, vI un, .ref m2, .ref m3, vI mo, vI oft, vI la, vI du, .ref m8, .ref m9, vI to, .ref m11, .ref m12, vJ tr, .ref m14, vI n, vI at0, vI sa, vI vv, .ref m19, vI rdu, .ref m21, .ref m22, vI se, vI its, .ref m25, .ref m26, vJ lt0]), (m11, aI ca 5 go), (m12, aI ca 5 gn)] := hD.sub [0, 1, 2] (by decide) rfl
  refine ri_if_eq (tgt := 19) hx hb dX8_lay_4 (by decide) ⟨by omega, by omega⟩ (fun c4 => ?_) (fun c4 => ?_)
  · skip
    refine lv_iconst (v := Int32.ofInt (-1)) hx hb dX8_lay_19 rfl ?_
    refine zr_I hx hb hr hlk hQ (to, go, gn) hP hD hS dX8_lay_20 (Nat.le_of_ble_eq_true rfl) (Nat.le_of_ble_eq_true rfl) ?_
    show (¬ ((0 ≤ o ∧ o ≤ 4) ∧ 0 ≤ x ∧ x ≤ 1000000) ∧ (-1) = -1 ∧ to = to ∧ go = go ∧ gn = gn) ∨ (((0 ≤ o ∧ o ≤ 4) ∧ 0 ≤ x ∧ x ≤ 1000000) ∧ to = 5 ∧ (-1) = -3 ∧ to = to ∧ go = go ∧ gn = gn) ∨ (((0 ≤ o ∧ o ≤ 4) ∧ 0 ≤ x ∧ x ≤ 1000000) ∧ to < 5 ∧ (-1) = to + 1 ∧ to = to + 1 ∧ go = zu go to o ∧ gn = zu gn to x)
    first | exact Or.inl ⟨by omega, rfl, rfl, rfl, rfl⟩ | exact Or.inr (Or.inl ⟨by omega, by omega, rfl, rfl, rfl, rfl⟩) | exact Or.inr (Or.inr ⟨by omega, by omega, e58, e58, rfl, rfl⟩)
  · skip
    refine lv_iload_n hx hb dX8_lay_7 rfl (lv_at hl 2 rfl) ?_
    refine ri_l hx hb dX8_lay_8 hx1 ?_
    refine lv_lconst (v := Int64.ofInt 0) hx hb dX8_lay_9 (by decide) ?_
    refine rj_ldc (z := 1000000) hx hb hown lk_c180 dX8_lay_10 (by decide) ?_
    refine zc_SI (As := [vJ x, vJ 0, vJ 1000000]) (rest := []) (wc := []) (wr := [(hm, oB 8 [.ref m0, vI un, .ref m2, .ref m3, vI mo, vI oft, vI la, vI du, .ref m8, .ref m9, vI to, .ref m11, .ref m12, vJ tr, .ref m14, vI n, vI at0, vI sa, vI vv, .ref m19, vI rdu, .ref m21, .ref m22, vI se, vI its, .ref m25, .ref m26, vJ lt0]), (m11, aI ca 5 go), (m12, aI ca 5 gn)]) (k_X8_in l g ca x 0 1000000 (by exact ⟨by omega, by omega⟩) (by exact ⟨by omega, by omega⟩) (by exact ⟨by omega, by omega⟩)) dX8_lay_13 (va_cwS 3 hts gX8_lay_X8_in rfl rfl rfl (by decide +kernel) (by rw [hR]; exact ⟨Nat.le_of_ble_eq_true rfl, Nat.le_of_ble_eq_true rfl⟩)) ⟨hx, hb, hml, hown, hts⟩ hl.1 hK hP hD hS hA [] [0, 1, 2] rfl (by decide) rfl (by decide) (by decide) rfl rfl (Nat.le_of_ble_eq_true rfl) (by rw [hR]; exact ⟨Nat.le_of_ble_eq_true rfl, Nat.le_of_ble_eq_true rfl⟩) (fun z13 u H locs q13 hP hD hS => ?_)
    have q13 : (z13 = 1 ∧ 0 ≤ x ∧ x ≤ 1000000) ∨ (z13 = 0 ∧ ¬ (0 ≤ x ∧ x ≤ 1000000)) := q13
    have hP : va_P g vwCl [(hm, oB 8 [.ref m0, vI un, .ref m2, .ref m3, vI mo, vI oft, vI la, vI du, .ref m8, .ref m9, vI to, .ref m11, .ref m12, vJ tr, .ref m14, vI n, vI at0, vI sa, vI vv, .ref m19, vI rdu, .ref m21, .ref m22, vI se, vI its, .ref m25, .ref m26, vJ lt0]), (m11, aI ca 5 go), (m12, aI ca 5 gn)] H := hP.sub [0, 1, 2] rfl
    have hD : va_D A [(hm, oB 8 [.ref m0, vI un, .ref m2, .ref m3, vI mo, vI oft, vI la, vI du, .ref m8, .ref m9, vI to, .ref m11, .ref m12, vJ tr, .ref m14, vI n, vI at0, vI sa, vI vv, .ref m19, vI rdu, .ref m21, .ref m22, vI se, vI its, .ref m25, .ref m26, vJ lt0]), (m11, aI ca 5 go), (m12, aI ca 5 gn)] := hD.sub [0, 1, 2] (by decide) rfl
    refine ri_if_ne (tgt := 21) hx hb dX8_lay_16 (by decide) ⟨by omega, by omega⟩ (fun c16 => ?_) (fun c16 => ?_)
    · skip
      refine lv_aload_n hx hb dX8_lay_21 rfl (lv_at hl 0 rfl) ?_
      refine va_get (D := g) (ci := 8) (v := vI to) (C := RX8) (T := TX8) (N := 28) hx hb hts inF_X8 hown hK.1 hP 0 rfl rfl 10 (by decide) lk_f79 (fun _ h9 => h9) rfl dX8_lay_22 ?_
      refine lv_iconst (v := Int32.ofInt 5) hx hb dX8_lay_25 rfl ?_
      refine ri_icmp_ne (tgt := 32) hx hb dX8_lay_26 (by decide) ⟨by omega, by omega⟩ ⟨by omega, by omega⟩ (fun c26 => ?_) (fun c26 => ?_)
      · skip
        refine lv_aload_n hx hb dX8_lay_32 rfl (lv_at hl 0 rfl) ?_
        refine va_get (D := g) (ci := 8) (v := .ref m11) (C := RX8) (T := TX8) (N := 28) hx hb hts inF_X8 hown hK.1 hP 0 rfl rfl 11 (by decide) lk_f27 (fun _ h9 => h9) rfl dX8_lay_33 ?_
        refine lv_aload_n hx hb dX8_lay_36 rfl (lv_at hl 0 rfl) ?_
        refine va_get (D := g) (ci := 8) (v := vI to) (C := RX8) (T := TX8) (N := 28) hx hb hts inF_X8 hown hK.1 hP 0 rfl rfl 10 (by decide) lk_f79 (fun _ h9 => h9) rfl dX8_lay_37 ?_
        refine lv_iload_n hx hb dX8_lay_40 rfl (lv_at hl 1 rfl) ?_
        refine ra_ist hx hb hK hP hD hS 1 rfl dX8_lay_41 ⟨by omega, by omega⟩ (by omega) (fun H locs hP hD hS => ?_)
        have hP : va_P g vwCl [(hm, oB 8 [.ref m0, vI un, .ref m2, .ref m3, vI mo, vI oft, vI la, vI du, .ref m8, .ref m9, vI to, .ref m11, .ref m12, vJ tr, .ref m14, vI n, vI at0, vI sa, vI vv, .ref m19, vI rdu, .ref m21, .ref m22, vI se, vI its, .ref m25, .ref m26, vJ lt0]), (m11, aI ca 5 (zu go to o)), (m12, aI ca 5 gn)] H := hP
        have hD : va_D A [(hm, oB 8 [.ref m0, vI un, .ref m2, .ref m3, vI mo, vI oft, vI la, vI du, .ref m8, .ref m9, vI to, .ref m11, .ref m12, vJ tr, .ref m14, vI n, vI at0, vI sa, vI vv, .ref m19, vI rdu, .ref m21, .ref m22, vI se, vI its, .ref m25, .ref m26, vJ lt0]), (m11, aI ca 5 (zu go to o)), (m12, aI ca 5 gn)] := hD
        refine lv_aload_n hx hb dX8_lay_42 rfl (lv_at hl 0 rfl) ?_
        refine va_get (D := g) (ci := 8) (v := .ref m12) (C := RX8) (T := TX8) (N := 28) hx hb hts inF_X8 hown hK.1 hP 0 rfl rfl 12 (by decide) lk_f30 (fun _ h9 => h9) rfl dX8_lay_43 ?_
        refine lv_aload_n hx hb dX8_lay_46 rfl (lv_at hl 0 rfl) ?_
        refine va_get (D := g) (ci := 8) (v := vI to) (C := RX8) (T := TX8) (N := 28) hx hb hts inF_X8 hown hK.1 hP 0 rfl rfl 10 (by decide) lk_f79 (fun _ h9 => h9) rfl dX8_lay_47 ?_
        refine lv_iload_n hx hb dX8_lay_50 rfl (lv_at hl 2 rfl) ?_
        refine ra_ist hx hb hK hP hD hS 2 rfl dX8_lay_51 ⟨by omega, by omega⟩ (by omega) (fun H locs hP hD hS => ?_)
        have hP : va_P g vwCl [(hm, oB 8 [.ref m0, vI un, .ref m2, .ref m3, vI mo, vI oft, vI la, vI du, .ref m8, .ref m9, vI to, .ref m11, .ref m12, vJ tr, .ref m14, vI n, vI at0, vI sa, vI vv, .ref m19, vI rdu, .ref m21, .ref m22, vI se, vI its, .ref m25, .ref m26, vJ lt0]), (m11, aI ca 5 (zu go to o)), (m12, aI ca 5 (zu gn to x))] H := hP
        have hD : va_D A [(hm, oB 8 [.ref m0, vI un, .ref m2, .ref m3, vI mo, vI oft, vI la, vI du, .ref m8, .ref m9, vI to, .ref m11, .ref m12, vJ tr, .ref m14, vI n, vI at0, vI sa, vI vv, .ref m19, vI rdu, .ref m21, .ref m22, vI se, vI its, .ref m25, .ref m26, vJ lt0]), (m11, aI ca 5 (zu go to o)), (m12, aI ca 5 (zu gn to x))] := hD
        refine lv_aload_n hx hb dX8_lay_52 rfl (lv_at hl 0 rfl) ?_
        refine lv_dup hx hb dX8_lay_53 rfl ?_
        refine va_get (D := g) (ci := 8) (v := vI to) (C := RX8) (T := TX8) (N := 28) hx hb hts inF_X8 hown hK.1 hP 0 rfl rfl 10 (by decide) lk_f79 (fun _ h9 => h9) rfl dX8_lay_54 ?_
        refine lv_iconst (v := Int32.ofInt 1) hx hb dX8_lay_57 rfl ?_
        refine ri_add hx hb dX8_lay_58 (fun z58 e58 => ?_)
        refine va_put (D := g) (ci := 8) (v := vI z58) (ty := .int) (C := RX8) (T := TX8) (N := 28) hx hb hts inF_X8 tyX8 tyX8_ok nmX8 hown hK.1 hP hD hS 0 rfl rfl 10 (by decide) lk_f79 (fun _ h9 => h9) rfl (by decide +kernel) rfl rfl (Nat.le_of_ble_eq_true rfl) dX8_lay_59 (fun H locs hP hD hS => ?_)
        have hP : va_P g vwCl [(hm, oB 8 [.ref m0, vI un, .ref m2, .ref m3, vI mo, vI oft, vI la, vI du, .ref m8, .ref m9, vI z58, .ref m11, .ref m12, vJ tr, .ref m14, vI n, vI at0, vI sa, vI vv, .ref m19, vI rdu, .ref m21, .ref m22, vI se, vI its, .ref m25, .ref m26, vJ lt0]), (m11, aI ca 5 (zu go to o)), (m12, aI ca 5 (zu gn to x))] H := hP
        have hD : va_D A [(hm, oB 8 [.ref m0, vI un, .ref m2, .ref m3, vI mo, vI oft, vI la, vI du, .ref m8, .ref m9, vI z58, .ref m11, .ref m12, vJ tr, .ref m14, vI n, vI at0, vI sa, vI vv, .ref m19, vI rdu, .ref m21, .ref m22, vI se, vI its, .ref m25, .ref m26, vJ lt0]), (m11, aI ca 5 (zu go to o)), (m12, aI ca 5 (zu gn to x))] := hD
        refine lv_aload_n hx hb dX8_lay_62 rfl (lv_at hl 0 rfl) ?_
        refine va_get (D := g) (ci := 8) (v := vI z58) (C := RX8) (T := TX8) (N := 28) hx hb hts inF_X8 hown hK.1 hP 0 rfl rfl 10 (by decide) lk_f79 (fun _ h9 => h9) rfl dX8_lay_63 ?_
        refine zr_I hx hb hr hlk hQ (z58, zu go to o, zu gn to x) hP hD hS dX8_lay_66 (Nat.le_of_ble_eq_true rfl) (Nat.le_of_ble_eq_true rfl) ?_
        show (¬ ((0 ≤ o ∧ o ≤ 4) ∧ 0 ≤ x ∧ x ≤ 1000000) ∧ z58 = -1 ∧ z58 = to ∧ (zu go to o) = go ∧ (zu gn to x) = gn) ∨ (((0 ≤ o ∧ o ≤ 4) ∧ 0 ≤ x ∧ x ≤ 1000000) ∧ to = 5 ∧ z58 = -3 ∧ z58 = to ∧ (zu go to o) = go ∧ (zu gn to x) = gn) ∨ (((0 ≤ o ∧ o ≤ 4) ∧ 0 ≤ x ∧ x ≤ 1000000) ∧ to < 5 ∧ z58 = to + 1 ∧ z58 = to + 1 ∧ (zu go to o) = zu go to o ∧ (zu gn to x) = zu gn to x)
        first | exact Or.inl ⟨by omega, rfl, rfl, rfl, rfl⟩ | exact Or.inr (Or.inl ⟨by omega, by omega, rfl, rfl, rfl, rfl⟩) | exact Or.inr (Or.inr ⟨by omega, by omega, e58, e58, rfl, rfl⟩)
      · skip
        refine lv_bipush (v := Int32.ofInt (-3)) hx hb dX8_lay_29 (by decide) ?_
        refine zr_I hx hb hr hlk hQ (to, go, gn) hP hD hS dX8_lay_31 (Nat.le_of_ble_eq_true rfl) (Nat.le_of_ble_eq_true rfl) ?_
        show (¬ ((0 ≤ o ∧ o ≤ 4) ∧ 0 ≤ x ∧ x ≤ 1000000) ∧ (-3) = -1 ∧ to = to ∧ go = go ∧ gn = gn) ∨ (((0 ≤ o ∧ o ≤ 4) ∧ 0 ≤ x ∧ x ≤ 1000000) ∧ to = 5 ∧ (-3) = -3 ∧ to = to ∧ go = go ∧ gn = gn) ∨ (((0 ≤ o ∧ o ≤ 4) ∧ 0 ≤ x ∧ x ≤ 1000000) ∧ to < 5 ∧ (-3) = to + 1 ∧ to = to + 1 ∧ go = zu go to o ∧ gn = zu gn to x)
        first | exact Or.inl ⟨by omega, rfl, rfl, rfl, rfl⟩ | exact Or.inr (Or.inl ⟨by omega, by omega, rfl, rfl, rfl, rfl⟩) | exact Or.inr (Or.inr ⟨by omega, by omega, e58, e58, rfl, rfl⟩)
    · skip
      refine lv_iconst (v := Int32.ofInt (-1)) hx hb dX8_lay_19 rfl ?_
      refine zr_I hx hb hr hlk hQ (to, go, gn) hP hD hS dX8_lay_20 (Nat.le_of_ble_eq_true rfl) (Nat.le_of_ble_eq_true rfl) ?_
      show (¬ ((0 ≤ o ∧ o ≤ 4) ∧ 0 ≤ x ∧ x ≤ 1000000) ∧ (-1) = -1 ∧ to = to ∧ go = go ∧ gn = gn) ∨ (((0 ≤ o ∧ o ≤ 4) ∧ 0 ≤ x ∧ x ≤ 1000000) ∧ to = 5 ∧ (-1) = -3 ∧ to = to ∧ go = go ∧ gn = gn) ∨ (((0 ≤ o ∧ o ≤ 4) ∧ 0 ≤ x ∧ x ≤ 1000000) ∧ to < 5 ∧ (-1) = to + 1 ∧ to = to + 1 ∧ go = zu go to o ∧ gn = zu gn to x)
      first | exact Or.inl ⟨by omega, rfl, rfl, rfl, rfl⟩ | exact Or.inr (Or.inl ⟨by omega, by omega, rfl, rfl, rfl, rfl⟩) | exact Or.inr (Or.inr ⟨by omega, by omega, e58, e58, rfl, rfl⟩)
set_option maxHeartbeats 4000000 in
set_option maxRecDepth 100000 in
theorem k_X8_forget (l : Launch) (g : va_G) (ca : Nat → ClassId) (hm : Nat) (m0 : Nat) (m2 : Nat) (m3 : Nat) (m8 : Nat) (m9 : Nat) (m11 : Nat) (m12 : Nat) (m14 : Nat) (m19 : Nat) (m21 : Nat) (m22 : Nat) (m25 : Nat) (m26 : Nat) (un : Int) (mo : Int) (oft : Int) (la : Int) (du : Int) (to : Int) (tr : Int) (n : Int) (at0 : Int) (sa : Int) (vv : Int) (rdu : Int) (se : Int) (its : Int) (lt0 : Int)  : zI (S := Unit) l yX8_forget wsX8_forget ({ frames := 0, cells := 0, slots := 0, locals := 0 } : Room) g ca [.ref hm] [(hm, oB 8 [.ref m0, vI un, .ref m2, .ref m3, vI mo, vI oft, vI la, vI du, .ref m8, .ref m9, vI to, .ref m11, .ref m12, vJ tr, .ref m14, vI n, vI at0, vI sa, vI vv, .ref m19, vI rdu, .ref m21, .ref m22, vI se, vI its, .ref m25, .ref m26, vJ lt0])] (fun (z : Int) (u : Unit) => z = to) (fun (u : Unit) => [(hm, oB 8 [.ref m0, vI un, .ref m2, .ref m3, vI mo, vI oft, vI la, vI du, .ref m8, .ref m9, vI 0, .ref m11, .ref m12, vJ tr, .ref m14, vI n, vI at0, vI sa, vI vv, .ref m19, vI rdu, .ref m21, .ref m22, vI se, vI its, .ref m25, .ref m26, vJ lt0])]) 0 0 := by
  refine zm_I (cc := cX8_forget) (maxL := 2) (ret := some .int) (by decide) rfl (Nat.le_of_ble_eq_true rfl) ?_
  intro p e s m below meth c A ls R args Q hR hargs hQ hx hb hml hr hts hown hlk hnm hK hP hD hA hS hl
  have hown : s.vm.findClass RX8 = some m.cls := hown
  have hl : lv_has ls 2 [(0, .ref hm)] := hl
  have lk_f79 : (Cond.fieldLink RX8 79 "DripRingsModel" "graves" "I").before args s = true := hts _ (by decide +kernel)
  have inF_X8 : ∀ w ∈ wsX80, w ∈ wsX8_forget := by decide +kernel
  refine lv_aload_n hx hb dX8_forget_0 rfl (lv_at hl 0 rfl) ?_
  refine va_get (D := g) (ci := 8) (v := vI to) (C := RX8) (T := TX8) (N := 28) hx hb hts inF_X8 hown hK.1 hP 0 rfl rfl 10 (by decide) lk_f79 (fun _ h9 => h9) rfl dX8_forget_1 ?_
  refine lv_istore_n (lv' := [(1, vI to), (0, .ref hm)]) hx hb dX8_forget_4 rfl hl (by decide) rfl (fun ls hl => ?_)
  refine lv_aload_n hx hb dX8_forget_5 rfl (lv_at hl 1 rfl) ?_
  refine lv_iconst (v := Int32.ofInt 0) hx hb dX8_forget_6 rfl ?_
  refine va_put (D := g) (ci := 8) (v := vI 0) (ty := .int) (C := RX8) (T := TX8) (N := 28) hx hb hts inF_X8 tyX8 tyX8_ok nmX8 hown hK.1 hP hD hS 0 rfl rfl 10 (by decide) lk_f79 (fun _ h9 => h9) rfl (by decide +kernel) rfl rfl (Nat.le_of_ble_eq_true rfl) dX8_forget_7 (fun H locs hP hD hS => ?_)
  have hP : va_P g vwCl [(hm, oB 8 [.ref m0, vI un, .ref m2, .ref m3, vI mo, vI oft, vI la, vI du, .ref m8, .ref m9, vI 0, .ref m11, .ref m12, vJ tr, .ref m14, vI n, vI at0, vI sa, vI vv, .ref m19, vI rdu, .ref m21, .ref m22, vI se, vI its, .ref m25, .ref m26, vJ lt0])] H := hP
  have hD : va_D A [(hm, oB 8 [.ref m0, vI un, .ref m2, .ref m3, vI mo, vI oft, vI la, vI du, .ref m8, .ref m9, vI 0, .ref m11, .ref m12, vJ tr, .ref m14, vI n, vI at0, vI sa, vI vv, .ref m19, vI rdu, .ref m21, .ref m22, vI se, vI its, .ref m25, .ref m26, vJ lt0])] := hD
  refine lv_iload_n hx hb dX8_forget_10 rfl (lv_at hl 0 rfl) ?_
  refine zr_I hx hb hr hlk hQ () hP hD hS dX8_forget_11 (Nat.le_of_ble_eq_true rfl) (Nat.le_of_ble_eq_true rfl) ?_
  show to = to
  rfl
set_option maxHeartbeats 4000000 in
set_option maxRecDepth 100000 in
theorem k_X8_isSo (l : Launch) (g : va_G) (ca : Nat → ClassId) (hm : Nat) (m0 : Nat) (m2 : Nat) (m3 : Nat) (m8 : Nat) (m9 : Nat) (m11 : Nat) (m12 : Nat) (m14 : Nat) (m19 : Nat) (m21 : Nat) (m22 : Nat) (m25 : Nat) (m26 : Nat) (un : Int) (mo : Int) (oft : Int) (la : Int) (du : Int) (to : Int) (tr : Int) (n : Int) (at0 : Int) (sa : Int) (vv : Int) (rdu : Int) (se : Int) (its : Int) (lt0 : Int) (d : Int → Int) (go : Int → Int) (gn : Int → Int) (b : Int → Int) (nn : Int) (ml : Int) (hAT : AT d 607 b nn ml) (hB : GB b nn) (hG : GRok go gn to) : zI (S := Unit) l yX8_isSo wsX8_isSo ({ frames := 1, cells := 0, slots := 0, locals := 25 } : Room) g ca [.ref hm] [(hm, oB 8 [.ref m0, vI un, .ref m2, .ref m3, vI mo, vI oft, vI la, vI du, .ref m8, .ref m9, vI to, .ref m11, .ref m12, vJ tr, .ref m14, vI n, vI at0, vI sa, vI vv, .ref m19, vI rdu, .ref m21, .ref m22, vI se, vI its, .ref m25, .ref m26, vJ lt0]), (m0, aJ ca 7284 d), (m11, aI ca 5 go), (m12, aI ca 5 gn)] (fun (z : Int) (u : Unit) => (z = 1 ∧ grk b nn go gn to) ∨ (z = 0 ∧ ¬ grk b nn go gn to)) (fun (u : Unit) => [(hm, oB 8 [.ref m0, vI un, .ref m2, .ref m3, vI mo, vI oft, vI la, vI du, .ref m8, .ref m9, vI to, .ref m11, .ref m12, vJ tr, .ref m14, vI n, vI at0, vI sa, vI vv, .ref m19, vI rdu, .ref m21, .ref m22, vI se, vI its, .ref m25, .ref m26, vJ lt0]), (m0, aJ ca 7284 d), (m11, aI ca 5 go), (m12, aI ca 5 gn)]) 0 0 := by
  refine zm_I (cc := cX8_isSo) (maxL := 3) (ret := some .boolean) (by decide) rfl (Nat.le_of_ble_eq_true rfl) ?_
  intro p e s m below meth c A ls R args Q hR hargs hQ hx hb hml hr hts hown hlk hnm hK hP hD hA hS hl
  have hown : s.vm.findClass RX8 = some m.cls := hown
  have hl : lv_has ls 3 [(0, .ref hm)] := hl
  have lk_f79 : (Cond.fieldLink RX8 79 "DripRingsModel" "graves" "I").before args s = true := hts _ (by decide +kernel)
  have inF_X8 : ∀ w ∈ wsX80, w ∈ wsX8_isSo := by decide +kernel
  have lk_f27 : (Cond.fieldLink RX8 27 "DripRingsModel" "graveOrder" "[I").before args s = true := hts _ (by decide +kernel)
  have lk_f30 : (Cond.fieldLink RX8 30 "DripRingsModel" "graveMany" "[I").before args s = true := hts _ (by decide +kernel)
  have hto := hG.1
  refine lv_iconst (v := Int32.ofInt 1) hx hb dX8_isSo_0 rfl ?_
  refine lv_istore_n (lv' := [(1, vI 1), (0, .ref hm)]) hx hb dX8_isSo_1 rfl hl (by decide) rfl (fun ls hl => ?_)
  refine lv_iconst (v := Int32.ofInt 0) hx hb dX8_isSo_2 rfl ?_
  refine lv_istore_n (lv' := [(2, vI 0), (1, vI 1), (0, .ref hm)]) hx hb dX8_isSo_3 rfl hl (by decide) rfl (fun ls hl => ?_)
  have L4 : ∀ (N4 : Nat) (y : Int) (i : Int) (hi : 0 ≤ i ∧ i ≤ to) (hy : (y = 1 ∧ grk b nn go gn i) ∨ (y = 0 ∧ ¬ grk b nn go gn to)) (hμ : (to - i).toNat < N4) (H : Heap) (locs : List Loc) (hP : va_P g vwCl [(hm, oB 8 [.ref m0, vI un, .ref m2, .ref m3, vI mo, vI oft, vI la, vI du, .ref m8, .ref m9, vI to, .ref m11, .ref m12, vJ tr, .ref m14, vI n, vI at0, vI sa, vI vv, .ref m19, vI rdu, .ref m21, .ref m22, vI se, vI its, .ref m25, .ref m26, vJ lt0]), (m0, aJ ca 7284 d), (m11, aI ca 5 go), (m12, aI ca 5 gn)] H) (hD : va_D A [(hm, oB 8 [.ref m0, vI un, .ref m2, .ref m3, vI mo, vI oft, vI la, vI du, .ref m8, .ref m9, vI to, .ref m11, .ref m12, vJ tr, .ref m14, vI n, vI at0, vI sa, vI vv, .ref m19, vI rdu, .ref m21, .ref m22, vI se, vI its, .ref m25, .ref m26, vJ lt0]), (m0, aJ ca 7284 d), (m11, aI ca 5 go), (m12, aI ca 5 gn)]) (hS : va_S A s.heap H locs) (ls : Array Slot) (hl : lv_has ls 3 [(2, vI i), (1, vI y), (0, .ref hm)]), W p l e R s m args below meth c H locs 0 0 Q (F0 m 4 ls []) := by
    intro N4; induction N4 with
    | zero => intro y i hi hy hμ; exact absurd hμ (Nat.not_lt_zero _)
    | succ N4 ih4 =>
      intro y i hi hy hμ H locs hP hD hS ls hl
      refine lv_iload_n hx hb dX8_isSo_4 rfl (lv_at hl 0 rfl) ?_
      refine lv_aload_n hx hb dX8_isSo_5 rfl (lv_at hl 2 rfl) ?_
      refine va_get (D := g) (ci := 8) (v := vI to) (C := RX8) (T := TX8) (N := 28) hx hb hts inF_X8 hown hK.1 hP 0 rfl rfl 10 (by decide) lk_f79 (fun _ h9 => h9) rfl dX8_isSo_6 ?_
      refine ri_icmp_ge (tgt := 52) hx hb dX8_isSo_9 (by decide) ⟨by omega, by omega⟩ ⟨by omega, by omega⟩ (fun c9 => ?_) (fun c9 => ?_)
      · skip
        refine lv_iload_n hx hb dX8_isSo_52 rfl (lv_at hl 1 rfl) ?_
        refine zr_Z hx hb hr hlk hQ () hP hD hS dX8_isSo_53 (Nat.le_of_ble_eq_true rfl) (Nat.le_of_ble_eq_true rfl) (show y = 0 ∨ y = 1 from by omega) ?_
        show (y = 1 ∧ grk b nn go gn to) ∨ (y = 0 ∧ ¬ grk b nn go gn to)
        rcases hy with hy | hy
        · exact Or.inl ⟨hy.1, by rw [show to = i by omega]; exact hy.2⟩
        · exact Or.inr hy
      · skip
        refine lv_iload_n hx hb dX8_isSo_12 rfl (lv_at hl 1 rfl) ?_
        refine ri_if_eq (tgt := 44) hx hb dX8_isSo_13 (by decide) ⟨by omega, by omega⟩ (fun c13 => ?_) (fun c13 => ?_)
        · skip
          refine lv_iconst (v := Int32.ofInt 0) hx hb dX8_isSo_44 rfl ?_
          refine lv_istore_n (lv' := [(1, vI 0), (2, vI i), (0, .ref hm)]) hx hb dX8_isSo_45 rfl hl (by decide) rfl (fun ls hl => ?_)
          obtain ⟨z46, e46⟩ : ∃ q : Int, q = i + 1 := ⟨_, rfl⟩
          refine ri_inc (lv' := [(2, vI z46), (1, vI 0), (0, .ref hm)]) hx hb dX8_isSo_46 hl (k := 1) rfl (by decide) z46 e46 rfl (fun ls hl => ?_)
          refine lv_goto (tgt := 4) hx hb dX8_isSo_49 (by decide) ?_
          exact ih4 0 z46 (by first | assumption | omega) (by
                rcases hy with hy | hy
                · first
                  | (refine Or.inl ⟨rfl, fun j h1 h2 => ?_⟩
                     by_cases q : j = i
                     · rw [q]; omega
                     · exact hy.2 j h1 (by omega))
                  | exact Or.inr ⟨rfl, fun q => c37 (by rw [q26]; exact q i (by omega) (by omega))⟩
                  | (exfalso; omega)
                · first | exact Or.inr ⟨by omega, hy.2⟩ | (exfalso; omega)) (by omega) _ _ hP hD hS ls (lv_sub hl [0, 1, 2] rfl)
        · skip
          refine lv_aload_n hx hb dX8_isSo_16 rfl (lv_at hl 2 rfl) ?_
          refine lv_sipush (v := Int32.ofInt 607) hx hb dX8_isSo_17 (by decide) ?_
          refine lv_aload_n hx hb dX8_isSo_20 rfl (lv_at hl 2 rfl) ?_
          refine va_get (D := g) (ci := 8) (v := .ref m11) (C := RX8) (T := TX8) (N := 28) hx hb hts inF_X8 hown hK.1 hP 0 rfl rfl 11 (by decide) lk_f27 (fun _ h9 => h9) rfl dX8_isSo_21 ?_
          refine lv_iload_n hx hb dX8_isSo_24 rfl (lv_at hl 0 rfl) ?_
          refine ra_ild hx hb hK hP 2 rfl dX8_isSo_25 ⟨by omega, by omega⟩ (by omega) ?_
          have hg26 := hG.2 i (by omega) (by omega)
          refine zc_VJ (As := [vI 607, vI (go i)]) (rest := []) (wc := [(hm, oB 8 [.ref m0, vI un, .ref m2, .ref m3, vI mo, vI oft, vI la, vI du, .ref m8, .ref m9, vI to, .ref m11, .ref m12, vJ tr, .ref m14, vI n, vI at0, vI sa, vI vv, .ref m19, vI rdu, .ref m21, .ref m22, vI se, vI its, .ref m25, .ref m26, vJ lt0]), (m0, aJ ca 7284 d)]) (wr := [(m11, aI ca 5 go), (m12, aI ca 5 gn)]) (k_X8_manyOf l g ca hm m0 m2 m3 m8 m9 m11 m12 m14 m19 m21 m22 m25 m26 un mo oft la du to tr n at0 sa vv rdu se its lt0 d 607 (go i) b nn ml (by first | assumption | omega) (by first | assumption | omega) (by first | assumption | omega) (by first | assumption | omega)) dX8_isSo_26 (cwV 2 hts gX8_isSo_X8_manyOf rfl rfl rfl (by decide +kernel) (by rw [hR]; exact ⟨Nat.le_of_ble_eq_true rfl, Nat.le_of_ble_eq_true rfl⟩)) ⟨hx, hb, hml, hown, hts⟩ hl.1 hK hP hD hS hA 0 rfl rfl rfl [0, 1] [2, 3] rfl (by decide) rfl (by decide) (by decide) rfl rfl (Nat.le_of_ble_eq_true rfl) (by rw [hR]; exact ⟨Nat.le_of_ble_eq_true rfl, Nat.le_of_ble_eq_true rfl⟩) (fun z26 u H locs q26 hP hD hS => ?_)
          have q26 : z26 = cnt b nn (go i) := q26
          have hP : va_P g vwCl [(hm, oB 8 [.ref m0, vI un, .ref m2, .ref m3, vI mo, vI oft, vI la, vI du, .ref m8, .ref m9, vI to, .ref m11, .ref m12, vJ tr, .ref m14, vI n, vI at0, vI sa, vI vv, .ref m19, vI rdu, .ref m21, .ref m22, vI se, vI its, .ref m25, .ref m26, vJ lt0]), (m0, aJ ca 7284 d), (m11, aI ca 5 go), (m12, aI ca 5 gn)] H := hP.sub [2, 3, 0, 1] rfl
          have hD : va_D A [(hm, oB 8 [.ref m0, vI un, .ref m2, .ref m3, vI mo, vI oft, vI la, vI du, .ref m8, .ref m9, vI to, .ref m11, .ref m12, vJ tr, .ref m14, vI n, vI at0, vI sa, vI vv, .ref m19, vI rdu, .ref m21, .ref m22, vI se, vI its, .ref m25, .ref m26, vJ lt0]), (m0, aJ ca 7284 d), (m11, aI ca 5 go), (m12, aI ca 5 gn)] := hD.sub [2, 3, 0, 1] (by decide) rfl
          refine lv_aload_n hx hb dX8_isSo_29 rfl (lv_at hl 2 rfl) ?_
          refine va_get (D := g) (ci := 8) (v := .ref m12) (C := RX8) (T := TX8) (N := 28) hx hb hts inF_X8 hown hK.1 hP 0 rfl rfl 12 (by decide) lk_f30 (fun _ h9 => h9) rfl dX8_isSo_30 ?_
          refine lv_iload_n hx hb dX8_isSo_33 rfl (lv_at hl 0 rfl) ?_
          refine ra_ild hx hb hK hP 3 rfl dX8_isSo_34 ⟨by omega, by omega⟩ (by omega) ?_
          refine ri_l hx hb dX8_isSo_35 ⟨by omega, by omega⟩ ?_
          have hc36 := cnt_bd hB hg26.1.1 hg26.1.2
          refine rj_cmp hx hb dX8_isSo_36 ⟨by omega, by omega⟩ ⟨by omega, by omega⟩ (fun z36 e36 => ?_)
          refine ri_if_ne (tgt := 44) hx hb dX8_isSo_37 (by decide) ⟨by omega, by omega⟩ (fun c37 => ?_) (fun c37 => ?_)
          · skip
            have c37 : ¬ z26 = (gn i) := by omega
            clear e36
            refine lv_iconst (v := Int32.ofInt 0) hx hb dX8_isSo_44 rfl ?_
            refine lv_istore_n (lv' := [(1, vI 0), (2, vI i), (0, .ref hm)]) hx hb dX8_isSo_45 rfl hl (by decide) rfl (fun ls hl => ?_)
            obtain ⟨z46, e46⟩ : ∃ q : Int, q = i + 1 := ⟨_, rfl⟩
            refine ri_inc (lv' := [(2, vI z46), (1, vI 0), (0, .ref hm)]) hx hb dX8_isSo_46 hl (k := 1) rfl (by decide) z46 e46 rfl (fun ls hl => ?_)
            refine lv_goto (tgt := 4) hx hb dX8_isSo_49 (by decide) ?_
            exact ih4 0 z46 (by first | assumption | omega) (by
                  rcases hy with hy | hy
                  · first
                    | (refine Or.inl ⟨rfl, fun j h1 h2 => ?_⟩
                       by_cases q : j = i
                       · rw [q]; omega
                       · exact hy.2 j h1 (by omega))
                    | exact Or.inr ⟨rfl, fun q => c37 (by rw [q26]; exact q i (by omega) (by omega))⟩
                    | (exfalso; omega)
                  · first | exact Or.inr ⟨by omega, hy.2⟩ | (exfalso; omega)) (by omega) _ _ hP hD hS ls (lv_sub hl [0, 1, 2] rfl)
          · skip
            have c37 : z26 = (gn i) := by omega
            clear e36
            refine lv_iconst (v := Int32.ofInt 1) hx hb dX8_isSo_40 rfl ?_
            refine lv_goto (tgt := 45) hx hb dX8_isSo_41 (by decide) ?_
            refine lv_istore_n (lv' := [(1, vI 1), (2, vI i), (0, .ref hm)]) hx hb dX8_isSo_45 rfl hl (by decide) rfl (fun ls hl => ?_)
            obtain ⟨z46, e46⟩ : ∃ q : Int, q = i + 1 := ⟨_, rfl⟩
            refine ri_inc (lv' := [(2, vI z46), (1, vI 1), (0, .ref hm)]) hx hb dX8_isSo_46 hl (k := 1) rfl (by decide) z46 e46 rfl (fun ls hl => ?_)
            refine lv_goto (tgt := 4) hx hb dX8_isSo_49 (by decide) ?_
            exact ih4 1 z46 (by first | assumption | omega) (by
                  rcases hy with hy | hy
                  · first
                    | (refine Or.inl ⟨rfl, fun j h1 h2 => ?_⟩
                       by_cases q : j = i
                       · rw [q]; omega
                       · exact hy.2 j h1 (by omega))
                    | exact Or.inr ⟨rfl, fun q => c37 (by rw [q26]; exact q i (by omega) (by omega))⟩
                    | (exfalso; omega)
                  · first | exact Or.inr ⟨by omega, hy.2⟩ | (exfalso; omega)) (by omega) _ _ hP hD hS ls (lv_sub hl [0, 1, 2] rfl)
  exact L4 _ 1 0 (by first | assumption | omega) (by exact Or.inl ⟨rfl, fun j h1 h2 => by omega⟩) (Nat.lt_succ_self _) _ _ hP hD hS ls (lv_sub hl [0, 1, 2] rfl)
set_option maxHeartbeats 4000000 in
set_option maxRecDepth 100000 in
theorem k_X8_bareRate (l : Launch) (g : va_G) (ca : Nat → ClassId) (hm : Nat) (m0 : Nat) (m2 : Nat) (m3 : Nat) (m8 : Nat) (m9 : Nat) (m11 : Nat) (m12 : Nat) (m14 : Nat) (m19 : Nat) (m21 : Nat) (m22 : Nat) (m25 : Nat) (m26 : Nat) (un : Int) (mo : Int) (oft : Int) (la : Int) (du : Int) (to : Int) (tr : Int) (n : Int) (at0 : Int) (sa : Int) (vv : Int) (rdu : Int) (se : Int) (its : Int) (lt0 : Int) (w : Int → Int) (o : Int) (ho : 0 ≤ o ∧ o ≤ 4) : zI (S := Int) l yX8_bareRate wsX8_bareRate ({ frames := 0, cells := 0, slots := 0, locals := 0 } : Room) g ca [.ref hm, vI o] [(hm, oB 8 [.ref m0, vI un, .ref m2, .ref m3, vI mo, vI oft, vI la, vI du, .ref m8, .ref m9, vI to, .ref m11, .ref m12, vJ tr, .ref m14, vI n, vI at0, vI sa, vI vv, .ref m19, vI rdu, .ref m21, .ref m22, vI se, vI its, .ref m25, .ref m26, vJ lt0]), (m3, aI ca 5 w)] (fun (z : Int) (u : Int) => z = w o ∧ u = tr + 1) (fun (u : Int) => [(hm, oB 8 [.ref m0, vI un, .ref m2, .ref m3, vI mo, vI oft, vI la, vI du, .ref m8, .ref m9, vI to, .ref m11, .ref m12, vJ u, .ref m14, vI n, vI at0, vI sa, vI vv, .ref m19, vI rdu, .ref m21, .ref m22, vI se, vI its, .ref m25, .ref m26, vJ lt0]), (m3, aI ca 5 w)]) 0 0 := by
  refine zm_I (cc := cX8_bareRate) (maxL := 2) (ret := some .int) (by decide) rfl (Nat.le_of_ble_eq_true rfl) ?_
  intro p e s m below meth c A ls R args Q hR hargs hQ hx hb hml hr hts hown hlk hnm hK hP hD hA hS hl
  have hown : s.vm.findClass RX8 = some m.cls := hown
  have hl : lv_has ls 2 [(0, .ref hm), (1, vI o)] := hl
  have lk_f233 : (Cond.fieldLink RX8 233 "DripRingsModel" "trace" "J").before args s = true := hts _ (by decide +kernel)
  have inF_X8 : ∀ w ∈ wsX80, w ∈ wsX8_bareRate := by decide +kernel
  have lk_f17 : (Cond.fieldLink RX8 17 "DripRingsModel" "weights" "[I").before args s = true := hts _ (by decide +kernel)
  refine lv_aload_n hx hb dX8_bareRate_0 rfl (lv_at hl 0 rfl) ?_
  refine lv_dup hx hb dX8_bareRate_1 rfl ?_
  refine va_get (D := g) (ci := 8) (v := vJ tr) (C := RX8) (T := TX8) (N := 28) hx hb hts inF_X8 hown hK.1 hP 0 rfl rfl 13 (by decide) lk_f233 (fun _ h9 => h9) rfl dX8_bareRate_2 ?_
  refine lv_lconst (v := Int64.ofInt 1) hx hb dX8_bareRate_5 (by decide) ?_
  refine rj_add hx hb dX8_bareRate_6 (fun z6 e6 => ?_)
  refine va_put (D := g) (ci := 8) (v := vJ z6) (ty := .long) (C := RX8) (T := TX8) (N := 28) hx hb hts inF_X8 tyX8 tyX8_ok nmX8 hown hK.1 hP hD hS 0 rfl rfl 13 (by decide) lk_f233 (fun _ h9 => h9) rfl (by decide +kernel) rfl rfl (Nat.le_of_ble_eq_true rfl) dX8_bareRate_7 (fun H locs hP hD hS => ?_)
  have hP : va_P g vwCl [(hm, oB 8 [.ref m0, vI un, .ref m2, .ref m3, vI mo, vI oft, vI la, vI du, .ref m8, .ref m9, vI to, .ref m11, .ref m12, vJ z6, .ref m14, vI n, vI at0, vI sa, vI vv, .ref m19, vI rdu, .ref m21, .ref m22, vI se, vI its, .ref m25, .ref m26, vJ lt0]), (m3, aI ca 5 w)] H := hP
  have hD : va_D A [(hm, oB 8 [.ref m0, vI un, .ref m2, .ref m3, vI mo, vI oft, vI la, vI du, .ref m8, .ref m9, vI to, .ref m11, .ref m12, vJ z6, .ref m14, vI n, vI at0, vI sa, vI vv, .ref m19, vI rdu, .ref m21, .ref m22, vI se, vI its, .ref m25, .ref m26, vJ lt0]), (m3, aI ca 5 w)] := hD
  refine lv_aload_n hx hb dX8_bareRate_10 rfl (lv_at hl 0 rfl) ?_
  refine va_get (D := g) (ci := 8) (v := .ref m3) (C := RX8) (T := TX8) (N := 28) hx hb hts inF_X8 hown hK.1 hP 0 rfl rfl 3 (by decide) lk_f17 (fun _ h9 => h9) rfl dX8_bareRate_11 ?_
  refine lv_iload_n hx hb dX8_bareRate_14 rfl (lv_at hl 1 rfl) ?_
  refine ra_ild hx hb hK hP 1 rfl dX8_bareRate_15 ⟨by omega, by omega⟩ (by omega) ?_
  refine zr_I hx hb hr hlk hQ (z6) hP hD hS dX8_bareRate_16 (Nat.le_of_ble_eq_true rfl) (Nat.le_of_ble_eq_true rfl) ?_
  show (w o) = w o ∧ z6 = tr + 1
  exact ⟨rfl, e6⟩
set_option maxHeartbeats 4000000 in
set_option maxRecDepth 100000 in
theorem k_X8_brokenRate (l : Launch) (g : va_G) (ca : Nat → ClassId) (hm : Nat) (m0 : Nat) (m2 : Nat) (m3 : Nat) (m8 : Nat) (m9 : Nat) (m11 : Nat) (m12 : Nat) (m14 : Nat) (m19 : Nat) (m21 : Nat) (m22 : Nat) (m25 : Nat) (m26 : Nat) (un : Int) (mo : Int) (oft : Int) (la : Int) (du : Int) (to : Int) (tr : Int) (n : Int) (at0 : Int) (sa : Int) (vv : Int) (rdu : Int) (se : Int) (its : Int) (lt0 : Int) (w : Int → Int) (o : Int) (ho : 0 ≤ o ∧ o ≤ 4) : zI (S := Int) l yX8_brokenRate wsX8_brokenRate ({ frames := 1, cells := 0, slots := 0, locals := 21 } : Room) g ca [.ref hm, vI o] [(hm, oB 8 [.ref m0, vI un, .ref m2, .ref m3, vI mo, vI oft, vI la, vI du, .ref m8, .ref m9, vI to, .ref m11, .ref m12, vJ tr, .ref m14, vI n, vI at0, vI sa, vI vv, .ref m19, vI rdu, .ref m21, .ref m22, vI se, vI its, .ref m25, .ref m26, vJ lt0]), (m3, aI ca 5 w)] (fun (z : Int) (u : Int) => z = w o + mo ∧ u = tr + 11) (fun (u : Int) => [(hm, oB 8 [.ref m0, vI un, .ref m2, .ref m3, vI mo, vI oft, vI la, vI du, .ref m8, .ref m9, vI to, .ref m11, .ref m12, vJ u, .ref m14, vI n, vI at0, vI sa, vI vv, .ref m19, vI rdu, .ref m21, .ref m22, vI se, vI its, .ref m25, .ref m26, vJ lt0]), (m3, aI ca 5 w)]) 0 0 := by
  refine zm_I (cc := cX8_brokenRate) (maxL := 2) (ret := some .int) (by decide) rfl (Nat.le_of_ble_eq_true rfl) ?_
  intro p e s m below meth c A ls R args Q hR hargs hQ hx hb hml hr hts hown hlk hnm hK hP hD hA hS hl
  have hown : s.vm.findClass RX8 = some m.cls := hown
  have hl : lv_has ls 2 [(0, .ref hm), (1, vI o)] := hl
  have lk_f233 : (Cond.fieldLink RX8 233 "DripRingsModel" "trace" "J").before args s = true := hts _ (by decide +kernel)
  have inF_X8 : ∀ w ∈ wsX80, w ∈ wsX8_brokenRate := by decide +kernel
  have lk_c236 : (Cond.constantLong RX8 236 (10)).before args s = true := hts _ (by decide +kernel)
  have lk_f67 : (Cond.fieldLink RX8 67 "DripRingsModel" "drips" "I").before args s = true := hts _ (by decide +kernel)
  refine lv_aload_n hx hb dX8_brokenRate_0 rfl (lv_at hl 0 rfl) ?_
  refine lv_dup hx hb dX8_brokenRate_1 rfl ?_
  refine va_get (D := g) (ci := 8) (v := vJ tr) (C := RX8) (T := TX8) (N := 28) hx hb hts inF_X8 hown hK.1 hP 0 rfl rfl 13 (by decide) lk_f233 (fun _ h9 => h9) rfl dX8_brokenRate_2 ?_
  refine rj_ldc (z := 10) hx hb hown lk_c236 dX8_brokenRate_5 (by decide) ?_
  refine rj_add hx hb dX8_brokenRate_8 (fun z8 e8 => ?_)
  refine va_put (D := g) (ci := 8) (v := vJ z8) (ty := .long) (C := RX8) (T := TX8) (N := 28) hx hb hts inF_X8 tyX8 tyX8_ok nmX8 hown hK.1 hP hD hS 0 rfl rfl 13 (by decide) lk_f233 (fun _ h9 => h9) rfl (by decide +kernel) rfl rfl (Nat.le_of_ble_eq_true rfl) dX8_brokenRate_9 (fun H locs hP hD hS => ?_)
  have hP : va_P g vwCl [(hm, oB 8 [.ref m0, vI un, .ref m2, .ref m3, vI mo, vI oft, vI la, vI du, .ref m8, .ref m9, vI to, .ref m11, .ref m12, vJ z8, .ref m14, vI n, vI at0, vI sa, vI vv, .ref m19, vI rdu, .ref m21, .ref m22, vI se, vI its, .ref m25, .ref m26, vJ lt0]), (m3, aI ca 5 w)] H := hP
  have hD : va_D A [(hm, oB 8 [.ref m0, vI un, .ref m2, .ref m3, vI mo, vI oft, vI la, vI du, .ref m8, .ref m9, vI to, .ref m11, .ref m12, vJ z8, .ref m14, vI n, vI at0, vI sa, vI vv, .ref m19, vI rdu, .ref m21, .ref m22, vI se, vI its, .ref m25, .ref m26, vJ lt0]), (m3, aI ca 5 w)] := hD
  refine lv_aload_n hx hb dX8_brokenRate_12 rfl (lv_at hl 0 rfl) ?_
  refine lv_iload_n hx hb dX8_brokenRate_13 rfl (lv_at hl 1 rfl) ?_
  refine zc_VI (As := [vI o]) (rest := []) (wc := [(hm, oB 8 [.ref m0, vI un, .ref m2, .ref m3, vI mo, vI oft, vI la, vI du, .ref m8, .ref m9, vI to, .ref m11, .ref m12, vJ z8, .ref m14, vI n, vI at0, vI sa, vI vv, .ref m19, vI rdu, .ref m21, .ref m22, vI se, vI its, .ref m25, .ref m26, vJ lt0]), (m3, aI ca 5 w)]) (wr := []) (k_X8_bareRate l g ca hm m0 m2 m3 m8 m9 m11 m12 m14 m19 m21 m22 m25 m26 un mo oft la du to z8 n at0 sa vv rdu se its lt0 w o (by first | assumption | omega)) dX8_brokenRate_14 (cwV 1 hts gX8_brokenRate_X8_bareRate rfl rfl rfl (by decide +kernel) (by rw [hR]; exact ⟨Nat.le_of_ble_eq_true rfl, Nat.le_of_ble_eq_true rfl⟩)) ⟨hx, hb, hml, hown, hts⟩ hl.1 hK hP hD hS hA 0 rfl rfl rfl [0, 1] [] rfl (by decide) rfl (by decide) (by decide) rfl rfl (Nat.le_of_ble_eq_true rfl) (by rw [hR]; exact ⟨Nat.le_of_ble_eq_true rfl, Nat.le_of_ble_eq_true rfl⟩) (fun z14 u H locs q14 hP hD hS => ?_)
  obtain ⟨tr1_14, rfl⟩ : ∃ q, q = u := ⟨_, rfl⟩
  have q14 : z14 = w o ∧ tr1_14 = z8 + 1 := q14
  obtain ⟨q14_0, q14_1⟩ := q14
  have hP : va_P g vwCl [(hm, oB 8 [.ref m0, vI un, .ref m2, .ref m3, vI mo, vI oft, vI la, vI du, .ref m8, .ref m9, vI to, .ref m11, .ref m12, vJ tr1_14, .ref m14, vI n, vI at0, vI sa, vI vv, .ref m19, vI rdu, .ref m21, .ref m22, vI se, vI its, .ref m25, .ref m26, vJ lt0]), (m3, aI ca 5 w)] H := hP.sub [0, 1] rfl
  have hD : va_D A [(hm, oB 8 [.ref m0, vI un, .ref m2, .ref m3, vI mo, vI oft, vI la, vI du, .ref m8, .ref m9, vI to, .ref m11, .ref m12, vJ tr1_14, .ref m14, vI n, vI at0, vI sa, vI vv, .ref m19, vI rdu, .ref m21, .ref m22, vI se, vI its, .ref m25, .ref m26, vJ lt0]), (m3, aI ca 5 w)] := hD.sub [0, 1] (by decide) rfl
  refine lv_aload_n hx hb dX8_brokenRate_17 rfl (lv_at hl 0 rfl) ?_
  refine va_get (D := g) (ci := 8) (v := vI mo) (C := RX8) (T := TX8) (N := 28) hx hb hts inF_X8 hown hK.1 hP 0 rfl rfl 4 (by decide) lk_f67 (fun _ h9 => h9) rfl dX8_brokenRate_18 ?_
  refine ri_add hx hb dX8_brokenRate_21 (fun z21 e21 => ?_)
  refine zr_I hx hb hr hlk hQ (tr1_14) hP hD hS dX8_brokenRate_22 (Nat.le_of_ble_eq_true rfl) (Nat.le_of_ble_eq_true rfl) ?_
  show z21 = w o + mo ∧ tr1_14 = tr + 11
  omega
set_option maxHeartbeats 4000000 in
set_option maxRecDepth 100000 in
theorem k_X8_barrenRate (l : Launch) (g : va_G) (ca : Nat → ClassId) (hm : Nat) (m0 : Nat) (m2 : Nat) (m3 : Nat) (m8 : Nat) (m9 : Nat) (m11 : Nat) (m12 : Nat) (m14 : Nat) (m19 : Nat) (m21 : Nat) (m22 : Nat) (m25 : Nat) (m26 : Nat) (un : Int) (mo : Int) (oft : Int) (la : Int) (du : Int) (to : Int) (tr : Int) (n : Int) (at0 : Int) (sa : Int) (vv : Int) (rdu : Int) (se : Int) (its : Int) (lt0 : Int) (w : Int → Int) (o : Int) (ho : 0 ≤ o ∧ o ≤ 4) : zI (S := Int) l yX8_barrenRate wsX8_barrenRate ({ frames := 1, cells := 0, slots := 0, locals := 21 } : Room) g ca [.ref hm, vI o] [(hm, oB 8 [.ref m0, vI un, .ref m2, .ref m3, vI mo, vI oft, vI la, vI du, .ref m8, .ref m9, vI to, .ref m11, .ref m12, vJ tr, .ref m14, vI n, vI at0, vI sa, vI vv, .ref m19, vI rdu, .ref m21, .ref m22, vI se, vI its, .ref m25, .ref m26, vJ lt0]), (m3, aI ca 5 w)] (fun (z : Int) (u : Int) => z = w o - (ef oft la) o ∧ u = tr + 101) (fun (u : Int) => [(hm, oB 8 [.ref m0, vI un, .ref m2, .ref m3, vI mo, vI oft, vI la, vI du, .ref m8, .ref m9, vI to, .ref m11, .ref m12, vJ u, .ref m14, vI n, vI at0, vI sa, vI vv, .ref m19, vI rdu, .ref m21, .ref m22, vI se, vI its, .ref m25, .ref m26, vJ lt0]), (m3, aI ca 5 w)]) 0 0 := by
  refine zm_I (cc := cX8_barrenRate) (maxL := 2) (ret := some .int) (by decide) rfl (Nat.le_of_ble_eq_true rfl) ?_
  intro p e s m below meth c A ls R args Q hR hargs hQ hx hb hml hr hts hown hlk hnm hK hP hD hA hS hl
  have hown : s.vm.findClass RX8 = some m.cls := hown
  have hl : lv_has ls 2 [(0, .ref hm), (1, vI o)] := hl
  have lk_f233 : (Cond.fieldLink RX8 233 "DripRingsModel" "trace" "J").before args s = true := hts _ (by decide +kernel)
  have inF_X8 : ∀ w ∈ wsX80, w ∈ wsX8_barrenRate := by decide +kernel
  have lk_c241 : (Cond.constantLong RX8 241 (100)).before args s = true := hts _ (by decide +kernel)
  refine lv_aload_n hx hb dX8_barrenRate_0 rfl (lv_at hl 0 rfl) ?_
  refine lv_dup hx hb dX8_barrenRate_1 rfl ?_
  refine va_get (D := g) (ci := 8) (v := vJ tr) (C := RX8) (T := TX8) (N := 28) hx hb hts inF_X8 hown hK.1 hP 0 rfl rfl 13 (by decide) lk_f233 (fun _ h9 => h9) rfl dX8_barrenRate_2 ?_
  refine rj_ldc (z := 100) hx hb hown lk_c241 dX8_barrenRate_5 (by decide) ?_
  refine rj_add hx hb dX8_barrenRate_8 (fun z8 e8 => ?_)
  refine va_put (D := g) (ci := 8) (v := vJ z8) (ty := .long) (C := RX8) (T := TX8) (N := 28) hx hb hts inF_X8 tyX8 tyX8_ok nmX8 hown hK.1 hP hD hS 0 rfl rfl 13 (by decide) lk_f233 (fun _ h9 => h9) rfl (by decide +kernel) rfl rfl (Nat.le_of_ble_eq_true rfl) dX8_barrenRate_9 (fun H locs hP hD hS => ?_)
  have hP : va_P g vwCl [(hm, oB 8 [.ref m0, vI un, .ref m2, .ref m3, vI mo, vI oft, vI la, vI du, .ref m8, .ref m9, vI to, .ref m11, .ref m12, vJ z8, .ref m14, vI n, vI at0, vI sa, vI vv, .ref m19, vI rdu, .ref m21, .ref m22, vI se, vI its, .ref m25, .ref m26, vJ lt0]), (m3, aI ca 5 w)] H := hP
  have hD : va_D A [(hm, oB 8 [.ref m0, vI un, .ref m2, .ref m3, vI mo, vI oft, vI la, vI du, .ref m8, .ref m9, vI to, .ref m11, .ref m12, vJ z8, .ref m14, vI n, vI at0, vI sa, vI vv, .ref m19, vI rdu, .ref m21, .ref m22, vI se, vI its, .ref m25, .ref m26, vJ lt0]), (m3, aI ca 5 w)] := hD
  refine lv_aload_n hx hb dX8_barrenRate_12 rfl (lv_at hl 0 rfl) ?_
  refine lv_iload_n hx hb dX8_barrenRate_13 rfl (lv_at hl 1 rfl) ?_
  refine zc_VI (As := [vI o]) (rest := []) (wc := [(hm, oB 8 [.ref m0, vI un, .ref m2, .ref m3, vI mo, vI oft, vI la, vI du, .ref m8, .ref m9, vI to, .ref m11, .ref m12, vJ z8, .ref m14, vI n, vI at0, vI sa, vI vv, .ref m19, vI rdu, .ref m21, .ref m22, vI se, vI its, .ref m25, .ref m26, vJ lt0]), (m3, aI ca 5 w)]) (wr := []) (k_X8_bareRate l g ca hm m0 m2 m3 m8 m9 m11 m12 m14 m19 m21 m22 m25 m26 un mo oft la du to z8 n at0 sa vv rdu se its lt0 w o (by first | assumption | omega)) dX8_barrenRate_14 (cwV 1 hts gX8_barrenRate_X8_bareRate rfl rfl rfl (by decide +kernel) (by rw [hR]; exact ⟨Nat.le_of_ble_eq_true rfl, Nat.le_of_ble_eq_true rfl⟩)) ⟨hx, hb, hml, hown, hts⟩ hl.1 hK hP hD hS hA 0 rfl rfl rfl [0, 1] [] rfl (by decide) rfl (by decide) (by decide) rfl rfl (Nat.le_of_ble_eq_true rfl) (by rw [hR]; exact ⟨Nat.le_of_ble_eq_true rfl, Nat.le_of_ble_eq_true rfl⟩) (fun z14 u H locs q14 hP hD hS => ?_)
  obtain ⟨tr1_14, rfl⟩ : ∃ q, q = u := ⟨_, rfl⟩
  have q14 : z14 = w o ∧ tr1_14 = z8 + 1 := q14
  obtain ⟨q14_0, q14_1⟩ := q14
  have hP : va_P g vwCl [(hm, oB 8 [.ref m0, vI un, .ref m2, .ref m3, vI mo, vI oft, vI la, vI du, .ref m8, .ref m9, vI to, .ref m11, .ref m12, vJ tr1_14, .ref m14, vI n, vI at0, vI sa, vI vv, .ref m19, vI rdu, .ref m21, .ref m22, vI se, vI its, .ref m25, .ref m26, vJ lt0]), (m3, aI ca 5 w)] H := hP.sub [0, 1] rfl
  have hD : va_D A [(hm, oB 8 [.ref m0, vI un, .ref m2, .ref m3, vI mo, vI oft, vI la, vI du, .ref m8, .ref m9, vI to, .ref m11, .ref m12, vJ tr1_14, .ref m14, vI n, vI at0, vI sa, vI vv, .ref m19, vI rdu, .ref m21, .ref m22, vI se, vI its, .ref m25, .ref m26, vJ lt0]), (m3, aI ca 5 w)] := hD.sub [0, 1] (by decide) rfl
  refine lv_aload_n hx hb dX8_barrenRate_17 rfl (lv_at hl 0 rfl) ?_
  refine lv_iload_n hx hb dX8_barrenRate_18 rfl (lv_at hl 1 rfl) ?_
  refine zc_VI (As := [vI o]) (rest := [vI z14]) (wc := [(hm, oB 8 [.ref m0, vI un, .ref m2, .ref m3, vI mo, vI oft, vI la, vI du, .ref m8, .ref m9, vI to, .ref m11, .ref m12, vJ tr1_14, .ref m14, vI n, vI at0, vI sa, vI vv, .ref m19, vI rdu, .ref m21, .ref m22, vI se, vI its, .ref m25, .ref m26, vJ lt0])]) (wr := [(m3, aI ca 5 w)]) (k_X8_eachOf l g ca hm m0 m2 m3 m8 m9 m11 m12 m14 m19 m21 m22 m25 m26 un mo oft la du to tr1_14 n at0 sa vv rdu se its lt0 o ) dX8_barrenRate_19 (cwV 1 hts gX8_barrenRate_X8_eachOf rfl rfl rfl (by decide +kernel) (by rw [hR]; exact ⟨Nat.le_of_ble_eq_true rfl, Nat.le_of_ble_eq_true rfl⟩)) ⟨hx, hb, hml, hown, hts⟩ hl.1 hK hP hD hS hA 0 rfl rfl rfl [0] [1] rfl (by decide) rfl (by decide) (by decide) rfl rfl (Nat.le_of_ble_eq_true rfl) (by rw [hR]; exact ⟨Nat.le_of_ble_eq_true rfl, Nat.le_of_ble_eq_true rfl⟩) (fun z19 u H locs q19 hP hD hS => ?_)
  have q19 : z19 = ef oft la o := q19
  have hP : va_P g vwCl [(hm, oB 8 [.ref m0, vI un, .ref m2, .ref m3, vI mo, vI oft, vI la, vI du, .ref m8, .ref m9, vI to, .ref m11, .ref m12, vJ tr1_14, .ref m14, vI n, vI at0, vI sa, vI vv, .ref m19, vI rdu, .ref m21, .ref m22, vI se, vI its, .ref m25, .ref m26, vJ lt0]), (m3, aI ca 5 w)] H := hP.sub [1, 0] rfl
  have hD : va_D A [(hm, oB 8 [.ref m0, vI un, .ref m2, .ref m3, vI mo, vI oft, vI la, vI du, .ref m8, .ref m9, vI to, .ref m11, .ref m12, vJ tr1_14, .ref m14, vI n, vI at0, vI sa, vI vv, .ref m19, vI rdu, .ref m21, .ref m22, vI se, vI its, .ref m25, .ref m26, vJ lt0]), (m3, aI ca 5 w)] := hD.sub [1, 0] (by decide) rfl
  refine ri_sub hx hb dX8_barrenRate_22 (fun z22 e22 => ?_)
  refine zr_I hx hb hr hlk hQ (tr1_14) hP hD hS dX8_barrenRate_23 (Nat.le_of_ble_eq_true rfl) (Nat.le_of_ble_eq_true rfl) ?_
  show z22 = w o - (ef oft la) o ∧ tr1_14 = tr + 101
  omega
set_option maxHeartbeats 4000000 in
set_option maxRecDepth 100000 in
theorem k_X8_rate (l : Launch) (g : va_G) (ca : Nat → ClassId) (hm : Nat) (m0 : Nat) (m2 : Nat) (m3 : Nat) (m8 : Nat) (m9 : Nat) (m11 : Nat) (m12 : Nat) (m14 : Nat) (m19 : Nat) (m21 : Nat) (m22 : Nat) (m25 : Nat) (m26 : Nat) (un : Int) (mo : Int) (oft : Int) (la : Int) (du : Int) (to : Int) (tr : Int) (n : Int) (at0 : Int) (sa : Int) (vv : Int) (rdu : Int) (se : Int) (its : Int) (lt0 : Int) (d : Int → Int) (w : Int → Int) (kd0 : Int) (o : Int) (b : Int → Int) (nn : Int) (ml : Int) (hAT : AT d 0 b nn ml) (hB : GB b nn) (hx0 : in32 kd0) (hx1 : in32 o) : zI (S := Int) l yX8_rate wsX8_rate ({ frames := 2, cells := 0, slots := 0, locals := 45 } : Room) g ca [.ref hm, vI kd0, vI o] [(hm, oB 8 [.ref m0, vI un, .ref m2, .ref m3, vI mo, vI oft, vI la, vI du, .ref m8, .ref m9, vI to, .ref m11, .ref m12, vJ tr, .ref m14, vI n, vI at0, vI sa, vI vv, .ref m19, vI rdu, .ref m21, .ref m22, vI se, vI its, .ref m25, .ref m26, vJ lt0]), (m0, aJ ca 7284 d), (m3, aI ca 5 w)] (fun (z : Int) (u : Int) => z = (if 0 ≤ o ∧ o ≤ 4 then rtv kd0 w (ef oft la) mo nn o else -1000000) ∧ u = tr + (if 0 ≤ o ∧ o ≤ 4 then rtt kd0 else 0)) (fun (u : Int) => [(hm, oB 8 [.ref m0, vI un, .ref m2, .ref m3, vI mo, vI oft, vI la, vI du, .ref m8, .ref m9, vI to, .ref m11, .ref m12, vJ u, .ref m14, vI n, vI at0, vI sa, vI vv, .ref m19, vI rdu, .ref m21, .ref m22, vI se, vI its, .ref m25, .ref m26, vJ lt0]), (m0, aJ ca 7284 d), (m3, aI ca 5 w)]) 0 0 := by
  refine zm_I (cc := cX8_rate) (maxL := 3) (ret := some .int) (by decide) rfl (Nat.le_of_ble_eq_true rfl) ?_
  intro p e s m below meth c A ls R args Q hR hargs hQ hx hb hml hr hts hown hlk hnm hK hP hD hA hS hl
  have hown : s.vm.findClass RX8 = some m.cls := hown
  have hl : lv_has ls 3 [(0, .ref hm), (1, vI kd0), (2, vI o)] := hl
  have lk_c243 : (Cond.constantLong RX8 243 (5)).before args s = true := hts _ (by decide +kernel)
  have lk_c245 : (Cond.constant RX8 245 (-1000000)).before args s = true := hts _ (by decide +kernel)
  have lk_f233 : (Cond.fieldLink RX8 233 "DripRingsModel" "trace" "J").before args s = true := hts _ (by decide +kernel)
  have inF_X8 : ∀ w ∈ wsX80, w ∈ wsX8_rate := by decide +kernel
  have lk_c231 : (Cond.constantLong RX8 231 (1000)).before args s = true := hts _ (by decide +kernel)
  have lk_c252 : (Cond.constantLong RX8 252 (10000)).before args s = true := hts _ (by decide +kernel)
  have lk_c254 : (Cond.constantLong RX8 254 (100000)).before args s = true := hts _ (by decide +kernel)
  have lk_f7 : (Cond.fieldLink RX8 7 "DripRingsModel" "d" "[J").before args s = true := hts _ (by decide +kernel)
  have hd606 : d 606 = nn := by have := hAT.2.2; rw [show (0 : Int) + 606 = 606 from rfl] at this; exact this
  have hn0 := hB.1
  refine lv_iload_n hx hb dX8_rate_0 rfl (lv_at hl 1 rfl) ?_
  refine ri_l hx hb dX8_rate_1 hx0 ?_
  refine lv_lconst (v := Int64.ofInt 0) hx hb dX8_rate_2 (by decide) ?_
  refine rj_ldc (z := 5) hx hb hown lk_c243 dX8_rate_3 (by decide) ?_
  refine zc_SI (As := [vJ kd0, vJ 0, vJ 5]) (rest := []) (wc := []) (wr := [(hm, oB 8 [.ref m0, vI un, .ref m2, .ref m3, vI mo, vI oft, vI la, vI du, .ref m8, .ref m9, vI to, .ref m11, .ref m12, vJ tr, .ref m14, vI n, vI at0, vI sa, vI vv, .ref m19, vI rdu, .ref m21, .ref m22, vI se, vI its, .ref m25, .ref m26, vJ lt0]), (m0, aJ ca 7284 d), (m3, aI ca 5 w)]) (k_X8_in l g ca kd0 0 5 (by exact ⟨by omega, by omega⟩) (by exact ⟨by omega, by omega⟩) (by exact ⟨by omega, by omega⟩)) dX8_rate_6 (va_cwS 3 hts gX8_rate_X8_in rfl rfl rfl (by decide +kernel) (by rw [hR]; exact ⟨Nat.le_of_ble_eq_true rfl, Nat.le_of_ble_eq_true rfl⟩)) ⟨hx, hb, hml, hown, hts⟩ hl.1 hK hP hD hS hA [] [0, 1, 2] rfl (by decide) rfl (by decide) (by decide) rfl rfl (Nat.le_of_ble_eq_true rfl) (by rw [hR]; exact ⟨Nat.le_of_ble_eq_true rfl, Nat.le_of_ble_eq_true rfl⟩) (fun z6 u H locs q6 hP hD hS => ?_)
  have q6 : (z6 = 1 ∧ 0 ≤ kd0 ∧ kd0 ≤ 5) ∨ (z6 = 0 ∧ ¬ (0 ≤ kd0 ∧ kd0 ≤ 5)) := q6
  have hP : va_P g vwCl [(hm, oB 8 [.ref m0, vI un, .ref m2, .ref m3, vI mo, vI oft, vI la, vI du, .ref m8, .ref m9, vI to, .ref m11, .ref m12, vJ tr, .ref m14, vI n, vI at0, vI sa, vI vv, .ref m19, vI rdu, .ref m21, .ref m22, vI se, vI its, .ref m25, .ref m26, vJ lt0]), (m0, aJ ca 7284 d), (m3, aI ca 5 w)] H := hP.sub [0, 1, 2] rfl
  have hD : va_D A [(hm, oB 8 [.ref m0, vI un, .ref m2, .ref m3, vI mo, vI oft, vI la, vI du, .ref m8, .ref m9, vI to, .ref m11, .ref m12, vJ tr, .ref m14, vI n, vI at0, vI sa, vI vv, .ref m19, vI rdu, .ref m21, .ref m22, vI se, vI its, .ref m25, .ref m26, vJ lt0]), (m0, aJ ca 7284 d), (m3, aI ca 5 w)] := hD.sub [0, 1, 2] (by decide) rfl
  refine ri_if_eq (tgt := 19) hx hb dX8_rate_9 (by decide) ⟨by omega, by omega⟩ (fun c9 => ?_) (fun c9 => ?_)
  · skip
    refine ri_ldc (z := (-1000000)) hx hb hown lk_c245 dX8_rate_19 (by decide) ?_
    refine zr_I hx hb hr hlk hQ (tr) hP hD hS dX8_rate_21 (Nat.le_of_ble_eq_true rfl) (Nat.le_of_ble_eq_true rfl) ?_
    show (-1000000) = (if 0 ≤ o ∧ o ≤ 4 then rtv kd0 w (ef oft la) mo nn o else -1000000) ∧ tr = tr + (if 0 ≤ o ∧ o ≤ 4 then rtt kd0 else 0)
    unfold rtv rtt
    refine ⟨?_, ?_⟩ <;> (repeat' split) <;> omega
  · skip
    refine lv_iload_n hx hb dX8_rate_12 rfl (lv_at hl 2 rfl) ?_
    refine zc_SI (As := [vI o]) (rest := []) (wc := []) (wr := [(hm, oB 8 [.ref m0, vI un, .ref m2, .ref m3, vI mo, vI oft, vI la, vI du, .ref m8, .ref m9, vI to, .ref m11, .ref m12, vJ tr, .ref m14, vI n, vI at0, vI sa, vI vv, .ref m19, vI rdu, .ref m21, .ref m22, vI se, vI its, .ref m25, .ref m26, vJ lt0]), (m0, aJ ca 7284 d), (m3, aI ca 5 w)]) (k_X8_isOrder l g ca o (by exact hx1)) dX8_rate_13 (va_cwS 1 hts gX8_rate_X8_isOrder rfl rfl rfl (by decide +kernel) (by rw [hR]; exact ⟨Nat.le_of_ble_eq_true rfl, Nat.le_of_ble_eq_true rfl⟩)) ⟨hx, hb, hml, hown, hts⟩ hl.1 hK hP hD hS hA [] [0, 1, 2] rfl (by decide) rfl (by decide) (by decide) rfl rfl (Nat.le_of_ble_eq_true rfl) (by rw [hR]; exact ⟨Nat.le_of_ble_eq_true rfl, Nat.le_of_ble_eq_true rfl⟩) (fun z13 u H locs q13 hP hD hS => ?_)
    have q13 : (z13 = 1 ∧ 0 ≤ o ∧ o ≤ 4) ∨ (z13 = 0 ∧ ¬ (0 ≤ o ∧ o ≤ 4)) := q13
    have hP : va_P g vwCl [(hm, oB 8 [.ref m0, vI un, .ref m2, .ref m3, vI mo, vI oft, vI la, vI du, .ref m8, .ref m9, vI to, .ref m11, .ref m12, vJ tr, .ref m14, vI n, vI at0, vI sa, vI vv, .ref m19, vI rdu, .ref m21, .ref m22, vI se, vI its, .ref m25, .ref m26, vJ lt0]), (m0, aJ ca 7284 d), (m3, aI ca 5 w)] H := hP.sub [0, 1, 2] rfl
    have hD : va_D A [(hm, oB 8 [.ref m0, vI un, .ref m2, .ref m3, vI mo, vI oft, vI la, vI du, .ref m8, .ref m9, vI to, .ref m11, .ref m12, vJ tr, .ref m14, vI n, vI at0, vI sa, vI vv, .ref m19, vI rdu, .ref m21, .ref m22, vI se, vI its, .ref m25, .ref m26, vJ lt0]), (m0, aJ ca 7284 d), (m3, aI ca 5 w)] := hD.sub [0, 1, 2] (by decide) rfl
    refine ri_if_ne (tgt := 22) hx hb dX8_rate_16 (by decide) ⟨by omega, by omega⟩ (fun c16 => ?_) (fun c16 => ?_)
    · skip
      refine lv_iload_n hx hb dX8_rate_22 rfl (lv_at hl 1 rfl) ?_
      by_cases c23 : kd0 = 1
      · skip
        refine ri_to c23 ?_
        refine lv_tableIn (tgt := 56) hx hb dX8_rate_23 (by rw [xi_to ⟨by omega, by omega⟩]; omega) (by rw [xi_to ⟨by omega, by omega⟩]; omega) (off := 33) (by rw [xi_to ⟨by omega, by omega⟩]; rfl) (by decide) ?_
        refine lv_aload_n hx hb dX8_rate_56 rfl (lv_at hl 0 rfl) ?_
        refine lv_iload_n hx hb dX8_rate_57 rfl (lv_at hl 2 rfl) ?_
        refine zc_VI (As := [vI o]) (rest := []) (wc := [(hm, oB 8 [.ref m0, vI un, .ref m2, .ref m3, vI mo, vI oft, vI la, vI du, .ref m8, .ref m9, vI to, .ref m11, .ref m12, vJ tr, .ref m14, vI n, vI at0, vI sa, vI vv, .ref m19, vI rdu, .ref m21, .ref m22, vI se, vI its, .ref m25, .ref m26, vJ lt0]), (m3, aI ca 5 w)]) (wr := [(m0, aJ ca 7284 d)]) (k_X8_brokenRate l g ca hm m0 m2 m3 m8 m9 m11 m12 m14 m19 m21 m22 m25 m26 un mo oft la du to tr n at0 sa vv rdu se its lt0 w o (by first | assumption | omega)) dX8_rate_58 (cwV 1 hts gX8_rate_X8_brokenRate rfl rfl rfl (by decide +kernel) (by rw [hR]; exact ⟨Nat.le_of_ble_eq_true rfl, Nat.le_of_ble_eq_true rfl⟩)) ⟨hx, hb, hml, hown, hts⟩ hl.1 hK hP hD hS hA 0 rfl rfl rfl [0, 2] [1] rfl (by decide) rfl (by decide) (by decide) rfl rfl (Nat.le_of_ble_eq_true rfl) (by rw [hR]; exact ⟨Nat.le_of_ble_eq_true rfl, Nat.le_of_ble_eq_true rfl⟩) (fun z58 u H locs q58 hP hD hS => ?_)
        obtain ⟨tr1_58, rfl⟩ : ∃ q, q = u := ⟨_, rfl⟩
        have q58 : z58 = w o + mo ∧ tr1_58 = tr + 11 := q58
        obtain ⟨q58_0, q58_1⟩ := q58
        have hP : va_P g vwCl [(hm, oB 8 [.ref m0, vI un, .ref m2, .ref m3, vI mo, vI oft, vI la, vI du, .ref m8, .ref m9, vI to, .ref m11, .ref m12, vJ tr1_58, .ref m14, vI n, vI at0, vI sa, vI vv, .ref m19, vI rdu, .ref m21, .ref m22, vI se, vI its, .ref m25, .ref m26, vJ lt0]), (m0, aJ ca 7284 d), (m3, aI ca 5 w)] H := hP.sub [1, 0, 2] rfl
        have hD : va_D A [(hm, oB 8 [.ref m0, vI un, .ref m2, .ref m3, vI mo, vI oft, vI la, vI du, .ref m8, .ref m9, vI to, .ref m11, .ref m12, vJ tr1_58, .ref m14, vI n, vI at0, vI sa, vI vv, .ref m19, vI rdu, .ref m21, .ref m22, vI se, vI its, .ref m25, .ref m26, vJ lt0]), (m0, aJ ca 7284 d), (m3, aI ca 5 w)] := hD.sub [1, 0, 2] (by decide) rfl
        refine zr_I hx hb hr hlk hQ (tr1_58) hP hD hS dX8_rate_61 (Nat.le_of_ble_eq_true rfl) (Nat.le_of_ble_eq_true rfl) ?_
        show z58 = (if 0 ≤ o ∧ o ≤ 4 then rtv kd0 w (ef oft la) mo nn o else -1000000) ∧ tr1_58 = tr + (if 0 ≤ o ∧ o ≤ 4 then rtt kd0 else 0)
        unfold rtv rtt
        refine ⟨?_, ?_⟩ <;> (repeat' split) <;> omega
      by_cases c23_2 : kd0 = 2
      · skip
        refine ri_to c23_2 ?_
        refine lv_tableIn (tgt := 62) hx hb dX8_rate_23 (by rw [xi_to ⟨by omega, by omega⟩]; omega) (by rw [xi_to ⟨by omega, by omega⟩]; omega) (off := 39) (by rw [xi_to ⟨by omega, by omega⟩]; rfl) (by decide) ?_
        refine lv_aload_n hx hb dX8_rate_62 rfl (lv_at hl 0 rfl) ?_
        refine lv_iload_n hx hb dX8_rate_63 rfl (lv_at hl 2 rfl) ?_
        refine zc_VI (As := [vI o]) (rest := []) (wc := [(hm, oB 8 [.ref m0, vI un, .ref m2, .ref m3, vI mo, vI oft, vI la, vI du, .ref m8, .ref m9, vI to, .ref m11, .ref m12, vJ tr, .ref m14, vI n, vI at0, vI sa, vI vv, .ref m19, vI rdu, .ref m21, .ref m22, vI se, vI its, .ref m25, .ref m26, vJ lt0]), (m3, aI ca 5 w)]) (wr := [(m0, aJ ca 7284 d)]) (k_X8_barrenRate l g ca hm m0 m2 m3 m8 m9 m11 m12 m14 m19 m21 m22 m25 m26 un mo oft la du to tr n at0 sa vv rdu se its lt0 w o (by first | assumption | omega)) dX8_rate_64 (cwV 1 hts gX8_rate_X8_barrenRate rfl rfl rfl (by decide +kernel) (by rw [hR]; exact ⟨Nat.le_of_ble_eq_true rfl, Nat.le_of_ble_eq_true rfl⟩)) ⟨hx, hb, hml, hown, hts⟩ hl.1 hK hP hD hS hA 0 rfl rfl rfl [0, 2] [1] rfl (by decide) rfl (by decide) (by decide) rfl rfl (Nat.le_of_ble_eq_true rfl) (by rw [hR]; exact ⟨Nat.le_of_ble_eq_true rfl, Nat.le_of_ble_eq_true rfl⟩) (fun z64 u H locs q64 hP hD hS => ?_)
        obtain ⟨tr1_64, rfl⟩ : ∃ q, q = u := ⟨_, rfl⟩
        have q64 : z64 = w o - (ef oft la) o ∧ tr1_64 = tr + 101 := q64
        obtain ⟨q64_0, q64_1⟩ := q64
        have hP : va_P g vwCl [(hm, oB 8 [.ref m0, vI un, .ref m2, .ref m3, vI mo, vI oft, vI la, vI du, .ref m8, .ref m9, vI to, .ref m11, .ref m12, vJ tr1_64, .ref m14, vI n, vI at0, vI sa, vI vv, .ref m19, vI rdu, .ref m21, .ref m22, vI se, vI its, .ref m25, .ref m26, vJ lt0]), (m0, aJ ca 7284 d), (m3, aI ca 5 w)] H := hP.sub [1, 0, 2] rfl
        have hD : va_D A [(hm, oB 8 [.ref m0, vI un, .ref m2, .ref m3, vI mo, vI oft, vI la, vI du, .ref m8, .ref m9, vI to, .ref m11, .ref m12, vJ tr1_64, .ref m14, vI n, vI at0, vI sa, vI vv, .ref m19, vI rdu, .ref m21, .ref m22, vI se, vI its, .ref m25, .ref m26, vJ lt0]), (m0, aJ ca 7284 d), (m3, aI ca 5 w)] := hD.sub [1, 0, 2] (by decide) rfl
        refine zr_I hx hb hr hlk hQ (tr1_64) hP hD hS dX8_rate_67 (Nat.le_of_ble_eq_true rfl) (Nat.le_of_ble_eq_true rfl) ?_
        show z64 = (if 0 ≤ o ∧ o ≤ 4 then rtv kd0 w (ef oft la) mo nn o else -1000000) ∧ tr1_64 = tr + (if 0 ≤ o ∧ o ≤ 4 then rtt kd0 else 0)
        unfold rtv rtt
        refine ⟨?_, ?_⟩ <;> (repeat' split) <;> omega
      by_cases c23_3 : kd0 = 3
      · skip
        refine ri_to c23_3 ?_
        refine lv_tableIn (tgt := 68) hx hb dX8_rate_23 (by rw [xi_to ⟨by omega, by omega⟩]; omega) (by rw [xi_to ⟨by omega, by omega⟩]; omega) (off := 45) (by rw [xi_to ⟨by omega, by omega⟩]; rfl) (by decide) ?_
        refine lv_aload_n hx hb dX8_rate_68 rfl (lv_at hl 0 rfl) ?_
        refine lv_dup hx hb dX8_rate_69 rfl ?_
        refine va_get (D := g) (ci := 8) (v := vJ tr) (C := RX8) (T := TX8) (N := 28) hx hb hts inF_X8 hown hK.1 hP 0 rfl rfl 13 (by decide) lk_f233 (fun _ h9 => h9) rfl dX8_rate_70 ?_
        refine rj_ldc (z := 1000) hx hb hown lk_c231 dX8_rate_73 (by decide) ?_
        refine rj_add hx hb dX8_rate_76 (fun z76 e76 => ?_)
        refine va_put (D := g) (ci := 8) (v := vJ z76) (ty := .long) (C := RX8) (T := TX8) (N := 28) hx hb hts inF_X8 tyX8 tyX8_ok nmX8 hown hK.1 hP hD hS 0 rfl rfl 13 (by decide) lk_f233 (fun _ h9 => h9) rfl (by decide +kernel) rfl rfl (Nat.le_of_ble_eq_true rfl) dX8_rate_77 (fun H locs hP hD hS => ?_)
        have hP : va_P g vwCl [(hm, oB 8 [.ref m0, vI un, .ref m2, .ref m3, vI mo, vI oft, vI la, vI du, .ref m8, .ref m9, vI to, .ref m11, .ref m12, vJ z76, .ref m14, vI n, vI at0, vI sa, vI vv, .ref m19, vI rdu, .ref m21, .ref m22, vI se, vI its, .ref m25, .ref m26, vJ lt0]), (m0, aJ ca 7284 d), (m3, aI ca 5 w)] H := hP
        have hD : va_D A [(hm, oB 8 [.ref m0, vI un, .ref m2, .ref m3, vI mo, vI oft, vI la, vI du, .ref m8, .ref m9, vI to, .ref m11, .ref m12, vJ z76, .ref m14, vI n, vI at0, vI sa, vI vv, .ref m19, vI rdu, .ref m21, .ref m22, vI se, vI its, .ref m25, .ref m26, vJ lt0]), (m0, aJ ca 7284 d), (m3, aI ca 5 w)] := hD
        refine lv_iconst (v := Int32.ofInt 2) hx hb dX8_rate_80 rfl ?_
        refine lv_aload_n hx hb dX8_rate_81 rfl (lv_at hl 0 rfl) ?_
        refine lv_iload_n hx hb dX8_rate_82 rfl (lv_at hl 2 rfl) ?_
        refine zc_VI (As := [vI o]) (rest := [vI 2]) (wc := [(hm, oB 8 [.ref m0, vI un, .ref m2, .ref m3, vI mo, vI oft, vI la, vI du, .ref m8, .ref m9, vI to, .ref m11, .ref m12, vJ z76, .ref m14, vI n, vI at0, vI sa, vI vv, .ref m19, vI rdu, .ref m21, .ref m22, vI se, vI its, .ref m25, .ref m26, vJ lt0]), (m3, aI ca 5 w)]) (wr := [(m0, aJ ca 7284 d)]) (k_X8_brokenRate l g ca hm m0 m2 m3 m8 m9 m11 m12 m14 m19 m21 m22 m25 m26 un mo oft la du to z76 n at0 sa vv rdu se its lt0 w o (by first | assumption | omega)) dX8_rate_83 (cwV 1 hts gX8_rate_X8_brokenRate rfl rfl rfl (by decide +kernel) (by rw [hR]; exact ⟨Nat.le_of_ble_eq_true rfl, Nat.le_of_ble_eq_true rfl⟩)) ⟨hx, hb, hml, hown, hts⟩ hl.1 hK hP hD hS hA 0 rfl rfl rfl [0, 2] [1] rfl (by decide) rfl (by decide) (by decide) rfl rfl (Nat.le_of_ble_eq_true rfl) (by rw [hR]; exact ⟨Nat.le_of_ble_eq_true rfl, Nat.le_of_ble_eq_true rfl⟩) (fun z83 u H locs q83 hP hD hS => ?_)
        obtain ⟨tr1_83, rfl⟩ : ∃ q, q = u := ⟨_, rfl⟩
        have q83 : z83 = w o + mo ∧ tr1_83 = z76 + 11 := q83
        obtain ⟨q83_0, q83_1⟩ := q83
        have hP : va_P g vwCl [(hm, oB 8 [.ref m0, vI un, .ref m2, .ref m3, vI mo, vI oft, vI la, vI du, .ref m8, .ref m9, vI to, .ref m11, .ref m12, vJ tr1_83, .ref m14, vI n, vI at0, vI sa, vI vv, .ref m19, vI rdu, .ref m21, .ref m22, vI se, vI its, .ref m25, .ref m26, vJ lt0]), (m0, aJ ca 7284 d), (m3, aI ca 5 w)] H := hP.sub [1, 0, 2] rfl
        have hD : va_D A [(hm, oB 8 [.ref m0, vI un, .ref m2, .ref m3, vI mo, vI oft, vI la, vI du, .ref m8, .ref m9, vI to, .ref m11, .ref m12, vJ tr1_83, .ref m14, vI n, vI at0, vI sa, vI vv, .ref m19, vI rdu, .ref m21, .ref m22, vI se, vI its, .ref m25, .ref m26, vJ lt0]), (m0, aJ ca 7284 d), (m3, aI ca 5 w)] := hD.sub [1, 0, 2] (by decide) rfl
        refine ri_mul hx hb dX8_rate_86 (fun z86 e86 => ?_)
        refine zr_I hx hb hr hlk hQ (tr1_83) hP hD hS dX8_rate_87 (Nat.le_of_ble_eq_true rfl) (Nat.le_of_ble_eq_true rfl) ?_
        show z86 = (if 0 ≤ o ∧ o ≤ 4 then rtv kd0 w (ef oft la) mo nn o else -1000000) ∧ tr1_83 = tr + (if 0 ≤ o ∧ o ≤ 4 then rtt kd0 else 0)
        unfold rtv rtt
        refine ⟨?_, ?_⟩ <;> (repeat' split) <;> omega
      by_cases c23_4 : kd0 = 4
      · skip
        refine ri_to c23_4 ?_
        refine lv_tableIn (tgt := 88) hx hb dX8_rate_23 (by rw [xi_to ⟨by omega, by omega⟩]; omega) (by rw [xi_to ⟨by omega, by omega⟩]; omega) (off := 65) (by rw [xi_to ⟨by omega, by omega⟩]; rfl) (by decide) ?_
        refine lv_aload_n hx hb dX8_rate_88 rfl (lv_at hl 0 rfl) ?_
        refine lv_dup hx hb dX8_rate_89 rfl ?_
        refine va_get (D := g) (ci := 8) (v := vJ tr) (C := RX8) (T := TX8) (N := 28) hx hb hts inF_X8 hown hK.1 hP 0 rfl rfl 13 (by decide) lk_f233 (fun _ h9 => h9) rfl dX8_rate_90 ?_
        refine rj_ldc (z := 10000) hx hb hown lk_c252 dX8_rate_93 (by decide) ?_
        refine rj_add hx hb dX8_rate_96 (fun z96 e96 => ?_)
        refine va_put (D := g) (ci := 8) (v := vJ z96) (ty := .long) (C := RX8) (T := TX8) (N := 28) hx hb hts inF_X8 tyX8 tyX8_ok nmX8 hown hK.1 hP hD hS 0 rfl rfl 13 (by decide) lk_f233 (fun _ h9 => h9) rfl (by decide +kernel) rfl rfl (Nat.le_of_ble_eq_true rfl) dX8_rate_97 (fun H locs hP hD hS => ?_)
        have hP : va_P g vwCl [(hm, oB 8 [.ref m0, vI un, .ref m2, .ref m3, vI mo, vI oft, vI la, vI du, .ref m8, .ref m9, vI to, .ref m11, .ref m12, vJ z96, .ref m14, vI n, vI at0, vI sa, vI vv, .ref m19, vI rdu, .ref m21, .ref m22, vI se, vI its, .ref m25, .ref m26, vJ lt0]), (m0, aJ ca 7284 d), (m3, aI ca 5 w)] H := hP
        have hD : va_D A [(hm, oB 8 [.ref m0, vI un, .ref m2, .ref m3, vI mo, vI oft, vI la, vI du, .ref m8, .ref m9, vI to, .ref m11, .ref m12, vJ z96, .ref m14, vI n, vI at0, vI sa, vI vv, .ref m19, vI rdu, .ref m21, .ref m22, vI se, vI its, .ref m25, .ref m26, vJ lt0]), (m0, aJ ca 7284 d), (m3, aI ca 5 w)] := hD
        refine lv_aload_n hx hb dX8_rate_100 rfl (lv_at hl 0 rfl) ?_
        refine lv_iload_n hx hb dX8_rate_101 rfl (lv_at hl 2 rfl) ?_
        refine zc_VI (As := [vI o]) (rest := []) (wc := [(hm, oB 8 [.ref m0, vI un, .ref m2, .ref m3, vI mo, vI oft, vI la, vI du, .ref m8, .ref m9, vI to, .ref m11, .ref m12, vJ z96, .ref m14, vI n, vI at0, vI sa, vI vv, .ref m19, vI rdu, .ref m21, .ref m22, vI se, vI its, .ref m25, .ref m26, vJ lt0]), (m3, aI ca 5 w)]) (wr := [(m0, aJ ca 7284 d)]) (k_X8_barrenRate l g ca hm m0 m2 m3 m8 m9 m11 m12 m14 m19 m21 m22 m25 m26 un mo oft la du to z96 n at0 sa vv rdu se its lt0 w o (by first | assumption | omega)) dX8_rate_102 (cwV 1 hts gX8_rate_X8_barrenRate rfl rfl rfl (by decide +kernel) (by rw [hR]; exact ⟨Nat.le_of_ble_eq_true rfl, Nat.le_of_ble_eq_true rfl⟩)) ⟨hx, hb, hml, hown, hts⟩ hl.1 hK hP hD hS hA 0 rfl rfl rfl [0, 2] [1] rfl (by decide) rfl (by decide) (by decide) rfl rfl (Nat.le_of_ble_eq_true rfl) (by rw [hR]; exact ⟨Nat.le_of_ble_eq_true rfl, Nat.le_of_ble_eq_true rfl⟩) (fun z102 u H locs q102 hP hD hS => ?_)
        obtain ⟨tr1_102, rfl⟩ : ∃ q, q = u := ⟨_, rfl⟩
        have q102 : z102 = w o - (ef oft la) o ∧ tr1_102 = z96 + 101 := q102
        obtain ⟨q102_0, q102_1⟩ := q102
        have hP : va_P g vwCl [(hm, oB 8 [.ref m0, vI un, .ref m2, .ref m3, vI mo, vI oft, vI la, vI du, .ref m8, .ref m9, vI to, .ref m11, .ref m12, vJ tr1_102, .ref m14, vI n, vI at0, vI sa, vI vv, .ref m19, vI rdu, .ref m21, .ref m22, vI se, vI its, .ref m25, .ref m26, vJ lt0]), (m0, aJ ca 7284 d), (m3, aI ca 5 w)] H := hP.sub [1, 0, 2] rfl
        have hD : va_D A [(hm, oB 8 [.ref m0, vI un, .ref m2, .ref m3, vI mo, vI oft, vI la, vI du, .ref m8, .ref m9, vI to, .ref m11, .ref m12, vJ tr1_102, .ref m14, vI n, vI at0, vI sa, vI vv, .ref m19, vI rdu, .ref m21, .ref m22, vI se, vI its, .ref m25, .ref m26, vJ lt0]), (m0, aJ ca 7284 d), (m3, aI ca 5 w)] := hD.sub [1, 0, 2] (by decide) rfl
        refine lv_iload_n hx hb dX8_rate_105 rfl (lv_at hl 2 rfl) ?_
        refine ri_add hx hb dX8_rate_106 (fun z106 e106 => ?_)
        refine zr_I hx hb hr hlk hQ (tr1_102) hP hD hS dX8_rate_107 (Nat.le_of_ble_eq_true rfl) (Nat.le_of_ble_eq_true rfl) ?_
        show z106 = (if 0 ≤ o ∧ o ≤ 4 then rtv kd0 w (ef oft la) mo nn o else -1000000) ∧ tr1_102 = tr + (if 0 ≤ o ∧ o ≤ 4 then rtt kd0 else 0)
        unfold rtv rtt
        refine ⟨?_, ?_⟩ <;> (repeat' split) <;> omega
      by_cases c23_5 : kd0 = 5
      · skip
        refine ri_to c23_5 ?_
        refine lv_tableIn (tgt := 108) hx hb dX8_rate_23 (by rw [xi_to ⟨by omega, by omega⟩]; omega) (by rw [xi_to ⟨by omega, by omega⟩]; omega) (off := 85) (by rw [xi_to ⟨by omega, by omega⟩]; rfl) (by decide) ?_
        refine lv_aload_n hx hb dX8_rate_108 rfl (lv_at hl 0 rfl) ?_
        refine lv_dup hx hb dX8_rate_109 rfl ?_
        refine va_get (D := g) (ci := 8) (v := vJ tr) (C := RX8) (T := TX8) (N := 28) hx hb hts inF_X8 hown hK.1 hP 0 rfl rfl 13 (by decide) lk_f233 (fun _ h9 => h9) rfl dX8_rate_110 ?_
        refine rj_ldc (z := 100000) hx hb hown lk_c254 dX8_rate_113 (by decide) ?_
        refine rj_add hx hb dX8_rate_116 (fun z116 e116 => ?_)
        refine va_put (D := g) (ci := 8) (v := vJ z116) (ty := .long) (C := RX8) (T := TX8) (N := 28) hx hb hts inF_X8 tyX8 tyX8_ok nmX8 hown hK.1 hP hD hS 0 rfl rfl 13 (by decide) lk_f233 (fun _ h9 => h9) rfl (by decide +kernel) rfl rfl (Nat.le_of_ble_eq_true rfl) dX8_rate_117 (fun H locs hP hD hS => ?_)
        have hP : va_P g vwCl [(hm, oB 8 [.ref m0, vI un, .ref m2, .ref m3, vI mo, vI oft, vI la, vI du, .ref m8, .ref m9, vI to, .ref m11, .ref m12, vJ z116, .ref m14, vI n, vI at0, vI sa, vI vv, .ref m19, vI rdu, .ref m21, .ref m22, vI se, vI its, .ref m25, .ref m26, vJ lt0]), (m0, aJ ca 7284 d), (m3, aI ca 5 w)] H := hP
        have hD : va_D A [(hm, oB 8 [.ref m0, vI un, .ref m2, .ref m3, vI mo, vI oft, vI la, vI du, .ref m8, .ref m9, vI to, .ref m11, .ref m12, vJ z116, .ref m14, vI n, vI at0, vI sa, vI vv, .ref m19, vI rdu, .ref m21, .ref m22, vI se, vI its, .ref m25, .ref m26, vJ lt0]), (m0, aJ ca 7284 d), (m3, aI ca 5 w)] := hD
        refine lv_aload_n hx hb dX8_rate_120 rfl (lv_at hl 0 rfl) ?_
        refine lv_iload_n hx hb dX8_rate_121 rfl (lv_at hl 2 rfl) ?_
        refine zc_VI (As := [vI o]) (rest := []) (wc := [(hm, oB 8 [.ref m0, vI un, .ref m2, .ref m3, vI mo, vI oft, vI la, vI du, .ref m8, .ref m9, vI to, .ref m11, .ref m12, vJ z116, .ref m14, vI n, vI at0, vI sa, vI vv, .ref m19, vI rdu, .ref m21, .ref m22, vI se, vI its, .ref m25, .ref m26, vJ lt0]), (m3, aI ca 5 w)]) (wr := [(m0, aJ ca 7284 d)]) (k_X8_bareRate l g ca hm m0 m2 m3 m8 m9 m11 m12 m14 m19 m21 m22 m25 m26 un mo oft la du to z116 n at0 sa vv rdu se its lt0 w o (by first | assumption | omega)) dX8_rate_122 (cwV 1 hts gX8_rate_X8_bareRate rfl rfl rfl (by decide +kernel) (by rw [hR]; exact ⟨Nat.le_of_ble_eq_true rfl, Nat.le_of_ble_eq_true rfl⟩)) ⟨hx, hb, hml, hown, hts⟩ hl.1 hK hP hD hS hA 0 rfl rfl rfl [0, 2] [1] rfl (by decide) rfl (by decide) (by decide) rfl rfl (Nat.le_of_ble_eq_true rfl) (by rw [hR]; exact ⟨Nat.le_of_ble_eq_true rfl, Nat.le_of_ble_eq_true rfl⟩) (fun z122 u H locs q122 hP hD hS => ?_)
        obtain ⟨tr1_122, rfl⟩ : ∃ q, q = u := ⟨_, rfl⟩
        have q122 : z122 = w o ∧ tr1_122 = z116 + 1 := q122
        obtain ⟨q122_0, q122_1⟩ := q122
        have hP : va_P g vwCl [(hm, oB 8 [.ref m0, vI un, .ref m2, .ref m3, vI mo, vI oft, vI la, vI du, .ref m8, .ref m9, vI to, .ref m11, .ref m12, vJ tr1_122, .ref m14, vI n, vI at0, vI sa, vI vv, .ref m19, vI rdu, .ref m21, .ref m22, vI se, vI its, .ref m25, .ref m26, vJ lt0]), (m0, aJ ca 7284 d), (m3, aI ca 5 w)] H := hP.sub [1, 0, 2] rfl
        have hD : va_D A [(hm, oB 8 [.ref m0, vI un, .ref m2, .ref m3, vI mo, vI oft, vI la, vI du, .ref m8, .ref m9, vI to, .ref m11, .ref m12, vJ tr1_122, .ref m14, vI n, vI at0, vI sa, vI vv, .ref m19, vI rdu, .ref m21, .ref m22, vI se, vI its, .ref m25, .ref m26, vJ lt0]), (m0, aJ ca 7284 d), (m3, aI ca 5 w)] := hD.sub [1, 0, 2] (by decide) rfl
        refine lv_aload_n hx hb dX8_rate_125 rfl (lv_at hl 0 rfl) ?_
        refine va_get (D := g) (ci := 8) (v := .ref m0) (C := RX8) (T := TX8) (N := 28) hx hb hts inF_X8 hown hK.1 hP 0 rfl rfl 0 (by decide) lk_f7 (fun _ h9 => h9) rfl dX8_rate_126 ?_
        refine lv_sipush (v := Int32.ofInt 606) hx hb dX8_rate_129 (by decide) ?_
        refine ra_lld hx hb hK hP 1 rfl dX8_rate_132 ⟨by omega, by omega⟩ (by omega) ?_
        refine rj_i hx hb dX8_rate_133 ⟨by omega, by omega⟩ ?_
        refine ri_add hx hb dX8_rate_134 (fun z134 e134 => ?_)
        refine zr_I hx hb hr hlk hQ (tr1_122) hP hD hS dX8_rate_135 (Nat.le_of_ble_eq_true rfl) (Nat.le_of_ble_eq_true rfl) ?_
        show z134 = (if 0 ≤ o ∧ o ≤ 4 then rtv kd0 w (ef oft la) mo nn o else -1000000) ∧ tr1_122 = tr + (if 0 ≤ o ∧ o ≤ 4 then rtt kd0 else 0)
        unfold rtv rtt
        refine ⟨?_, ?_⟩ <;> (repeat' split) <;> omega
      refine lv_tableOut (tgt := 136) hx hb dX8_rate_23 (by rw [xi_to hx0]; omega) (by decide) ?_
      refine lv_aload_n hx hb dX8_rate_136 rfl (lv_at hl 0 rfl) ?_
      refine lv_iload_n hx hb dX8_rate_137 rfl (lv_at hl 2 rfl) ?_
      refine zc_VI (As := [vI o]) (rest := []) (wc := [(hm, oB 8 [.ref m0, vI un, .ref m2, .ref m3, vI mo, vI oft, vI la, vI du, .ref m8, .ref m9, vI to, .ref m11, .ref m12, vJ tr, .ref m14, vI n, vI at0, vI sa, vI vv, .ref m19, vI rdu, .ref m21, .ref m22, vI se, vI its, .ref m25, .ref m26, vJ lt0]), (m3, aI ca 5 w)]) (wr := [(m0, aJ ca 7284 d)]) (k_X8_bareRate l g ca hm m0 m2 m3 m8 m9 m11 m12 m14 m19 m21 m22 m25 m26 un mo oft la du to tr n at0 sa vv rdu se its lt0 w o (by first | assumption | omega)) dX8_rate_138 (cwV 1 hts gX8_rate_X8_bareRate rfl rfl rfl (by decide +kernel) (by rw [hR]; exact ⟨Nat.le_of_ble_eq_true rfl, Nat.le_of_ble_eq_true rfl⟩)) ⟨hx, hb, hml, hown, hts⟩ hl.1 hK hP hD hS hA 0 rfl rfl rfl [0, 2] [1] rfl (by decide) rfl (by decide) (by decide) rfl rfl (Nat.le_of_ble_eq_true rfl) (by rw [hR]; exact ⟨Nat.le_of_ble_eq_true rfl, Nat.le_of_ble_eq_true rfl⟩) (fun z138 u H locs q138 hP hD hS => ?_)
      obtain ⟨tr1_138, rfl⟩ : ∃ q, q = u := ⟨_, rfl⟩
      have q138 : z138 = w o ∧ tr1_138 = tr + 1 := q138
      obtain ⟨q138_0, q138_1⟩ := q138
      have hP : va_P g vwCl [(hm, oB 8 [.ref m0, vI un, .ref m2, .ref m3, vI mo, vI oft, vI la, vI du, .ref m8, .ref m9, vI to, .ref m11, .ref m12, vJ tr1_138, .ref m14, vI n, vI at0, vI sa, vI vv, .ref m19, vI rdu, .ref m21, .ref m22, vI se, vI its, .ref m25, .ref m26, vJ lt0]), (m0, aJ ca 7284 d), (m3, aI ca 5 w)] H := hP.sub [1, 0, 2] rfl
      have hD : va_D A [(hm, oB 8 [.ref m0, vI un, .ref m2, .ref m3, vI mo, vI oft, vI la, vI du, .ref m8, .ref m9, vI to, .ref m11, .ref m12, vJ tr1_138, .ref m14, vI n, vI at0, vI sa, vI vv, .ref m19, vI rdu, .ref m21, .ref m22, vI se, vI its, .ref m25, .ref m26, vJ lt0]), (m0, aJ ca 7284 d), (m3, aI ca 5 w)] := hD.sub [1, 0, 2] (by decide) rfl
      refine zr_I hx hb hr hlk hQ (tr1_138) hP hD hS dX8_rate_141 (Nat.le_of_ble_eq_true rfl) (Nat.le_of_ble_eq_true rfl) ?_
      show z138 = (if 0 ≤ o ∧ o ≤ 4 then rtv kd0 w (ef oft la) mo nn o else -1000000) ∧ tr1_138 = tr + (if 0 ≤ o ∧ o ≤ 4 then rtt kd0 else 0)
      unfold rtv rtt
      refine ⟨?_, ?_⟩ <;> (repeat' split) <;> omega
    · skip
      refine ri_ldc (z := (-1000000)) hx hb hown lk_c245 dX8_rate_19 (by decide) ?_
      refine zr_I hx hb hr hlk hQ (tr) hP hD hS dX8_rate_21 (Nat.le_of_ble_eq_true rfl) (Nat.le_of_ble_eq_true rfl) ?_
      show (-1000000) = (if 0 ≤ o ∧ o ≤ 4 then rtv kd0 w (ef oft la) mo nn o else -1000000) ∧ tr = tr + (if 0 ≤ o ∧ o ≤ 4 then rtt kd0 else 0)
      unfold rtv rtt
      refine ⟨?_, ?_⟩ <;> (repeat' split) <;> omega
set_option maxHeartbeats 4000000 in
set_option maxRecDepth 100000 in
theorem k_X8_keep (l : Launch) (g : va_G) (ca : Nat → ClassId) (hm : Nat) (m0 : Nat) (m2 : Nat) (m3 : Nat) (m8 : Nat) (m9 : Nat) (m11 : Nat) (m12 : Nat) (m14 : Nat) (m19 : Nat) (m21 : Nat) (m22 : Nat) (m25 : Nat) (m26 : Nat) (un : Int) (mo : Int) (oft : Int) (la : Int) (du : Int) (to : Int) (tr : Int) (n : Int) (at0 : Int) (sa : Int) (vv : Int) (rdu : Int) (se : Int) (its : Int) (lt0 : Int) (d : Int → Int) (kp : Int → Int) (i : Int) (b : Int → Int) (nn : Int) (ml : Int) (hAT : AT d 0 b nn ml) (hB : GB b nn) (hx0 : in32 i) : zI (S := (Int → Int) × (Int → Int)) l yX8_keep wsX8_keep ({ frames := 1, cells := 0, slots := 0, locals := 25 } : Room) g ca [.ref hm, vI i] [(hm, oB 8 [.ref m0, vI un, .ref m2, .ref m3, vI mo, vI oft, vI la, vI du, .ref m8, .ref m9, vI to, .ref m11, .ref m12, vJ tr, .ref m14, vI n, vI at0, vI sa, vI vv, .ref m19, vI rdu, .ref m21, .ref m22, vI se, vI its, .ref m25, .ref m26, vJ lt0]), (m0, aJ ca 7284 d), (m2, aZ ca 2 kp)] (fun (z : Int) (u : (Int → Int) × (Int → Int)) => (¬ (0 ≤ i ∧ i ≤ 1) ∧ z = -1 ∧ u.1 = d ∧ u.2 = kp) ∨ ((0 ≤ i ∧ i ≤ 1) ∧ z = nn ∧ u.2 = zu kp i 1 ∧ AT u.1 (1214 + 607 * i) b nn ml ∧ FRM d u.1 (1214 + 607 * i))) (fun (u : (Int → Int) × (Int → Int)) => [(hm, oB 8 [.ref m0, vI un, .ref m2, .ref m3, vI mo, vI oft, vI la, vI du, .ref m8, .ref m9, vI to, .ref m11, .ref m12, vJ tr, .ref m14, vI n, vI at0, vI sa, vI vv, .ref m19, vI rdu, .ref m21, .ref m22, vI se, vI its, .ref m25, .ref m26, vJ lt0]), (m0, aJ ca 7284 u.1), (m2, aZ ca 2 u.2)]) 0 0 := by
  refine zm_I (cc := cX8_keep) (maxL := 2) (ret := some .int) (by decide) rfl (Nat.le_of_ble_eq_true rfl) ?_
  intro p e s m below meth c A ls R args Q hR hargs hQ hx hb hml hr hts hown hlk hnm hK hP hD hA hS hl
  have hown : s.vm.findClass RX8 = some m.cls := hown
  have hl : lv_has ls 2 [(0, .ref hm), (1, vI i)] := hl
  have lk_f13 : (Cond.fieldLink RX8 13 "DripRingsModel" "isKept" "[Z").before args s = true := hts _ (by decide +kernel)
  have inF_X8 : ∀ w ∈ wsX80, w ∈ wsX8_keep := by decide +kernel
  have lk_f7 : (Cond.fieldLink RX8 7 "DripRingsModel" "d" "[J").before args s = true := hts _ (by decide +kernel)
  have hn0 := hB.1
  refine lv_iload_n hx hb dX8_keep_0 rfl (lv_at hl 1 rfl) ?_
  refine ri_l hx hb dX8_keep_1 hx0 ?_
  refine lv_lconst (v := Int64.ofInt 0) hx hb dX8_keep_2 (by decide) ?_
  refine lv_lconst (v := Int64.ofInt 1) hx hb dX8_keep_3 (by decide) ?_
  refine zc_SI (As := [vJ i, vJ 0, vJ 1]) (rest := []) (wc := []) (wr := [(hm, oB 8 [.ref m0, vI un, .ref m2, .ref m3, vI mo, vI oft, vI la, vI du, .ref m8, .ref m9, vI to, .ref m11, .ref m12, vJ tr, .ref m14, vI n, vI at0, vI sa, vI vv, .ref m19, vI rdu, .ref m21, .ref m22, vI se, vI its, .ref m25, .ref m26, vJ lt0]), (m0, aJ ca 7284 d), (m2, aZ ca 2 kp)]) (k_X8_in l g ca i 0 1 (by exact ⟨by omega, by omega⟩) (by exact ⟨by omega, by omega⟩) (by exact ⟨by omega, by omega⟩)) dX8_keep_4 (va_cwS 3 hts gX8_keep_X8_in rfl rfl rfl (by decide +kernel) (by rw [hR]; exact ⟨Nat.le_of_ble_eq_true rfl, Nat.le_of_ble_eq_true rfl⟩)) ⟨hx, hb, hml, hown, hts⟩ hl.1 hK hP hD hS hA [] [0, 1, 2] rfl (by decide) rfl (by decide) (by decide) rfl rfl (Nat.le_of_ble_eq_true rfl) (by rw [hR]; exact ⟨Nat.le_of_ble_eq_true rfl, Nat.le_of_ble_eq_true rfl⟩) (fun z4 u H locs q4 hP hD hS => ?_)
  have q4 : (z4 = 1 ∧ 0 ≤ i ∧ i ≤ 1) ∨ (z4 = 0 ∧ ¬ (0 ≤ i ∧ i ≤ 1)) := q4
  have hP : va_P g vwCl [(hm, oB 8 [.ref m0, vI un, .ref m2, .ref m3, vI mo, vI oft, vI la, vI du, .ref m8, .ref m9, vI to, .ref m11, .ref m12, vJ tr, .ref m14, vI n, vI at0, vI sa, vI vv, .ref m19, vI rdu, .ref m21, .ref m22, vI se, vI its, .ref m25, .ref m26, vJ lt0]), (m0, aJ ca 7284 d), (m2, aZ ca 2 kp)] H := hP.sub [0, 1, 2] rfl
  have hD : va_D A [(hm, oB 8 [.ref m0, vI un, .ref m2, .ref m3, vI mo, vI oft, vI la, vI du, .ref m8, .ref m9, vI to, .ref m11, .ref m12, vJ tr, .ref m14, vI n, vI at0, vI sa, vI vv, .ref m19, vI rdu, .ref m21, .ref m22, vI se, vI its, .ref m25, .ref m26, vJ lt0]), (m0, aJ ca 7284 d), (m2, aZ ca 2 kp)] := hD.sub [0, 1, 2] (by decide) rfl
  refine ri_if_ne (tgt := 12) hx hb dX8_keep_7 (by decide) ⟨by omega, by omega⟩ (fun c7 => ?_) (fun c7 => ?_)
  · skip
    refine lv_aload_n hx hb dX8_keep_12 rfl (lv_at hl 0 rfl) ?_
    refine lv_iconst (v := Int32.ofInt 0) hx hb dX8_keep_13 rfl ?_
    refine lv_sipush (v := Int32.ofInt 1214) hx hb dX8_keep_14 (by decide) ?_
    refine lv_sipush (v := Int32.ofInt 607) hx hb dX8_keep_17 (by decide) ?_
    refine lv_iload_n hx hb dX8_keep_20 rfl (lv_at hl 1 rfl) ?_
    refine ri_mul hx hb dX8_keep_21 (fun z21 e21 => ?_)
    refine ri_add hx hb dX8_keep_22 (fun z22 e22 => ?_)
    refine zc_VV (As := [vI 0, vI z22]) (rest := []) (wc := [(hm, oB 8 [.ref m0, vI un, .ref m2, .ref m3, vI mo, vI oft, vI la, vI du, .ref m8, .ref m9, vI to, .ref m11, .ref m12, vJ tr, .ref m14, vI n, vI at0, vI sa, vI vv, .ref m19, vI rdu, .ref m21, .ref m22, vI se, vI its, .ref m25, .ref m26, vJ lt0]), (m0, aJ ca 7284 d)]) (wr := [(m2, aZ ca 2 kp)]) (k_X8_copy l g ca hm m0 m2 m3 m8 m9 m11 m12 m14 m19 m21 m22 m25 m26 un mo oft la du to tr n at0 sa vv rdu se its lt0 d 0 z22 (by first | assumption | omega)) dX8_keep_23 (cwV 2 hts gX8_keep_X8_copy rfl rfl rfl (by decide +kernel) (by rw [hR]; exact ⟨Nat.le_of_ble_eq_true rfl, Nat.le_of_ble_eq_true rfl⟩)) ⟨hx, hb, hml, hown, hts⟩ hl.1 hK hP hD hS hA 0 rfl rfl rfl [0, 1] [2] rfl (by decide) rfl (by decide) (by decide) rfl rfl (Nat.le_of_ble_eq_true rfl) (by rw [hR]; exact ⟨Nat.le_of_ble_eq_true rfl, Nat.le_of_ble_eq_true rfl⟩) (fun u H locs q23 hP hD hS => ?_)
    obtain ⟨d1_23, rfl⟩ : ∃ q, q = u := ⟨_, rfl⟩
    have q23 : (∀ j : Int, d1_23 j = if z22 ≤ j ∧ j < z22 + 607 then d (0 + (j - z22)) else d j) := q23
    have hP : va_P g vwCl [(hm, oB 8 [.ref m0, vI un, .ref m2, .ref m3, vI mo, vI oft, vI la, vI du, .ref m8, .ref m9, vI to, .ref m11, .ref m12, vJ tr, .ref m14, vI n, vI at0, vI sa, vI vv, .ref m19, vI rdu, .ref m21, .ref m22, vI se, vI its, .ref m25, .ref m26, vJ lt0]), (m0, aJ ca 7284 d1_23), (m2, aZ ca 2 kp)] H := hP.sub [1, 2, 0] rfl
    have hD : va_D A [(hm, oB 8 [.ref m0, vI un, .ref m2, .ref m3, vI mo, vI oft, vI la, vI du, .ref m8, .ref m9, vI to, .ref m11, .ref m12, vJ tr, .ref m14, vI n, vI at0, vI sa, vI vv, .ref m19, vI rdu, .ref m21, .ref m22, vI se, vI its, .ref m25, .ref m26, vJ lt0]), (m0, aJ ca 7284 d1_23), (m2, aZ ca 2 kp)] := hD.sub [1, 2, 0] (by decide) rfl
    refine lv_aload_n hx hb dX8_keep_26 rfl (lv_at hl 0 rfl) ?_
    refine va_get (D := g) (ci := 8) (v := .ref m2) (C := RX8) (T := TX8) (N := 28) hx hb hts inF_X8 hown hK.1 hP 0 rfl rfl 2 (by decide) lk_f13 (fun _ h9 => h9) rfl dX8_keep_27 ?_
    refine lv_iload_n hx hb dX8_keep_30 rfl (lv_at hl 1 rfl) ?_
    refine lv_iconst (v := Int32.ofInt 1) hx hb dX8_keep_31 rfl ?_
    refine ra_zst hx hb hK hP hD hS 2 rfl dX8_keep_32 ⟨by omega, by omega⟩ (by omega) (Or.inr rfl) (fun H locs hP hD hS => ?_)
    have hP : va_P g vwCl [(hm, oB 8 [.ref m0, vI un, .ref m2, .ref m3, vI mo, vI oft, vI la, vI du, .ref m8, .ref m9, vI to, .ref m11, .ref m12, vJ tr, .ref m14, vI n, vI at0, vI sa, vI vv, .ref m19, vI rdu, .ref m21, .ref m22, vI se, vI its, .ref m25, .ref m26, vJ lt0]), (m0, aJ ca 7284 d1_23), (m2, aZ ca 2 (zu kp i 1))] H := hP
    have hD : va_D A [(hm, oB 8 [.ref m0, vI un, .ref m2, .ref m3, vI mo, vI oft, vI la, vI du, .ref m8, .ref m9, vI to, .ref m11, .ref m12, vJ tr, .ref m14, vI n, vI at0, vI sa, vI vv, .ref m19, vI rdu, .ref m21, .ref m22, vI se, vI its, .ref m25, .ref m26, vJ lt0]), (m0, aJ ca 7284 d1_23), (m2, aZ ca 2 (zu kp i 1))] := hD
    refine lv_aload_n hx hb dX8_keep_33 rfl (lv_at hl 0 rfl) ?_
    refine va_get (D := g) (ci := 8) (v := .ref m0) (C := RX8) (T := TX8) (N := 28) hx hb hts inF_X8 hown hK.1 hP 0 rfl rfl 0 (by decide) lk_f7 (fun _ h9 => h9) rfl dX8_keep_34 ?_
    refine lv_sipush (v := Int32.ofInt 606) hx hb dX8_keep_37 (by decide) ?_
    refine ra_lld hx hb hK hP 1 rfl dX8_keep_40 ⟨by omega, by omega⟩ (by omega) ?_
    have hz22 : z22 = 1214 + 607 * i := by omega
    rw [hz22] at q23
    have hC := CPY q23 hAT
    have hd41 : d1_23 606 = nn := by rw [hC.2 606 (by omega)]; have := hAT.2.2; rw [show (0 : Int) + 606 = 606 from rfl] at this; exact this
    refine rj_i hx hb dX8_keep_41 ⟨by omega, by omega⟩ ?_
    refine zr_I hx hb hr hlk hQ (d1_23, zu kp i 1) hP hD hS dX8_keep_42 (Nat.le_of_ble_eq_true rfl) (Nat.le_of_ble_eq_true rfl) ?_
    show (¬ (0 ≤ i ∧ i ≤ 1) ∧ (d1_23 606) = -1 ∧ d1_23 = d ∧ (zu kp i 1) = kp) ∨ ((0 ≤ i ∧ i ≤ 1) ∧ (d1_23 606) = nn ∧ (zu kp i 1) = zu kp i 1 ∧ AT d1_23 (1214 + 607 * i) b nn ml ∧ FRM d d1_23 (1214 + 607 * i))
    first | exact Or.inl ⟨by omega, rfl, rfl, rfl⟩ | exact Or.inr ⟨by omega, hd41, rfl, hC.1, hC.2⟩
  · skip
    refine lv_iconst (v := Int32.ofInt (-1)) hx hb dX8_keep_10 rfl ?_
    refine zr_I hx hb hr hlk hQ (d, kp) hP hD hS dX8_keep_11 (Nat.le_of_ble_eq_true rfl) (Nat.le_of_ble_eq_true rfl) ?_
    show (¬ (0 ≤ i ∧ i ≤ 1) ∧ (-1) = -1 ∧ d = d ∧ kp = kp) ∨ ((0 ≤ i ∧ i ≤ 1) ∧ (-1) = nn ∧ kp = zu kp i 1 ∧ AT d (1214 + 607 * i) b nn ml ∧ FRM d d (1214 + 607 * i))
    first | exact Or.inl ⟨by omega, rfl, rfl, rfl⟩ | exact Or.inr ⟨by omega, hd41, rfl, hC.1, hC.2⟩
set_option maxHeartbeats 4000000 in
set_option maxRecDepth 100000 in
theorem k_X8_back (l : Launch) (g : va_G) (ca : Nat → ClassId) (hm : Nat) (m0 : Nat) (m2 : Nat) (m3 : Nat) (m8 : Nat) (m9 : Nat) (m11 : Nat) (m12 : Nat) (m14 : Nat) (m19 : Nat) (m21 : Nat) (m22 : Nat) (m25 : Nat) (m26 : Nat) (un : Int) (mo : Int) (oft : Int) (la : Int) (du : Int) (to : Int) (tr : Int) (n : Int) (at0 : Int) (sa : Int) (vv : Int) (rdu : Int) (se : Int) (its : Int) (lt0 : Int) (d : Int → Int) (kp : Int → Int) (i : Int) (hI : ∀ i : Int, 0 ≤ i → i ≤ 1 → kp i = 0 ∨ (kp i = 1 ∧ 0 ≤ d (1214 + 607 * i + 606) ∧ d (1214 + 607 * i + 606) ≤ 120)) (hx0 : in32 i) : zI (S := Int × (Int → Int)) l yX8_back wsX8_back ({ frames := 1, cells := 0, slots := 0, locals := 25 } : Room) g ca [.ref hm, vI i] [(hm, oB 8 [.ref m0, vI un, .ref m2, .ref m3, vI mo, vI oft, vI la, vI du, .ref m8, .ref m9, vI to, .ref m11, .ref m12, vJ tr, .ref m14, vI n, vI at0, vI sa, vI vv, .ref m19, vI rdu, .ref m21, .ref m22, vI se, vI its, .ref m25, .ref m26, vJ lt0]), (m0, aJ ca 7284 d), (m2, aZ ca 2 kp)] (fun (z : Int) (u : Int × (Int → Int)) => (¬ (0 ≤ i ∧ i ≤ 1) ∧ z = -1 ∧ u.2 = d ∧ u.1 = un) ∨ ((0 ≤ i ∧ i ≤ 1) ∧ kp i = 0 ∧ z = -2 ∧ u.2 = d ∧ u.1 = un) ∨ ((0 ≤ i ∧ i ≤ 1) ∧ kp i = 1 ∧ z = d (1214 + 607 * i + 606) ∧ u.1 = 0 ∧ ∀ j : Int, u.2 j = if 0 ≤ j ∧ j < 607 then d (1214 + 607 * i + j) else d j)) (fun (u : Int × (Int → Int)) => [(hm, oB 8 [.ref m0, vI u.1, .ref m2, .ref m3, vI mo, vI oft, vI la, vI du, .ref m8, .ref m9, vI to, .ref m11, .ref m12, vJ tr, .ref m14, vI n, vI at0, vI sa, vI vv, .ref m19, vI rdu, .ref m21, .ref m22, vI se, vI its, .ref m25, .ref m26, vJ lt0]), (m0, aJ ca 7284 u.2), (m2, aZ ca 2 kp)]) 0 0 := by
  refine zm_I (cc := cX8_back) (maxL := 2) (ret := some .int) (by decide) rfl (Nat.le_of_ble_eq_true rfl) ?_
  intro p e s m below meth c A ls R args Q hR hargs hQ hx hb hml hr hts hown hlk hnm hK hP hD hA hS hl
  have hown : s.vm.findClass RX8 = some m.cls := hown
  have hl : lv_has ls 2 [(0, .ref hm), (1, vI i)] := hl
  have lk_f13 : (Cond.fieldLink RX8 13 "DripRingsModel" "isKept" "[Z").before args s = true := hts _ (by decide +kernel)
  have inF_X8 : ∀ w ∈ wsX80, w ∈ wsX8_back := by decide +kernel
  have lk_f82 : (Cond.fieldLink RX8 82 "DripRingsModel" "undoes" "I").before args s = true := hts _ (by decide +kernel)
  have lk_f7 : (Cond.fieldLink RX8 7 "DripRingsModel" "d" "[J").before args s = true := hts _ (by decide +kernel)
  refine lv_iload_n hx hb dX8_back_0 rfl (lv_at hl 1 rfl) ?_
  refine ri_l hx hb dX8_back_1 hx0 ?_
  refine lv_lconst (v := Int64.ofInt 0) hx hb dX8_back_2 (by decide) ?_
  refine lv_lconst (v := Int64.ofInt 1) hx hb dX8_back_3 (by decide) ?_
  refine zc_SI (As := [vJ i, vJ 0, vJ 1]) (rest := []) (wc := []) (wr := [(hm, oB 8 [.ref m0, vI un, .ref m2, .ref m3, vI mo, vI oft, vI la, vI du, .ref m8, .ref m9, vI to, .ref m11, .ref m12, vJ tr, .ref m14, vI n, vI at0, vI sa, vI vv, .ref m19, vI rdu, .ref m21, .ref m22, vI se, vI its, .ref m25, .ref m26, vJ lt0]), (m0, aJ ca 7284 d), (m2, aZ ca 2 kp)]) (k_X8_in l g ca i 0 1 (by exact ⟨by omega, by omega⟩) (by exact ⟨by omega, by omega⟩) (by exact ⟨by omega, by omega⟩)) dX8_back_4 (va_cwS 3 hts gX8_back_X8_in rfl rfl rfl (by decide +kernel) (by rw [hR]; exact ⟨Nat.le_of_ble_eq_true rfl, Nat.le_of_ble_eq_true rfl⟩)) ⟨hx, hb, hml, hown, hts⟩ hl.1 hK hP hD hS hA [] [0, 1, 2] rfl (by decide) rfl (by decide) (by decide) rfl rfl (Nat.le_of_ble_eq_true rfl) (by rw [hR]; exact ⟨Nat.le_of_ble_eq_true rfl, Nat.le_of_ble_eq_true rfl⟩) (fun z4 u H locs q4 hP hD hS => ?_)
  have q4 : (z4 = 1 ∧ 0 ≤ i ∧ i ≤ 1) ∨ (z4 = 0 ∧ ¬ (0 ≤ i ∧ i ≤ 1)) := q4
  have hP : va_P g vwCl [(hm, oB 8 [.ref m0, vI un, .ref m2, .ref m3, vI mo, vI oft, vI la, vI du, .ref m8, .ref m9, vI to, .ref m11, .ref m12, vJ tr, .ref m14, vI n, vI at0, vI sa, vI vv, .ref m19, vI rdu, .ref m21, .ref m22, vI se, vI its, .ref m25, .ref m26, vJ lt0]), (m0, aJ ca 7284 d), (m2, aZ ca 2 kp)] H := hP.sub [0, 1, 2] rfl
  have hD : va_D A [(hm, oB 8 [.ref m0, vI un, .ref m2, .ref m3, vI mo, vI oft, vI la, vI du, .ref m8, .ref m9, vI to, .ref m11, .ref m12, vJ tr, .ref m14, vI n, vI at0, vI sa, vI vv, .ref m19, vI rdu, .ref m21, .ref m22, vI se, vI its, .ref m25, .ref m26, vJ lt0]), (m0, aJ ca 7284 d), (m2, aZ ca 2 kp)] := hD.sub [0, 1, 2] (by decide) rfl
  refine ri_if_ne (tgt := 12) hx hb dX8_back_7 (by decide) ⟨by omega, by omega⟩ (fun c7 => ?_) (fun c7 => ?_)
  · skip
    refine lv_aload_n hx hb dX8_back_12 rfl (lv_at hl 0 rfl) ?_
    refine va_get (D := g) (ci := 8) (v := .ref m2) (C := RX8) (T := TX8) (N := 28) hx hb hts inF_X8 hown hK.1 hP 0 rfl rfl 2 (by decide) lk_f13 (fun _ h9 => h9) rfl dX8_back_13 ?_
    refine lv_iload_n hx hb dX8_back_16 rfl (lv_at hl 1 rfl) ?_
    refine ra_zld hx hb hK hP 2 rfl dX8_back_17 ⟨by omega, by omega⟩ (by omega) ?_
    have hI18 := hI i (by omega) (by omega)
    refine ri_if_ne (tgt := 24) hx hb dX8_back_18 (by decide) ⟨by omega, by omega⟩ (fun c18 => ?_) (fun c18 => ?_)
    · skip
      refine lv_aload_n hx hb dX8_back_24 rfl (lv_at hl 0 rfl) ?_
      refine lv_sipush (v := Int32.ofInt 1214) hx hb dX8_back_25 (by decide) ?_
      refine lv_sipush (v := Int32.ofInt 607) hx hb dX8_back_28 (by decide) ?_
      refine lv_iload_n hx hb dX8_back_31 rfl (lv_at hl 1 rfl) ?_
      refine ri_mul hx hb dX8_back_32 (fun z32 e32 => ?_)
      refine ri_add hx hb dX8_back_33 (fun z33 e33 => ?_)
      refine lv_iconst (v := Int32.ofInt 0) hx hb dX8_back_34 rfl ?_
      refine zc_VV (As := [vI z33, vI 0]) (rest := []) (wc := [(hm, oB 8 [.ref m0, vI un, .ref m2, .ref m3, vI mo, vI oft, vI la, vI du, .ref m8, .ref m9, vI to, .ref m11, .ref m12, vJ tr, .ref m14, vI n, vI at0, vI sa, vI vv, .ref m19, vI rdu, .ref m21, .ref m22, vI se, vI its, .ref m25, .ref m26, vJ lt0]), (m0, aJ ca 7284 d)]) (wr := [(m2, aZ ca 2 kp)]) (k_X8_copy l g ca hm m0 m2 m3 m8 m9 m11 m12 m14 m19 m21 m22 m25 m26 un mo oft la du to tr n at0 sa vv rdu se its lt0 d z33 0 (by first | assumption | omega)) dX8_back_35 (cwV 2 hts gX8_back_X8_copy rfl rfl rfl (by decide +kernel) (by rw [hR]; exact ⟨Nat.le_of_ble_eq_true rfl, Nat.le_of_ble_eq_true rfl⟩)) ⟨hx, hb, hml, hown, hts⟩ hl.1 hK hP hD hS hA 0 rfl rfl rfl [0, 1] [2] rfl (by decide) rfl (by decide) (by decide) rfl rfl (Nat.le_of_ble_eq_true rfl) (by rw [hR]; exact ⟨Nat.le_of_ble_eq_true rfl, Nat.le_of_ble_eq_true rfl⟩) (fun u H locs q35 hP hD hS => ?_)
      obtain ⟨d1_35, rfl⟩ : ∃ q, q = u := ⟨_, rfl⟩
      have q35 : (∀ j : Int, d1_35 j = if 0 ≤ j ∧ j < 0 + 607 then d (z33 + (j - 0)) else d j) := q35
      have hP : va_P g vwCl [(hm, oB 8 [.ref m0, vI un, .ref m2, .ref m3, vI mo, vI oft, vI la, vI du, .ref m8, .ref m9, vI to, .ref m11, .ref m12, vJ tr, .ref m14, vI n, vI at0, vI sa, vI vv, .ref m19, vI rdu, .ref m21, .ref m22, vI se, vI its, .ref m25, .ref m26, vJ lt0]), (m0, aJ ca 7284 d1_35), (m2, aZ ca 2 kp)] H := hP.sub [1, 2, 0] rfl
      have hD : va_D A [(hm, oB 8 [.ref m0, vI un, .ref m2, .ref m3, vI mo, vI oft, vI la, vI du, .ref m8, .ref m9, vI to, .ref m11, .ref m12, vJ tr, .ref m14, vI n, vI at0, vI sa, vI vv, .ref m19, vI rdu, .ref m21, .ref m22, vI se, vI its, .ref m25, .ref m26, vJ lt0]), (m0, aJ ca 7284 d1_35), (m2, aZ ca 2 kp)] := hD.sub [1, 2, 0] (by decide) rfl
      refine lv_aload_n hx hb dX8_back_38 rfl (lv_at hl 0 rfl) ?_
      refine lv_iconst (v := Int32.ofInt 0) hx hb dX8_back_39 rfl ?_
      refine va_put (D := g) (ci := 8) (v := vI 0) (ty := .int) (C := RX8) (T := TX8) (N := 28) hx hb hts inF_X8 tyX8 tyX8_ok nmX8 hown hK.1 hP hD hS 0 rfl rfl 1 (by decide) lk_f82 (fun _ h9 => h9) rfl (by decide +kernel) rfl rfl (Nat.le_of_ble_eq_true rfl) dX8_back_40 (fun H locs hP hD hS => ?_)
      have hP : va_P g vwCl [(hm, oB 8 [.ref m0, vI 0, .ref m2, .ref m3, vI mo, vI oft, vI la, vI du, .ref m8, .ref m9, vI to, .ref m11, .ref m12, vJ tr, .ref m14, vI n, vI at0, vI sa, vI vv, .ref m19, vI rdu, .ref m21, .ref m22, vI se, vI its, .ref m25, .ref m26, vJ lt0]), (m0, aJ ca 7284 d1_35), (m2, aZ ca 2 kp)] H := hP
      have hD : va_D A [(hm, oB 8 [.ref m0, vI 0, .ref m2, .ref m3, vI mo, vI oft, vI la, vI du, .ref m8, .ref m9, vI to, .ref m11, .ref m12, vJ tr, .ref m14, vI n, vI at0, vI sa, vI vv, .ref m19, vI rdu, .ref m21, .ref m22, vI se, vI its, .ref m25, .ref m26, vJ lt0]), (m0, aJ ca 7284 d1_35), (m2, aZ ca 2 kp)] := hD
      refine lv_aload_n hx hb dX8_back_43 rfl (lv_at hl 0 rfl) ?_
      refine va_get (D := g) (ci := 8) (v := .ref m0) (C := RX8) (T := TX8) (N := 28) hx hb hts inF_X8 hown hK.1 hP 0 rfl rfl 0 (by decide) lk_f7 (fun _ h9 => h9) rfl dX8_back_44 ?_
      refine lv_sipush (v := Int32.ofInt 606) hx hb dX8_back_47 (by decide) ?_
      refine ra_lld hx hb hK hP 1 rfl dX8_back_50 ⟨by omega, by omega⟩ (by omega) ?_
      have hd51 : d1_35 606 = d (1214 + 607 * i + 606) := by rw [q35, if_pos (by omega)]; congr 1; omega
      refine rj_i hx hb dX8_back_51 ⟨by omega, by omega⟩ ?_
      refine zr_I hx hb hr hlk hQ (0, d1_35) hP hD hS dX8_back_52 (Nat.le_of_ble_eq_true rfl) (Nat.le_of_ble_eq_true rfl) ?_
      show (¬ (0 ≤ i ∧ i ≤ 1) ∧ (d1_35 606) = -1 ∧ d1_35 = d ∧ 0 = un) ∨ ((0 ≤ i ∧ i ≤ 1) ∧ kp i = 0 ∧ (d1_35 606) = -2 ∧ d1_35 = d ∧ 0 = un) ∨ ((0 ≤ i ∧ i ≤ 1) ∧ kp i = 1 ∧ (d1_35 606) = d (1214 + 607 * i + 606) ∧ 0 = 0 ∧ ∀ j : Int, d1_35 j = if 0 ≤ j ∧ j < 607 then d (1214 + 607 * i + j) else d j)
      first
      | exact Or.inl ⟨by omega, rfl, rfl, rfl⟩
      | exact Or.inr (Or.inl ⟨by omega, by omega, rfl, rfl, rfl⟩)
      | (refine Or.inr (Or.inr ⟨by omega, by omega, hd51, rfl, fun j => ?_⟩)
         rw [q35]
         split
         · rw [if_pos (by omega)]; congr 1; omega
         · rw [if_neg (by omega)])
    · skip
      refine lv_bipush (v := Int32.ofInt (-2)) hx hb dX8_back_21 (by decide) ?_
      refine zr_I hx hb hr hlk hQ (un, d) hP hD hS dX8_back_23 (Nat.le_of_ble_eq_true rfl) (Nat.le_of_ble_eq_true rfl) ?_
      show (¬ (0 ≤ i ∧ i ≤ 1) ∧ (-2) = -1 ∧ d = d ∧ un = un) ∨ ((0 ≤ i ∧ i ≤ 1) ∧ kp i = 0 ∧ (-2) = -2 ∧ d = d ∧ un = un) ∨ ((0 ≤ i ∧ i ≤ 1) ∧ kp i = 1 ∧ (-2) = d (1214 + 607 * i + 606) ∧ un = 0 ∧ ∀ j : Int, d j = if 0 ≤ j ∧ j < 607 then d (1214 + 607 * i + j) else d j)
      first
      | exact Or.inl ⟨by omega, rfl, rfl, rfl⟩
      | exact Or.inr (Or.inl ⟨by omega, by omega, rfl, rfl, rfl⟩)
      | (refine Or.inr (Or.inr ⟨by omega, by omega, hd51, rfl, fun j => ?_⟩)
         rw [q35]
         split
         · rw [if_pos (by omega)]; congr 1; omega
         · rw [if_neg (by omega)])
  · skip
    refine lv_iconst (v := Int32.ofInt (-1)) hx hb dX8_back_10 rfl ?_
    refine zr_I hx hb hr hlk hQ (un, d) hP hD hS dX8_back_11 (Nat.le_of_ble_eq_true rfl) (Nat.le_of_ble_eq_true rfl) ?_
    show (¬ (0 ≤ i ∧ i ≤ 1) ∧ (-1) = -1 ∧ d = d ∧ un = un) ∨ ((0 ≤ i ∧ i ≤ 1) ∧ kp i = 0 ∧ (-1) = -2 ∧ d = d ∧ un = un) ∨ ((0 ≤ i ∧ i ≤ 1) ∧ kp i = 1 ∧ (-1) = d (1214 + 607 * i + 606) ∧ un = 0 ∧ ∀ j : Int, d j = if 0 ≤ j ∧ j < 607 then d (1214 + 607 * i + j) else d j)
    first
    | exact Or.inl ⟨by omega, rfl, rfl, rfl⟩
    | exact Or.inr (Or.inl ⟨by omega, by omega, rfl, rfl, rfl⟩)
    | (refine Or.inr (Or.inr ⟨by omega, by omega, hd51, rfl, fun j => ?_⟩)
       rw [q35]
       split
       · rw [if_pos (by omega)]; congr 1; omega
       · rw [if_neg (by omega)])
set_option maxHeartbeats 4000000 in
set_option maxRecDepth 100000 in
theorem k_X8_count (l : Launch) (g : va_G) (ca : Nat → ClassId) (hm : Nat) (m0 : Nat) (m2 : Nat) (m3 : Nat) (m8 : Nat) (m9 : Nat) (m11 : Nat) (m12 : Nat) (m14 : Nat) (m19 : Nat) (m21 : Nat) (m22 : Nat) (m25 : Nat) (m26 : Nat) (un : Int) (mo : Int) (oft : Int) (la : Int) (du : Int) (to : Int) (tr : Int) (n : Int) (at0 : Int) (sa : Int) (vv : Int) (rdu : Int) (se : Int) (its : Int) (lt0 : Int) (x : Int) (hx0 : in32 x) : zI (S := Unit) l yX8_count wsX8_count ({ frames := 0, cells := 0, slots := 0, locals := 0 } : Room) g ca [.ref hm, vI x] [(hm, oB 8 [.ref m0, vI un, .ref m2, .ref m3, vI mo, vI oft, vI la, vI du, .ref m8, .ref m9, vI to, .ref m11, .ref m12, vJ tr, .ref m14, vI n, vI at0, vI sa, vI vv, .ref m19, vI rdu, .ref m21, .ref m22, vI se, vI its, .ref m25, .ref m26, vJ lt0])] (fun (z : Int) (u : Unit) => z = cov mo la du to n x) (fun (u : Unit) => [(hm, oB 8 [.ref m0, vI un, .ref m2, .ref m3, vI mo, vI oft, vI la, vI du, .ref m8, .ref m9, vI to, .ref m11, .ref m12, vJ tr, .ref m14, vI n, vI at0, vI sa, vI vv, .ref m19, vI rdu, .ref m21, .ref m22, vI se, vI its, .ref m25, .ref m26, vJ lt0])]) 0 0 := by
  refine zm_I (cc := cX8_count) (maxL := 2) (ret := some .int) (by decide) rfl (Nat.le_of_ble_eq_true rfl) ?_
  intro p e s m below meth c A ls R args Q hR hargs hQ hx hb hml hr hts hown hlk hnm hK hP hD hA hS hl
  have hown : s.vm.findClass RX8 = some m.cls := hown
  have hl : lv_has ls 2 [(0, .ref hm), (1, vI x)] := hl
  have lk_f67 : (Cond.fieldLink RX8 67 "DripRingsModel" "drips" "I").before args s = true := hts _ (by decide +kernel)
  have inF_X8 : ∀ w ∈ wsX80, w ∈ wsX8_count := by decide +kernel
  have lk_f73 : (Cond.fieldLink RX8 73 "DripRingsModel" "later" "I").before args s = true := hts _ (by decide +kernel)
  have lk_f76 : (Cond.fieldLink RX8 76 "DripRingsModel" "dues" "I").before args s = true := hts _ (by decide +kernel)
  have lk_f79 : (Cond.fieldLink RX8 79 "DripRingsModel" "graves" "I").before args s = true := hts _ (by decide +kernel)
  have lk_f95 : (Cond.fieldLink RX8 95 "DripRingsModel" "texted" "I").before args s = true := hts _ (by decide +kernel)
  refine lv_iload_n hx hb dX8_count_0 rfl (lv_at hl 1 rfl) ?_
  by_cases c1 : x = 0
  · skip
    refine ri_to c1 ?_
    refine lv_tableIn (tgt := 36) hx hb dX8_count_1 (by rw [xi_to ⟨by omega, by omega⟩]; omega) (by rw [xi_to ⟨by omega, by omega⟩]; omega) (off := 35) (by rw [xi_to ⟨by omega, by omega⟩]; rfl) (by decide) ?_
    refine lv_aload_n hx hb dX8_count_36 rfl (lv_at hl 0 rfl) ?_
    refine va_get (D := g) (ci := 8) (v := vI mo) (C := RX8) (T := TX8) (N := 28) hx hb hts inF_X8 hown hK.1 hP 0 rfl rfl 4 (by decide) lk_f67 (fun _ h9 => h9) rfl dX8_count_37 ?_
    refine zr_I hx hb hr hlk hQ () hP hD hS dX8_count_40 (Nat.le_of_ble_eq_true rfl) (Nat.le_of_ble_eq_true rfl) ?_
    show mo = cov mo la du to n x
    unfold cov
    first
    | (rw [if_pos (by omega)])
    | (rw [if_neg (by omega), if_pos (by omega)])
    | (rw [if_neg (by omega), if_neg (by omega), if_pos (by omega)])
    | (rw [if_neg (by omega), if_neg (by omega), if_neg (by omega), if_pos (by omega)])
    | (rw [if_neg (by omega), if_neg (by omega), if_neg (by omega), if_neg (by omega), if_pos (by omega)])
    | (rw [if_neg (by omega), if_neg (by omega), if_neg (by omega), if_neg (by omega), if_neg (by omega)])
  by_cases c1_2 : x = 1
  · skip
    refine ri_to c1_2 ?_
    refine lv_tableIn (tgt := 41) hx hb dX8_count_1 (by rw [xi_to ⟨by omega, by omega⟩]; omega) (by rw [xi_to ⟨by omega, by omega⟩]; omega) (off := 40) (by rw [xi_to ⟨by omega, by omega⟩]; rfl) (by decide) ?_
    refine lv_aload_n hx hb dX8_count_41 rfl (lv_at hl 0 rfl) ?_
    refine va_get (D := g) (ci := 8) (v := vI la) (C := RX8) (T := TX8) (N := 28) hx hb hts inF_X8 hown hK.1 hP 0 rfl rfl 6 (by decide) lk_f73 (fun _ h9 => h9) rfl dX8_count_42 ?_
    refine zr_I hx hb hr hlk hQ () hP hD hS dX8_count_45 (Nat.le_of_ble_eq_true rfl) (Nat.le_of_ble_eq_true rfl) ?_
    show la = cov mo la du to n x
    unfold cov
    first
    | (rw [if_pos (by omega)])
    | (rw [if_neg (by omega), if_pos (by omega)])
    | (rw [if_neg (by omega), if_neg (by omega), if_pos (by omega)])
    | (rw [if_neg (by omega), if_neg (by omega), if_neg (by omega), if_pos (by omega)])
    | (rw [if_neg (by omega), if_neg (by omega), if_neg (by omega), if_neg (by omega), if_pos (by omega)])
    | (rw [if_neg (by omega), if_neg (by omega), if_neg (by omega), if_neg (by omega), if_neg (by omega)])
  by_cases c1_3 : x = 2
  · skip
    refine ri_to c1_3 ?_
    refine lv_tableIn (tgt := 46) hx hb dX8_count_1 (by rw [xi_to ⟨by omega, by omega⟩]; omega) (by rw [xi_to ⟨by omega, by omega⟩]; omega) (off := 45) (by rw [xi_to ⟨by omega, by omega⟩]; rfl) (by decide) ?_
    refine lv_aload_n hx hb dX8_count_46 rfl (lv_at hl 0 rfl) ?_
    refine va_get (D := g) (ci := 8) (v := vI du) (C := RX8) (T := TX8) (N := 28) hx hb hts inF_X8 hown hK.1 hP 0 rfl rfl 7 (by decide) lk_f76 (fun _ h9 => h9) rfl dX8_count_47 ?_
    refine zr_I hx hb hr hlk hQ () hP hD hS dX8_count_50 (Nat.le_of_ble_eq_true rfl) (Nat.le_of_ble_eq_true rfl) ?_
    show du = cov mo la du to n x
    unfold cov
    first
    | (rw [if_pos (by omega)])
    | (rw [if_neg (by omega), if_pos (by omega)])
    | (rw [if_neg (by omega), if_neg (by omega), if_pos (by omega)])
    | (rw [if_neg (by omega), if_neg (by omega), if_neg (by omega), if_pos (by omega)])
    | (rw [if_neg (by omega), if_neg (by omega), if_neg (by omega), if_neg (by omega), if_pos (by omega)])
    | (rw [if_neg (by omega), if_neg (by omega), if_neg (by omega), if_neg (by omega), if_neg (by omega)])
  by_cases c1_4 : x = 3
  · skip
    refine ri_to c1_4 ?_
    refine lv_tableIn (tgt := 51) hx hb dX8_count_1 (by rw [xi_to ⟨by omega, by omega⟩]; omega) (by rw [xi_to ⟨by omega, by omega⟩]; omega) (off := 50) (by rw [xi_to ⟨by omega, by omega⟩]; rfl) (by decide) ?_
    refine lv_aload_n hx hb dX8_count_51 rfl (lv_at hl 0 rfl) ?_
    refine va_get (D := g) (ci := 8) (v := vI to) (C := RX8) (T := TX8) (N := 28) hx hb hts inF_X8 hown hK.1 hP 0 rfl rfl 10 (by decide) lk_f79 (fun _ h9 => h9) rfl dX8_count_52 ?_
    refine zr_I hx hb hr hlk hQ () hP hD hS dX8_count_55 (Nat.le_of_ble_eq_true rfl) (Nat.le_of_ble_eq_true rfl) ?_
    show to = cov mo la du to n x
    unfold cov
    first
    | (rw [if_pos (by omega)])
    | (rw [if_neg (by omega), if_pos (by omega)])
    | (rw [if_neg (by omega), if_neg (by omega), if_pos (by omega)])
    | (rw [if_neg (by omega), if_neg (by omega), if_neg (by omega), if_pos (by omega)])
    | (rw [if_neg (by omega), if_neg (by omega), if_neg (by omega), if_neg (by omega), if_pos (by omega)])
    | (rw [if_neg (by omega), if_neg (by omega), if_neg (by omega), if_neg (by omega), if_neg (by omega)])
  by_cases c1_5 : x = 4
  · skip
    refine ri_to c1_5 ?_
    refine lv_tableIn (tgt := 56) hx hb dX8_count_1 (by rw [xi_to ⟨by omega, by omega⟩]; omega) (by rw [xi_to ⟨by omega, by omega⟩]; omega) (off := 55) (by rw [xi_to ⟨by omega, by omega⟩]; rfl) (by decide) ?_
    refine lv_aload_n hx hb dX8_count_56 rfl (lv_at hl 0 rfl) ?_
    refine va_get (D := g) (ci := 8) (v := vI n) (C := RX8) (T := TX8) (N := 28) hx hb hts inF_X8 hown hK.1 hP 0 rfl rfl 15 (by decide) lk_f95 (fun _ h9 => h9) rfl dX8_count_57 ?_
    refine zr_I hx hb hr hlk hQ () hP hD hS dX8_count_60 (Nat.le_of_ble_eq_true rfl) (Nat.le_of_ble_eq_true rfl) ?_
    show n = cov mo la du to n x
    unfold cov
    first
    | (rw [if_pos (by omega)])
    | (rw [if_neg (by omega), if_pos (by omega)])
    | (rw [if_neg (by omega), if_neg (by omega), if_pos (by omega)])
    | (rw [if_neg (by omega), if_neg (by omega), if_neg (by omega), if_pos (by omega)])
    | (rw [if_neg (by omega), if_neg (by omega), if_neg (by omega), if_neg (by omega), if_pos (by omega)])
    | (rw [if_neg (by omega), if_neg (by omega), if_neg (by omega), if_neg (by omega), if_neg (by omega)])
  refine lv_tableOut (tgt := 61) hx hb dX8_count_1 (by rw [xi_to hx0]; omega) (by decide) ?_
  refine lv_iconst (v := Int32.ofInt (-1)) hx hb dX8_count_61 rfl ?_
  refine zr_I hx hb hr hlk hQ () hP hD hS dX8_count_62 (Nat.le_of_ble_eq_true rfl) (Nat.le_of_ble_eq_true rfl) ?_
  show (-1) = cov mo la du to n x
  unfold cov
  first
  | (rw [if_pos (by omega)])
  | (rw [if_neg (by omega), if_pos (by omega)])
  | (rw [if_neg (by omega), if_neg (by omega), if_pos (by omega)])
  | (rw [if_neg (by omega), if_neg (by omega), if_neg (by omega), if_pos (by omega)])
  | (rw [if_neg (by omega), if_neg (by omega), if_neg (by omega), if_neg (by omega), if_pos (by omega)])
  | (rw [if_neg (by omega), if_neg (by omega), if_neg (by omega), if_neg (by omega), if_neg (by omega)])
set_option maxHeartbeats 4000000 in
set_option maxRecDepth 100000 in
theorem k_X8_trace (l : Launch) (g : va_G) (ca : Nat → ClassId) (hm : Nat) (m0 : Nat) (m2 : Nat) (m3 : Nat) (m8 : Nat) (m9 : Nat) (m11 : Nat) (m12 : Nat) (m14 : Nat) (m19 : Nat) (m21 : Nat) (m22 : Nat) (m25 : Nat) (m26 : Nat) (un : Int) (mo : Int) (oft : Int) (la : Int) (du : Int) (to : Int) (tr : Int) (n : Int) (at0 : Int) (sa : Int) (vv : Int) (rdu : Int) (se : Int) (its : Int) (lt0 : Int)  : zJ (S := Unit) l yX8_trace wsX8_trace ({ frames := 0, cells := 0, slots := 0, locals := 0 } : Room) g ca [.ref hm] [(hm, oB 8 [.ref m0, vI un, .ref m2, .ref m3, vI mo, vI oft, vI la, vI du, .ref m8, .ref m9, vI to, .ref m11, .ref m12, vJ tr, .ref m14, vI n, vI at0, vI sa, vI vv, .ref m19, vI rdu, .ref m21, .ref m22, vI se, vI its, .ref m25, .ref m26, vJ lt0])] (fun (z : Int) (u : Unit) => z = tr) (fun (u : Unit) => [(hm, oB 8 [.ref m0, vI un, .ref m2, .ref m3, vI mo, vI oft, vI la, vI du, .ref m8, .ref m9, vI to, .ref m11, .ref m12, vJ tr, .ref m14, vI n, vI at0, vI sa, vI vv, .ref m19, vI rdu, .ref m21, .ref m22, vI se, vI its, .ref m25, .ref m26, vJ lt0])]) 0 0 := by
  refine zm_J (cc := cX8_trace) (maxL := 1) (ret := some .long) (by decide) rfl (Nat.le_of_ble_eq_true rfl) ?_
  intro p e s m below meth c A ls R args Q hR hargs hQ hx hb hml hr hts hown hlk hnm hK hP hD hA hS hl
  have hown : s.vm.findClass RX8 = some m.cls := hown
  have hl : lv_has ls 1 [(0, .ref hm)] := hl
  have lk_f233 : (Cond.fieldLink RX8 233 "DripRingsModel" "trace" "J").before args s = true := hts _ (by decide +kernel)
  have inF_X8 : ∀ w ∈ wsX80, w ∈ wsX8_trace := by decide +kernel
  refine lv_aload_n hx hb dX8_trace_0 rfl (lv_at hl 0 rfl) ?_
  refine va_get (D := g) (ci := 8) (v := vJ tr) (C := RX8) (T := TX8) (N := 28) hx hb hts inF_X8 hown hK.1 hP 0 rfl rfl 13 (by decide) lk_f233 (fun _ h9 => h9) rfl dX8_trace_1 ?_
  refine zr_J hx hb hr hlk hQ () hP hD hS dX8_trace_4 (Nat.le_of_ble_eq_true rfl) (Nat.le_of_ble_eq_true rfl) ?_
  show tr = tr
  rfl
