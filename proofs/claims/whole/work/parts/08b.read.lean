set_option maxHeartbeats 4000000 in
set_option maxRecDepth 100000 in
theorem k_X7_isOutside (l : Launch) (g : va_G) (ca : Nat → ClassId) (x : Int) (lo : Int) (hi : Int) (h1 : in32 x) (h2 : in32 lo) (h3 : in32 hi) : zI (S := Unit) l yX7_isOutside wsX7_isOutside ({ frames := 0, cells := 0, slots := 0, locals := 0 } : Room) g ca [vI x, vI lo, vI hi] [] (fun (z : Int) (u : Unit) => (z = 1 ∧ ¬ (lo ≤ x ∧ x ≤ hi)) ∨ (z = 0 ∧ lo ≤ x ∧ x ≤ hi)) (fun (u : Unit) => []) 0 0 := by
  refine zm_I (cc := cX7_isOutside) (maxL := 3) (ret := some .boolean) (by decide) rfl (Nat.le_of_ble_eq_true rfl) ?_
  intro p e s m below meth c A ls R args Q hR hargs hQ hx hb hml hr hts hown hlk hnm hK hP hD hA hS hl
  have hown : s.vm.findClass RX7 = some m.cls := hown
  have hl : lv_has ls 3 [(0, vI x), (1, vI lo), (2, vI hi)] := hl
  refine lv_iload_n hx hb dX7_isOutside_0 rfl (lv_at hl 0 rfl) ?_
  refine lv_iload_n hx hb dX7_isOutside_1 rfl (lv_at hl 1 rfl) ?_
  refine ri_icmp_lt (tgt := 10) hx hb dX7_isOutside_2 (by decide) h1 h2 (fun c2 => ?_) (fun c2 => ?_)
  · skip
    refine lv_iconst (v := Int32.ofInt 1) hx hb dX7_isOutside_10 rfl ?_
    refine lv_goto (tgt := 15) hx hb dX7_isOutside_11 (by decide) ?_
    refine zr_Z hx hb hr hlk hQ () hP hD hS dX7_isOutside_15 (Nat.le_of_ble_eq_true rfl) (Nat.le_of_ble_eq_true rfl) (Or.inr rfl) ?_
    show (1 = 1 ∧ ¬ (lo ≤ x ∧ x ≤ hi)) ∨ (1 = 0 ∧ lo ≤ x ∧ x ≤ hi)
    omega
  · skip
    refine lv_iload_n hx hb dX7_isOutside_5 rfl (lv_at hl 0 rfl) ?_
    refine lv_iload_n hx hb dX7_isOutside_6 rfl (lv_at hl 2 rfl) ?_
    refine ri_icmp_le (tgt := 14) hx hb dX7_isOutside_7 (by decide) h1 h3 (fun c7 => ?_) (fun c7 => ?_)
    · skip
      refine lv_iconst (v := Int32.ofInt 0) hx hb dX7_isOutside_14 rfl ?_
      refine zr_Z hx hb hr hlk hQ () hP hD hS dX7_isOutside_15 (Nat.le_of_ble_eq_true rfl) (Nat.le_of_ble_eq_true rfl) (Or.inl rfl) ?_
      show (0 = 1 ∧ ¬ (lo ≤ x ∧ x ≤ hi)) ∨ (0 = 0 ∧ lo ≤ x ∧ x ≤ hi)
      omega
    · skip
      refine lv_iconst (v := Int32.ofInt 1) hx hb dX7_isOutside_10 rfl ?_
      refine lv_goto (tgt := 15) hx hb dX7_isOutside_11 (by decide) ?_
      refine zr_Z hx hb hr hlk hQ () hP hD hS dX7_isOutside_15 (Nat.le_of_ble_eq_true rfl) (Nat.le_of_ble_eq_true rfl) (Or.inr rfl) ?_
      show (1 = 1 ∧ ¬ (lo ≤ x ∧ x ≤ hi)) ∨ (1 = 0 ∧ lo ≤ x ∧ x ≤ hi)
      omega
set_option maxHeartbeats 4000000 in
set_option maxRecDepth 100000 in
theorem k_X5_isDigit (l : Launch) (g : va_G) (ca : Nat → ClassId) (x : Int) (h1 : 0 ≤ x ∧ x ≤ 255) : zI (S := Unit) l yX5_isDigit wsX5_isDigit ({ frames := 0, cells := 0, slots := 0, locals := 0 } : Room) g ca [vI x] [] (fun (z : Int) (u : Unit) => (z = 1 ∧ 48 ≤ x ∧ x ≤ 57) ∨ (z = 0 ∧ ¬ (48 ≤ x ∧ x ≤ 57))) (fun (u : Unit) => []) 0 0 := by
  refine zm_I (cc := cX5_isDigit) (maxL := 1) (ret := some .boolean) (by decide) rfl (Nat.le_of_ble_eq_true rfl) ?_
  intro p e s m below meth c A ls R args Q hR hargs hQ hx hb hml hr hts hown hlk hnm hK hP hD hA hS hl
  have hown : s.vm.findClass RX5 = some m.cls := hown
  have hl : lv_has ls 1 [(0, vI x)] := hl
  refine lv_iload_n hx hb dX5_isDigit_0 rfl (lv_at hl 0 rfl) ?_
  refine lv_bipush (v := Int32.ofInt 48) hx hb dX5_isDigit_1 (by decide) ?_
  refine ri_icmp_lt (tgt := 16) hx hb dX5_isDigit_3 (by decide) ⟨by omega, by omega⟩ ⟨by omega, by omega⟩ (fun c3 => ?_) (fun c3 => ?_)
  · skip
    refine lv_iconst (v := Int32.ofInt 0) hx hb dX5_isDigit_16 rfl ?_
    refine zr_Z hx hb hr hlk hQ () hP hD hS dX5_isDigit_17 (Nat.le_of_ble_eq_true rfl) (Nat.le_of_ble_eq_true rfl) (Or.inl rfl) ?_
    show (0 = 1 ∧ 48 ≤ x ∧ x ≤ 57) ∨ (0 = 0 ∧ ¬ (48 ≤ x ∧ x ≤ 57))
    omega
  · skip
    refine lv_iload_n hx hb dX5_isDigit_6 rfl (lv_at hl 0 rfl) ?_
    refine lv_bipush (v := Int32.ofInt 57) hx hb dX5_isDigit_7 (by decide) ?_
    refine ri_icmp_gt (tgt := 16) hx hb dX5_isDigit_9 (by decide) ⟨by omega, by omega⟩ ⟨by omega, by omega⟩ (fun c9 => ?_) (fun c9 => ?_)
    · skip
      refine lv_iconst (v := Int32.ofInt 0) hx hb dX5_isDigit_16 rfl ?_
      refine zr_Z hx hb hr hlk hQ () hP hD hS dX5_isDigit_17 (Nat.le_of_ble_eq_true rfl) (Nat.le_of_ble_eq_true rfl) (Or.inl rfl) ?_
      show (0 = 1 ∧ 48 ≤ x ∧ x ≤ 57) ∨ (0 = 0 ∧ ¬ (48 ≤ x ∧ x ≤ 57))
      omega
    · skip
      refine lv_iconst (v := Int32.ofInt 1) hx hb dX5_isDigit_12 rfl ?_
      refine lv_goto (tgt := 17) hx hb dX5_isDigit_13 (by decide) ?_
      refine zr_Z hx hb hr hlk hQ () hP hD hS dX5_isDigit_17 (Nat.le_of_ble_eq_true rfl) (Nat.le_of_ble_eq_true rfl) (Or.inr rfl) ?_
      show (1 = 1 ∧ 48 ≤ x ∧ x ≤ 57) ∨ (1 = 0 ∧ ¬ (48 ≤ x ∧ x ≤ 57))
      omega
set_option maxHeartbeats 4000000 in
set_option maxRecDepth 100000 in
theorem k_X5_isSign (l : Launch) (g : va_G) (ca : Nat → ClassId) (x : Int) (h1 : 0 ≤ x ∧ x ≤ 255) : zI (S := Unit) l yX5_isSign wsX5_isSign ({ frames := 0, cells := 0, slots := 0, locals := 0 } : Room) g ca [vI x] [] (fun (z : Int) (u : Unit) => (z = 1 ∧ (x = 114 ∨ x = 108 ∨ x = 116 ∨ x = 112 ∨ x = 59)) ∨ (z = 0 ∧ ¬ (x = 114 ∨ x = 108 ∨ x = 116 ∨ x = 112 ∨ x = 59))) (fun (u : Unit) => []) 0 0 := by
  refine zm_I (cc := cX5_isSign) (maxL := 1) (ret := some .boolean) (by decide) rfl (Nat.le_of_ble_eq_true rfl) ?_
  intro p e s m below meth c A ls R args Q hR hargs hQ hx hb hml hr hts hown hlk hnm hK hP hD hA hS hl
  have hown : s.vm.findClass RX5 = some m.cls := hown
  have hl : lv_has ls 1 [(0, vI x)] := hl
  refine lv_iload_n hx hb dX5_isSign_0 rfl (lv_at hl 0 rfl) ?_
  refine lv_bipush (v := Int32.ofInt 114) hx hb dX5_isSign_1 (by decide) ?_
  refine ri_icmp_eq (tgt := 30) hx hb dX5_isSign_3 (by decide) ⟨by omega, by omega⟩ ⟨by omega, by omega⟩ (fun c3 => ?_) (fun c3 => ?_)
  · skip
    refine lv_iconst (v := Int32.ofInt 1) hx hb dX5_isSign_30 rfl ?_
    refine lv_goto (tgt := 35) hx hb dX5_isSign_31 (by decide) ?_
    refine zr_Z hx hb hr hlk hQ () hP hD hS dX5_isSign_35 (Nat.le_of_ble_eq_true rfl) (Nat.le_of_ble_eq_true rfl) (Or.inr rfl) ?_
    show (1 = 1 ∧ (x = 114 ∨ x = 108 ∨ x = 116 ∨ x = 112 ∨ x = 59)) ∨ (1 = 0 ∧ ¬ (x = 114 ∨ x = 108 ∨ x = 116 ∨ x = 112 ∨ x = 59))
    omega
  · skip
    refine lv_iload_n hx hb dX5_isSign_6 rfl (lv_at hl 0 rfl) ?_
    refine lv_bipush (v := Int32.ofInt 108) hx hb dX5_isSign_7 (by decide) ?_
    refine ri_icmp_eq (tgt := 30) hx hb dX5_isSign_9 (by decide) ⟨by omega, by omega⟩ ⟨by omega, by omega⟩ (fun c9 => ?_) (fun c9 => ?_)
    · skip
      refine lv_iconst (v := Int32.ofInt 1) hx hb dX5_isSign_30 rfl ?_
      refine lv_goto (tgt := 35) hx hb dX5_isSign_31 (by decide) ?_
      refine zr_Z hx hb hr hlk hQ () hP hD hS dX5_isSign_35 (Nat.le_of_ble_eq_true rfl) (Nat.le_of_ble_eq_true rfl) (Or.inr rfl) ?_
      show (1 = 1 ∧ (x = 114 ∨ x = 108 ∨ x = 116 ∨ x = 112 ∨ x = 59)) ∨ (1 = 0 ∧ ¬ (x = 114 ∨ x = 108 ∨ x = 116 ∨ x = 112 ∨ x = 59))
      omega
    · skip
      refine lv_iload_n hx hb dX5_isSign_12 rfl (lv_at hl 0 rfl) ?_
      refine lv_bipush (v := Int32.ofInt 116) hx hb dX5_isSign_13 (by decide) ?_
      refine ri_icmp_eq (tgt := 30) hx hb dX5_isSign_15 (by decide) ⟨by omega, by omega⟩ ⟨by omega, by omega⟩ (fun c15 => ?_) (fun c15 => ?_)
      · skip
        refine lv_iconst (v := Int32.ofInt 1) hx hb dX5_isSign_30 rfl ?_
        refine lv_goto (tgt := 35) hx hb dX5_isSign_31 (by decide) ?_
        refine zr_Z hx hb hr hlk hQ () hP hD hS dX5_isSign_35 (Nat.le_of_ble_eq_true rfl) (Nat.le_of_ble_eq_true rfl) (Or.inr rfl) ?_
        show (1 = 1 ∧ (x = 114 ∨ x = 108 ∨ x = 116 ∨ x = 112 ∨ x = 59)) ∨ (1 = 0 ∧ ¬ (x = 114 ∨ x = 108 ∨ x = 116 ∨ x = 112 ∨ x = 59))
        omega
      · skip
        refine lv_iload_n hx hb dX5_isSign_18 rfl (lv_at hl 0 rfl) ?_
        refine lv_bipush (v := Int32.ofInt 112) hx hb dX5_isSign_19 (by decide) ?_
        refine ri_icmp_eq (tgt := 30) hx hb dX5_isSign_21 (by decide) ⟨by omega, by omega⟩ ⟨by omega, by omega⟩ (fun c21 => ?_) (fun c21 => ?_)
        · skip
          refine lv_iconst (v := Int32.ofInt 1) hx hb dX5_isSign_30 rfl ?_
          refine lv_goto (tgt := 35) hx hb dX5_isSign_31 (by decide) ?_
          refine zr_Z hx hb hr hlk hQ () hP hD hS dX5_isSign_35 (Nat.le_of_ble_eq_true rfl) (Nat.le_of_ble_eq_true rfl) (Or.inr rfl) ?_
          show (1 = 1 ∧ (x = 114 ∨ x = 108 ∨ x = 116 ∨ x = 112 ∨ x = 59)) ∨ (1 = 0 ∧ ¬ (x = 114 ∨ x = 108 ∨ x = 116 ∨ x = 112 ∨ x = 59))
          omega
        · skip
          refine lv_iload_n hx hb dX5_isSign_24 rfl (lv_at hl 0 rfl) ?_
          refine lv_bipush (v := Int32.ofInt 59) hx hb dX5_isSign_25 (by decide) ?_
          refine ri_icmp_ne (tgt := 34) hx hb dX5_isSign_27 (by decide) ⟨by omega, by omega⟩ ⟨by omega, by omega⟩ (fun c27 => ?_) (fun c27 => ?_)
          · skip
            refine lv_iconst (v := Int32.ofInt 0) hx hb dX5_isSign_34 rfl ?_
            refine zr_Z hx hb hr hlk hQ () hP hD hS dX5_isSign_35 (Nat.le_of_ble_eq_true rfl) (Nat.le_of_ble_eq_true rfl) (Or.inl rfl) ?_
            show (0 = 1 ∧ (x = 114 ∨ x = 108 ∨ x = 116 ∨ x = 112 ∨ x = 59)) ∨ (0 = 0 ∧ ¬ (x = 114 ∨ x = 108 ∨ x = 116 ∨ x = 112 ∨ x = 59))
            omega
          · skip
            refine lv_iconst (v := Int32.ofInt 1) hx hb dX5_isSign_30 rfl ?_
            refine lv_goto (tgt := 35) hx hb dX5_isSign_31 (by decide) ?_
            refine zr_Z hx hb hr hlk hQ () hP hD hS dX5_isSign_35 (Nat.le_of_ble_eq_true rfl) (Nat.le_of_ble_eq_true rfl) (Or.inr rfl) ?_
            show (1 = 1 ∧ (x = 114 ∨ x = 108 ∨ x = 116 ∨ x = 112 ∨ x = 59)) ∨ (1 = 0 ∧ ¬ (x = 114 ∨ x = 108 ∨ x = 116 ∨ x = 112 ∨ x = 59))
            omega
set_option maxHeartbeats 4000000 in
set_option maxRecDepth 100000 in
theorem k_X5_init (l : Launch) (g : va_G) (ca : Nat → ClassId) (hd : Nat)  : zV (S := Nat × Nat × Nat × Nat) l yX5_init wsX5_init ({ frames := 1, cells := 4, slots := 803, locals := 12 } : Room) g ca [.ref hd] [(hd, oB 5 [.null, .null, .null, .null, vI 0, vI 0, vI 0, vI 0, vI 0, vI 0])] (fun (u : Nat × Nat × Nat × Nat) => True) (fun (u : Nat × Nat × Nat × Nat) => [(hd, oB 5 [.ref u.1, .ref u.2.1, .ref u.2.2.1, .ref u.2.2.2, vI 0, vI 0, vI 0, vI 0, vI 0, vI 0]), (u.1, aI ca 200 (fun _ => 0)), (u.2.1, aI ca 201 (fun _ => 0)), (u.2.2.1, aI ca 201 (fun _ => 0)), (u.2.2.2, aI ca 201 (fun _ => 0))]) 4 803 := by
  refine zm_V (cc := cX5_init) (maxL := 1) (ret := none) (by decide) rfl (Nat.le_of_ble_eq_true rfl) ?_
  intro p e s m below meth c A ls R args Q hR hargs hQ hx hb hml hr hts hown hlk hnm hK hP hD hA hS hl
  have hown : s.vm.findClass RX5 = some m.cls := hown
  have hl : lv_has ls 1 [(0, .ref hd)] := hl
  have lk_oi1 : (Cond.methodLink RX5 3 objectInit).before args s = true := hts _ (by decide +kernel)
  have lk_oi2 : (Cond.instanceMethod objectInit).before args s = true := hts _ (by decide +kernel)
  have lk_oi3 : (Cond.code objectInit ⟨#[0xb1]⟩ 1 none).before args s = true := hts _ (by decide +kernel)
  have lk_aint : (Cond.arrayClass .int).before args s = true := hts _ (by decide +kernel)
  have lk_f11 : (Cond.fieldLink RX5 11 "DripRings$Reader" "text" "[I").before args s = true := hts _ (by decide +kernel)
  have inF_X5 : ∀ w ∈ wsX50, w ∈ wsX5_init := by decide +kernel
  have lk_f15 : (Cond.fieldLink RX5 15 "DripRings$Reader" "tokens" "[I").before args s = true := hts _ (by decide +kernel)
  have lk_f18 : (Cond.fieldLink RX5 18 "DripRings$Reader" "starts" "[I").before args s = true := hts _ (by decide +kernel)
  have lk_f21 : (Cond.fieldLink RX5 21 "DripRings$Reader" "values" "[I").before args s = true := hts _ (by decide +kernel)
  refine lv_aload_n hx hb dX5_init_0 rfl (lv_at hl 0 rfl) ?_
  refine W.objInit hx hb hown lk_oi1 lk_oi2 lk_oi3 rfl (by rw [hml]; exact hl.1) rfl dX5_init_1 (by rw [hR]; exact Nat.le_of_ble_eq_true rfl) (by rw [hR]; exact Nat.le_of_ble_eq_true rfl) ?_
  refine W.eq (g2 := F0 m 4 ls []) rfl ?_
  refine lv_aload_n hx hb dX5_init_4 rfl (lv_at hl 0 rfl) ?_
  refine lv_sipush (v := Int32.ofInt 200) hx hb dX5_init_5 (by decide) ?_
  refine ra_newI (N := 200) hx hb lk_aint hK hP hD hS hA dX5_init_8 rfl (Nat.le_of_ble_eq_true rfl) (by rw [hR]; exact Nat.le_of_ble_eq_true rfl) (by rw [hR]; exact Nat.le_of_ble_eq_true rfl) (fun h8 H hP hD hS => ?_)
  have hP : va_P g vwCl [(hd, oB 5 [.null, .null, .null, .null, vI 0, vI 0, vI 0, vI 0, vI 0, vI 0]), (h8, aI ca 200 (fun _ => 0))] H := hP
  have hD : va_D A [(hd, oB 5 [.null, .null, .null, .null, vI 0, vI 0, vI 0, vI 0, vI 0, vI 0]), (h8, aI ca 200 (fun _ => 0))] := hD
  refine W.widen (k := 1) (n := 200) (Nat.le_of_ble_eq_true rfl) (Nat.le_of_ble_eq_true rfl) ?_
  refine va_putF (D := g) (ci := 5) (v := .ref h8) (ty := .array .int) (C := RX5) (T := TX5) (N := 10) hx hb hts inF_X5 tyX5 tyX5_ok nmX5 hown hK.1 hP hD hS 0 rfl rfl 0 (by decide) lk_f11 (fun _ h9 => h9) rfl hnm rfl (by decide +kernel) rfl rfl (Nat.le_of_ble_eq_true rfl) dX5_init_10 (fun H locs hP hD hS => ?_)
  have hP : va_P g vwCl [(hd, oB 5 [.ref h8, .null, .null, .null, vI 0, vI 0, vI 0, vI 0, vI 0, vI 0]), (h8, aI ca 200 (fun _ => 0))] H := hP
  have hD : va_D A [(hd, oB 5 [.ref h8, .null, .null, .null, vI 0, vI 0, vI 0, vI 0, vI 0, vI 0]), (h8, aI ca 200 (fun _ => 0))] := hD
  refine lv_aload_n hx hb dX5_init_13 rfl (lv_at hl 0 rfl) ?_
  refine lv_sipush (v := Int32.ofInt 201) hx hb dX5_init_14 (by decide) ?_
  refine ra_newI (N := 201) hx hb lk_aint hK hP hD hS hA dX5_init_17 rfl (Nat.le_of_ble_eq_true rfl) (by rw [hR]; exact Nat.le_of_ble_eq_true rfl) (by rw [hR]; exact Nat.le_of_ble_eq_true rfl) (fun h17 H hP hD hS => ?_)
  have hP : va_P g vwCl [(hd, oB 5 [.ref h8, .null, .null, .null, vI 0, vI 0, vI 0, vI 0, vI 0, vI 0]), (h8, aI ca 200 (fun _ => 0)), (h17, aI ca 201 (fun _ => 0))] H := hP
  have hD : va_D A [(hd, oB 5 [.ref h8, .null, .null, .null, vI 0, vI 0, vI 0, vI 0, vI 0, vI 0]), (h8, aI ca 200 (fun _ => 0)), (h17, aI ca 201 (fun _ => 0))] := hD
  refine W.widen (k := 2) (n := 401) (Nat.le_of_ble_eq_true rfl) (Nat.le_of_ble_eq_true rfl) ?_
  refine va_putF (D := g) (ci := 5) (v := .ref h17) (ty := .array .int) (C := RX5) (T := TX5) (N := 10) hx hb hts inF_X5 tyX5 tyX5_ok nmX5 hown hK.1 hP hD hS 0 rfl rfl 1 (by decide) lk_f15 (fun _ h9 => h9) rfl hnm rfl (by decide +kernel) rfl rfl (Nat.le_of_ble_eq_true rfl) dX5_init_19 (fun H locs hP hD hS => ?_)
  have hP : va_P g vwCl [(hd, oB 5 [.ref h8, .ref h17, .null, .null, vI 0, vI 0, vI 0, vI 0, vI 0, vI 0]), (h8, aI ca 200 (fun _ => 0)), (h17, aI ca 201 (fun _ => 0))] H := hP
  have hD : va_D A [(hd, oB 5 [.ref h8, .ref h17, .null, .null, vI 0, vI 0, vI 0, vI 0, vI 0, vI 0]), (h8, aI ca 200 (fun _ => 0)), (h17, aI ca 201 (fun _ => 0))] := hD
  refine lv_aload_n hx hb dX5_init_22 rfl (lv_at hl 0 rfl) ?_
  refine lv_sipush (v := Int32.ofInt 201) hx hb dX5_init_23 (by decide) ?_
  refine ra_newI (N := 201) hx hb lk_aint hK hP hD hS hA dX5_init_26 rfl (Nat.le_of_ble_eq_true rfl) (by rw [hR]; exact Nat.le_of_ble_eq_true rfl) (by rw [hR]; exact Nat.le_of_ble_eq_true rfl) (fun h26 H hP hD hS => ?_)
  have hP : va_P g vwCl [(hd, oB 5 [.ref h8, .ref h17, .null, .null, vI 0, vI 0, vI 0, vI 0, vI 0, vI 0]), (h8, aI ca 200 (fun _ => 0)), (h17, aI ca 201 (fun _ => 0)), (h26, aI ca 201 (fun _ => 0))] H := hP
  have hD : va_D A [(hd, oB 5 [.ref h8, .ref h17, .null, .null, vI 0, vI 0, vI 0, vI 0, vI 0, vI 0]), (h8, aI ca 200 (fun _ => 0)), (h17, aI ca 201 (fun _ => 0)), (h26, aI ca 201 (fun _ => 0))] := hD
  refine W.widen (k := 3) (n := 602) (Nat.le_of_ble_eq_true rfl) (Nat.le_of_ble_eq_true rfl) ?_
  refine va_putF (D := g) (ci := 5) (v := .ref h26) (ty := .array .int) (C := RX5) (T := TX5) (N := 10) hx hb hts inF_X5 tyX5 tyX5_ok nmX5 hown hK.1 hP hD hS 0 rfl rfl 2 (by decide) lk_f18 (fun _ h9 => h9) rfl hnm rfl (by decide +kernel) rfl rfl (Nat.le_of_ble_eq_true rfl) dX5_init_28 (fun H locs hP hD hS => ?_)
  have hP : va_P g vwCl [(hd, oB 5 [.ref h8, .ref h17, .ref h26, .null, vI 0, vI 0, vI 0, vI 0, vI 0, vI 0]), (h8, aI ca 200 (fun _ => 0)), (h17, aI ca 201 (fun _ => 0)), (h26, aI ca 201 (fun _ => 0))] H := hP
  have hD : va_D A [(hd, oB 5 [.ref h8, .ref h17, .ref h26, .null, vI 0, vI 0, vI 0, vI 0, vI 0, vI 0]), (h8, aI ca 200 (fun _ => 0)), (h17, aI ca 201 (fun _ => 0)), (h26, aI ca 201 (fun _ => 0))] := hD
  refine lv_aload_n hx hb dX5_init_31 rfl (lv_at hl 0 rfl) ?_
  refine lv_sipush (v := Int32.ofInt 201) hx hb dX5_init_32 (by decide) ?_
  refine ra_newI (N := 201) hx hb lk_aint hK hP hD hS hA dX5_init_35 rfl (Nat.le_of_ble_eq_true rfl) (by rw [hR]; exact Nat.le_of_ble_eq_true rfl) (by rw [hR]; exact Nat.le_of_ble_eq_true rfl) (fun h35 H hP hD hS => ?_)
  have hP : va_P g vwCl [(hd, oB 5 [.ref h8, .ref h17, .ref h26, .null, vI 0, vI 0, vI 0, vI 0, vI 0, vI 0]), (h8, aI ca 200 (fun _ => 0)), (h17, aI ca 201 (fun _ => 0)), (h26, aI ca 201 (fun _ => 0)), (h35, aI ca 201 (fun _ => 0))] H := hP
  have hD : va_D A [(hd, oB 5 [.ref h8, .ref h17, .ref h26, .null, vI 0, vI 0, vI 0, vI 0, vI 0, vI 0]), (h8, aI ca 200 (fun _ => 0)), (h17, aI ca 201 (fun _ => 0)), (h26, aI ca 201 (fun _ => 0)), (h35, aI ca 201 (fun _ => 0))] := hD
  refine W.widen (k := 4) (n := 803) (Nat.le_of_ble_eq_true rfl) (Nat.le_of_ble_eq_true rfl) ?_
  refine va_putF (D := g) (ci := 5) (v := .ref h35) (ty := .array .int) (C := RX5) (T := TX5) (N := 10) hx hb hts inF_X5 tyX5 tyX5_ok nmX5 hown hK.1 hP hD hS 0 rfl rfl 3 (by decide) lk_f21 (fun _ h9 => h9) rfl hnm rfl (by decide +kernel) rfl rfl (Nat.le_of_ble_eq_true rfl) dX5_init_37 (fun H locs hP hD hS => ?_)
  have hP : va_P g vwCl [(hd, oB 5 [.ref h8, .ref h17, .ref h26, .ref h35, vI 0, vI 0, vI 0, vI 0, vI 0, vI 0]), (h8, aI ca 200 (fun _ => 0)), (h17, aI ca 201 (fun _ => 0)), (h26, aI ca 201 (fun _ => 0)), (h35, aI ca 201 (fun _ => 0))] H := hP
  have hD : va_D A [(hd, oB 5 [.ref h8, .ref h17, .ref h26, .ref h35, vI 0, vI 0, vI 0, vI 0, vI 0, vI 0]), (h8, aI ca 200 (fun _ => 0)), (h17, aI ca 201 (fun _ => 0)), (h26, aI ca 201 (fun _ => 0)), (h35, aI ca 201 (fun _ => 0))] := hD
  refine zr_V hx hb hr hlk hQ (h8, h17, h26, h35) hP hD hS dX5_init_40 (Nat.le_of_ble_eq_true rfl) (Nat.le_of_ble_eq_true rfl) ?_
  show True
  first | trivial | omega | assumption
set_option maxHeartbeats 4000000 in
set_option maxRecDepth 100000 in
theorem k_X5_letters (l : Launch) (g : va_G) (ca : Nat → ClassId) (hd : Nat) (hdt : Nat) (hdk : Nat) (hds : Nat) (hdv : Nat) (n : Int) (he0 : Int) (fa : Int) (sr : Int) (sl : Int) (st0 : Int)  : zI (S := Unit) l yX5_letters wsX5_letters ({ frames := 0, cells := 0, slots := 0, locals := 0 } : Room) g ca [.ref hd] [(hd, oB 5 [.ref hdt, .ref hdk, .ref hds, .ref hdv, vI n, vI he0, vI fa, vI sr, vI sl, vI st0])] (fun (z : Int) (u : Unit) => z = n) (fun (u : Unit) => [(hd, oB 5 [.ref hdt, .ref hdk, .ref hds, .ref hdv, vI n, vI he0, vI fa, vI sr, vI sl, vI st0])]) 0 0 := by
  refine zm_I (cc := cX5_letters) (maxL := 1) (ret := some .int) (by decide) rfl (Nat.le_of_ble_eq_true rfl) ?_
  intro p e s m below meth c A ls R args Q hR hargs hQ hx hb hml hr hts hown hlk hnm hK hP hD hA hS hl
  have hown : s.vm.findClass RX5 = some m.cls := hown
  have hl : lv_has ls 1 [(0, .ref hd)] := hl
  have lk_f24 : (Cond.fieldLink RX5 24 "DripRings$Reader" "length" "I").before args s = true := hts _ (by decide +kernel)
  have inF_X5 : ∀ w ∈ wsX50, w ∈ wsX5_letters := by decide +kernel
  refine lv_aload_n hx hb dX5_letters_0 rfl (lv_at hl 0 rfl) ?_
  refine va_get (D := g) (ci := 5) (v := vI n) (C := RX5) (T := TX5) (N := 10) hx hb hts inF_X5 hown hK.1 hP 0 rfl rfl 4 (by decide) lk_f24 (fun _ h9 => h9) rfl dX5_letters_1 ?_
  refine zr_I hx hb hr hlk hQ () hP hD hS dX5_letters_4 (Nat.le_of_ble_eq_true rfl) (Nat.le_of_ble_eq_true rfl) ?_
  show n = n
  rfl
set_option maxHeartbeats 4000000 in
set_option maxRecDepth 100000 in
theorem k_X5_add (l : Launch) (g : va_G) (ca : Nat → ClassId) (hd : Nat) (hdt : Nat) (hdk : Nat) (hds : Nat) (hdv : Nat) (n : Int) (he0 : Int) (fa : Int) (sr : Int) (sl : Int) (st0 : Int) (t : Int → Int) (x : Int) (hn : 0 ≤ n ∧ n ≤ 200) : zI (S := Int × (Int → Int)) l yX5_add wsX5_add ({ frames := 0, cells := 0, slots := 0, locals := 0 } : Room) g ca [.ref hd, vI x] [(hd, oB 5 [.ref hdt, .ref hdk, .ref hds, .ref hdv, vI n, vI he0, vI fa, vI sr, vI sl, vI st0]), (hdt, aI ca 200 t)] (fun (z : Int) (u : Int × (Int → Int)) => (n < 200 ∧ z = 1 ∧ u.1 = n + 1 ∧ u.2 = zu t n x) ∨ (n = 200 ∧ z = 0 ∧ u.1 = n ∧ u.2 = t)) (fun (u : Int × (Int → Int)) => [(hd, oB 5 [.ref hdt, .ref hdk, .ref hds, .ref hdv, vI u.1, vI he0, vI fa, vI sr, vI sl, vI st0]), (hdt, aI ca 200 u.2)]) 0 0 := by
  refine zm_I (cc := cX5_add) (maxL := 2) (ret := some .boolean) (by decide) rfl (Nat.le_of_ble_eq_true rfl) ?_
  intro p e s m below meth c A ls R args Q hR hargs hQ hx hb hml hr hts hown hlk hnm hK hP hD hA hS hl
  have hown : s.vm.findClass RX5 = some m.cls := hown
  have hl : lv_has ls 2 [(0, .ref hd), (1, vI x)] := hl
  have lk_f24 : (Cond.fieldLink RX5 24 "DripRings$Reader" "length" "I").before args s = true := hts _ (by decide +kernel)
  have inF_X5 : ∀ w ∈ wsX50, w ∈ wsX5_add := by decide +kernel
  have lk_f11 : (Cond.fieldLink RX5 11 "DripRings$Reader" "text" "[I").before args s = true := hts _ (by decide +kernel)
  refine lv_aload_n hx hb dX5_add_0 rfl (lv_at hl 0 rfl) ?_
  refine va_get (D := g) (ci := 5) (v := vI n) (C := RX5) (T := TX5) (N := 10) hx hb hts inF_X5 hown hK.1 hP 0 rfl rfl 4 (by decide) lk_f24 (fun _ h9 => h9) rfl dX5_add_1 ?_
  refine lv_sipush (v := Int32.ofInt 200) hx hb dX5_add_4 (by decide) ?_
  refine ri_icmp_lt (tgt := 12) hx hb dX5_add_7 (by decide) ⟨by omega, by omega⟩ ⟨by omega, by omega⟩ (fun c7 => ?_) (fun c7 => ?_)
  · skip
    refine lv_aload_n hx hb dX5_add_12 rfl (lv_at hl 0 rfl) ?_
    refine va_get (D := g) (ci := 5) (v := .ref hdt) (C := RX5) (T := TX5) (N := 10) hx hb hts inF_X5 hown hK.1 hP 0 rfl rfl 0 (by decide) lk_f11 (fun _ h9 => h9) rfl dX5_add_13 ?_
    refine lv_aload_n hx hb dX5_add_16 rfl (lv_at hl 0 rfl) ?_
    refine va_get (D := g) (ci := 5) (v := vI n) (C := RX5) (T := TX5) (N := 10) hx hb hts inF_X5 hown hK.1 hP 0 rfl rfl 4 (by decide) lk_f24 (fun _ h9 => h9) rfl dX5_add_17 ?_
    refine lv_iload_n hx hb dX5_add_20 rfl (lv_at hl 1 rfl) ?_
    refine ra_ist hx hb hK hP hD hS 1 rfl dX5_add_21 ⟨by omega, by omega⟩ (by omega) (fun H locs hP hD hS => ?_)
    have hP : va_P g vwCl [(hd, oB 5 [.ref hdt, .ref hdk, .ref hds, .ref hdv, vI n, vI he0, vI fa, vI sr, vI sl, vI st0]), (hdt, aI ca 200 (zu t n x))] H := hP
    have hD : va_D A [(hd, oB 5 [.ref hdt, .ref hdk, .ref hds, .ref hdv, vI n, vI he0, vI fa, vI sr, vI sl, vI st0]), (hdt, aI ca 200 (zu t n x))] := hD
    refine lv_aload_n hx hb dX5_add_22 rfl (lv_at hl 0 rfl) ?_
    refine lv_dup hx hb dX5_add_23 rfl ?_
    refine va_get (D := g) (ci := 5) (v := vI n) (C := RX5) (T := TX5) (N := 10) hx hb hts inF_X5 hown hK.1 hP 0 rfl rfl 4 (by decide) lk_f24 (fun _ h9 => h9) rfl dX5_add_24 ?_
    refine lv_iconst (v := Int32.ofInt 1) hx hb dX5_add_27 rfl ?_
    refine ri_add hx hb dX5_add_28 (fun z28 e28 => ?_)
    refine va_put (D := g) (ci := 5) (v := vI z28) (ty := .int) (C := RX5) (T := TX5) (N := 10) hx hb hts inF_X5 tyX5 tyX5_ok nmX5 hown hK.1 hP hD hS 0 rfl rfl 4 (by decide) lk_f24 (fun _ h9 => h9) rfl (by decide +kernel) rfl rfl (Nat.le_of_ble_eq_true rfl) dX5_add_29 (fun H locs hP hD hS => ?_)
    have hP : va_P g vwCl [(hd, oB 5 [.ref hdt, .ref hdk, .ref hds, .ref hdv, vI z28, vI he0, vI fa, vI sr, vI sl, vI st0]), (hdt, aI ca 200 (zu t n x))] H := hP
    have hD : va_D A [(hd, oB 5 [.ref hdt, .ref hdk, .ref hds, .ref hdv, vI z28, vI he0, vI fa, vI sr, vI sl, vI st0]), (hdt, aI ca 200 (zu t n x))] := hD
    refine lv_iconst (v := Int32.ofInt 1) hx hb dX5_add_32 rfl ?_
    refine zr_Z hx hb hr hlk hQ (z28, zu t n x) hP hD hS dX5_add_33 (Nat.le_of_ble_eq_true rfl) (Nat.le_of_ble_eq_true rfl) (Or.inr rfl) ?_
    show (n < 200 ∧ 1 = 1 ∧ z28 = n + 1 ∧ (zu t n x) = zu t n x) ∨ (n = 200 ∧ 1 = 0 ∧ z28 = n ∧ (zu t n x) = t)
    first | exact Or.inl ⟨by omega, rfl, e28, rfl⟩ | exact Or.inr ⟨by omega, rfl, rfl, rfl⟩
  · skip
    refine lv_iconst (v := Int32.ofInt 0) hx hb dX5_add_10 rfl ?_
    refine zr_Z hx hb hr hlk hQ (n, t) hP hD hS dX5_add_11 (Nat.le_of_ble_eq_true rfl) (Nat.le_of_ble_eq_true rfl) (Or.inl rfl) ?_
    show (n < 200 ∧ 0 = 1 ∧ n = n + 1 ∧ t = zu t n x) ∨ (n = 200 ∧ 0 = 0 ∧ n = n ∧ t = t)
    first | exact Or.inl ⟨by omega, rfl, e28, rfl⟩ | exact Or.inr ⟨by omega, rfl, rfl, rfl⟩
set_option maxHeartbeats 4000000 in
set_option maxRecDepth 100000 in
theorem k_X5_wipe (l : Launch) (g : va_G) (ca : Nat → ClassId) (hd : Nat) (hdt : Nat) (hdk : Nat) (hds : Nat) (hdv : Nat) (n : Int) (he0 : Int) (fa : Int) (sr : Int) (sl : Int) (st0 : Int)  : zI (S := Unit) l yX5_wipe wsX5_wipe ({ frames := 0, cells := 0, slots := 0, locals := 0 } : Room) g ca [.ref hd] [(hd, oB 5 [.ref hdt, .ref hdk, .ref hds, .ref hdv, vI n, vI he0, vI fa, vI sr, vI sl, vI st0])] (fun (z : Int) (u : Unit) => z = n) (fun (u : Unit) => [(hd, oB 5 [.ref hdt, .ref hdk, .ref hds, .ref hdv, vI 0, vI he0, vI fa, vI sr, vI sl, vI st0])]) 0 0 := by
  refine zm_I (cc := cX5_wipe) (maxL := 2) (ret := some .int) (by decide) rfl (Nat.le_of_ble_eq_true rfl) ?_
  intro p e s m below meth c A ls R args Q hR hargs hQ hx hb hml hr hts hown hlk hnm hK hP hD hA hS hl
  have hown : s.vm.findClass RX5 = some m.cls := hown
  have hl : lv_has ls 2 [(0, .ref hd)] := hl
  have lk_f24 : (Cond.fieldLink RX5 24 "DripRings$Reader" "length" "I").before args s = true := hts _ (by decide +kernel)
  have inF_X5 : ∀ w ∈ wsX50, w ∈ wsX5_wipe := by decide +kernel
  refine lv_aload_n hx hb dX5_wipe_0 rfl (lv_at hl 0 rfl) ?_
  refine va_get (D := g) (ci := 5) (v := vI n) (C := RX5) (T := TX5) (N := 10) hx hb hts inF_X5 hown hK.1 hP 0 rfl rfl 4 (by decide) lk_f24 (fun _ h9 => h9) rfl dX5_wipe_1 ?_
  refine lv_istore_n (lv' := [(1, vI n), (0, .ref hd)]) hx hb dX5_wipe_4 rfl hl (by decide) rfl (fun ls hl => ?_)
  refine lv_aload_n hx hb dX5_wipe_5 rfl (lv_at hl 1 rfl) ?_
  refine lv_iconst (v := Int32.ofInt 0) hx hb dX5_wipe_6 rfl ?_
  refine va_put (D := g) (ci := 5) (v := vI 0) (ty := .int) (C := RX5) (T := TX5) (N := 10) hx hb hts inF_X5 tyX5 tyX5_ok nmX5 hown hK.1 hP hD hS 0 rfl rfl 4 (by decide) lk_f24 (fun _ h9 => h9) rfl (by decide +kernel) rfl rfl (Nat.le_of_ble_eq_true rfl) dX5_wipe_7 (fun H locs hP hD hS => ?_)
  have hP : va_P g vwCl [(hd, oB 5 [.ref hdt, .ref hdk, .ref hds, .ref hdv, vI 0, vI he0, vI fa, vI sr, vI sl, vI st0])] H := hP
  have hD : va_D A [(hd, oB 5 [.ref hdt, .ref hdk, .ref hds, .ref hdv, vI 0, vI he0, vI fa, vI sr, vI sl, vI st0])] := hD
  refine lv_iload_n hx hb dX5_wipe_10 rfl (lv_at hl 0 rfl) ?_
  refine zr_I hx hb hr hlk hQ () hP hD hS dX5_wipe_11 (Nat.le_of_ble_eq_true rfl) (Nat.le_of_ble_eq_true rfl) ?_
  show n = n
  rfl
set_option maxHeartbeats 4000000 in
set_option maxRecDepth 100000 in
theorem k_X5_put (l : Launch) (g : va_G) (ca : Nat → ClassId) (hd : Nat) (hdt : Nat) (hdk : Nat) (hds : Nat) (hdv : Nat) (n : Int) (he0 : Int) (fa : Int) (sr : Int) (sl : Int) (st0 : Int) (tk : Int → Int) (sv : Int → Int) (va : Int → Int) (k0 : Int) (x : Int) (y : Int) (v : Int) (hk0 : 0 ≤ k0 ∧ k0 ≤ 200) : zV (S := Unit) l yX5_put wsX5_put ({ frames := 0, cells := 0, slots := 0, locals := 0 } : Room) g ca [.ref hd, vI k0, vI x, vI y, vI v] [(hd, oB 5 [.ref hdt, .ref hdk, .ref hds, .ref hdv, vI n, vI he0, vI fa, vI sr, vI sl, vI st0]), (hdk, aI ca 201 tk), (hds, aI ca 201 sv), (hdv, aI ca 201 va)] (fun (u : Unit) => True) (fun (u : Unit) => [(hd, oB 5 [.ref hdt, .ref hdk, .ref hds, .ref hdv, vI n, vI he0, vI fa, vI sr, vI sl, vI st0]), (hdk, aI ca 201 (zu tk k0 x)), (hds, aI ca 201 (zu sv k0 y)), (hdv, aI ca 201 (zu va k0 v))]) 0 0 := by
  refine zm_V (cc := cX5_put) (maxL := 5) (ret := none) (by decide) rfl (Nat.le_of_ble_eq_true rfl) ?_
  intro p e s m below meth c A ls R args Q hR hargs hQ hx hb hml hr hts hown hlk hnm hK hP hD hA hS hl
  have hown : s.vm.findClass RX5 = some m.cls := hown
  have hl : lv_has ls 5 [(0, .ref hd), (1, vI k0), (2, vI x), (3, vI y), (4, vI v)] := hl
  have lk_f15 : (Cond.fieldLink RX5 15 "DripRings$Reader" "tokens" "[I").before args s = true := hts _ (by decide +kernel)
  have inF_X5 : ∀ w ∈ wsX50, w ∈ wsX5_put := by decide +kernel
  have lk_f18 : (Cond.fieldLink RX5 18 "DripRings$Reader" "starts" "[I").before args s = true := hts _ (by decide +kernel)
  have lk_f21 : (Cond.fieldLink RX5 21 "DripRings$Reader" "values" "[I").before args s = true := hts _ (by decide +kernel)
  refine lv_aload_n hx hb dX5_put_0 rfl (lv_at hl 0 rfl) ?_
  refine va_get (D := g) (ci := 5) (v := .ref hdk) (C := RX5) (T := TX5) (N := 10) hx hb hts inF_X5 hown hK.1 hP 0 rfl rfl 1 (by decide) lk_f15 (fun _ h9 => h9) rfl dX5_put_1 ?_
  refine lv_iload_n hx hb dX5_put_4 rfl (lv_at hl 1 rfl) ?_
  refine lv_iload_n hx hb dX5_put_5 rfl (lv_at hl 2 rfl) ?_
  refine ra_ist hx hb hK hP hD hS 1 rfl dX5_put_6 ⟨by omega, by omega⟩ (by omega) (fun H locs hP hD hS => ?_)
  have hP : va_P g vwCl [(hd, oB 5 [.ref hdt, .ref hdk, .ref hds, .ref hdv, vI n, vI he0, vI fa, vI sr, vI sl, vI st0]), (hdk, aI ca 201 (zu tk k0 x)), (hds, aI ca 201 sv), (hdv, aI ca 201 va)] H := hP
  have hD : va_D A [(hd, oB 5 [.ref hdt, .ref hdk, .ref hds, .ref hdv, vI n, vI he0, vI fa, vI sr, vI sl, vI st0]), (hdk, aI ca 201 (zu tk k0 x)), (hds, aI ca 201 sv), (hdv, aI ca 201 va)] := hD
  refine lv_aload_n hx hb dX5_put_7 rfl (lv_at hl 0 rfl) ?_
  refine va_get (D := g) (ci := 5) (v := .ref hds) (C := RX5) (T := TX5) (N := 10) hx hb hts inF_X5 hown hK.1 hP 0 rfl rfl 2 (by decide) lk_f18 (fun _ h9 => h9) rfl dX5_put_8 ?_
  refine lv_iload_n hx hb dX5_put_11 rfl (lv_at hl 1 rfl) ?_
  refine lv_iload_n hx hb dX5_put_12 rfl (lv_at hl 3 rfl) ?_
  refine ra_ist hx hb hK hP hD hS 2 rfl dX5_put_13 ⟨by omega, by omega⟩ (by omega) (fun H locs hP hD hS => ?_)
  have hP : va_P g vwCl [(hd, oB 5 [.ref hdt, .ref hdk, .ref hds, .ref hdv, vI n, vI he0, vI fa, vI sr, vI sl, vI st0]), (hdk, aI ca 201 (zu tk k0 x)), (hds, aI ca 201 (zu sv k0 y)), (hdv, aI ca 201 va)] H := hP
  have hD : va_D A [(hd, oB 5 [.ref hdt, .ref hdk, .ref hds, .ref hdv, vI n, vI he0, vI fa, vI sr, vI sl, vI st0]), (hdk, aI ca 201 (zu tk k0 x)), (hds, aI ca 201 (zu sv k0 y)), (hdv, aI ca 201 va)] := hD
  refine lv_aload_n hx hb dX5_put_14 rfl (lv_at hl 0 rfl) ?_
  refine va_get (D := g) (ci := 5) (v := .ref hdv) (C := RX5) (T := TX5) (N := 10) hx hb hts inF_X5 hown hK.1 hP 0 rfl rfl 3 (by decide) lk_f21 (fun _ h9 => h9) rfl dX5_put_15 ?_
  refine lv_iload_n hx hb dX5_put_18 rfl (lv_at hl 1 rfl) ?_
  refine lv_iload hx hb dX5_put_19 (lv_at hl 4 rfl) ?_
  refine ra_ist hx hb hK hP hD hS 3 rfl dX5_put_21 ⟨by omega, by omega⟩ (by omega) (fun H locs hP hD hS => ?_)
  have hP : va_P g vwCl [(hd, oB 5 [.ref hdt, .ref hdk, .ref hds, .ref hdv, vI n, vI he0, vI fa, vI sr, vI sl, vI st0]), (hdk, aI ca 201 (zu tk k0 x)), (hds, aI ca 201 (zu sv k0 y)), (hdv, aI ca 201 (zu va k0 v))] H := hP
  have hD : va_D A [(hd, oB 5 [.ref hdt, .ref hdk, .ref hds, .ref hdv, vI n, vI he0, vI fa, vI sr, vI sl, vI st0]), (hdk, aI ca 201 (zu tk k0 x)), (hds, aI ca 201 (zu sv k0 y)), (hdv, aI ca 201 (zu va k0 v))] := hD
  refine zr_V hx hb hr hlk hQ () hP hD hS dX5_put_22 (Nat.le_of_ble_eq_true rfl) (Nat.le_of_ble_eq_true rfl) ?_
  show True
  first | trivial | omega | assumption
set_option maxHeartbeats 4000000 in
set_option maxRecDepth 100000 in
theorem k_X5_lengthen (l : Launch) (g : va_G) (ca : Nat → ClassId) (hd : Nat) (hdt : Nat) (hdk : Nat) (hds : Nat) (hdv : Nat) (n : Int) (he0 : Int) (fa : Int) (sr : Int) (sl : Int) (st0 : Int) (tk : Int → Int) (va : Int → Int) (k0 : Int) (d0 : Int) (hk0 : 0 ≤ k0 ∧ k0 ≤ 200) (hd0 : 0 ≤ d0 ∧ d0 ≤ 9) (hv0 : 0 ≤ va k0 ∧ va k0 ≤ 201) : zV (S := (Int → Int) × (Int → Int)) l yX5_lengthen wsX5_lengthen ({ frames := 1, cells := 0, slots := 0, locals := 23 } : Room) g ca [.ref hd, vI k0, vI d0] [(hd, oB 5 [.ref hdt, .ref hdk, .ref hds, .ref hdv, vI n, vI he0, vI fa, vI sr, vI sl, vI st0]), (hdk, aI ca 201 tk), (hdv, aI ca 201 va)] (fun (u : (Int → Int) × (Int → Int)) => LGN tk va k0 d0 u.1 u.2) (fun (u : (Int → Int) × (Int → Int)) => [(hd, oB 5 [.ref hdt, .ref hdk, .ref hds, .ref hdv, vI n, vI he0, vI fa, vI sr, vI sl, vI st0]), (hdk, aI ca 201 u.1), (hdv, aI ca 201 u.2)]) 0 0 := by
  refine zm_V (cc := cX5_lengthen) (maxL := 4) (ret := none) (by decide) rfl (Nat.le_of_ble_eq_true rfl) ?_
  intro p e s m below meth c A ls R args Q hR hargs hQ hx hb hml hr hts hown hlk hnm hK hP hD hA hS hl
  have hown : s.vm.findClass RX5 = some m.cls := hown
  have hl : lv_has ls 4 [(0, .ref hd), (1, vI k0), (2, vI d0)] := hl
  have lk_f21 : (Cond.fieldLink RX5 21 "DripRings$Reader" "values" "[I").before args s = true := hts _ (by decide +kernel)
  have inF_X5 : ∀ w ∈ wsX50, w ∈ wsX5_lengthen := by decide +kernel
  have lk_min122 : (Cond.methodLink RX5 122 Lib.Math.min.name).before args s = true := hts _ (by decide +kernel)
  have lk_mins : (Cond.static Lib.Math.min.name).before args s = true := hts _ (by decide +kernel)
  have lk_mathz : (Cond.initialized "java/lang/Math").before args s = true := hts _ (by decide +kernel)
  have lk_minc : (Cond.code Lib.Math.min.name Lib.Math.min.code 2 (some .int)).before args s = true := hts _ (by decide +kernel)
  have lk_f15 : (Cond.fieldLink RX5 15 "DripRings$Reader" "tokens" "[I").before args s = true := hts _ (by decide +kernel)
  refine lv_aload_n hx hb dX5_lengthen_0 rfl (lv_at hl 0 rfl) ?_
  refine va_get (D := g) (ci := 5) (v := .ref hdv) (C := RX5) (T := TX5) (N := 10) hx hb hts inF_X5 hown hK.1 hP 0 rfl rfl 3 (by decide) lk_f21 (fun _ h9 => h9) rfl dX5_lengthen_1 ?_
  refine lv_iload_n hx hb dX5_lengthen_4 rfl (lv_at hl 1 rfl) ?_
  refine ra_ild hx hb hK hP 2 rfl dX5_lengthen_5 ⟨by omega, by omega⟩ (by omega) ?_
  refine ri_if_ne (tgt := 13) hx hb dX5_lengthen_6 (by decide) ⟨by omega, by omega⟩ (fun c6 => ?_) (fun c6 => ?_)
  · skip
    refine lv_iconst (v := Int32.ofInt 0) hx hb dX5_lengthen_13 rfl ?_
    refine lv_istore_n (lv' := [(3, vI 0), (0, .ref hd), (1, vI k0), (2, vI d0)]) hx hb dX5_lengthen_14 rfl hl (by decide) rfl (fun ls hl => ?_)
    refine lv_aload_n hx hb dX5_lengthen_15 rfl (lv_at hl 1 rfl) ?_
    refine va_get (D := g) (ci := 5) (v := .ref hdv) (C := RX5) (T := TX5) (N := 10) hx hb hts inF_X5 hown hK.1 hP 0 rfl rfl 3 (by decide) lk_f21 (fun _ h9 => h9) rfl dX5_lengthen_16 ?_
    refine lv_iload_n hx hb dX5_lengthen_19 rfl (lv_at hl 2 rfl) ?_
    refine lv_aload_n hx hb dX5_lengthen_20 rfl (lv_at hl 1 rfl) ?_
    refine va_get (D := g) (ci := 5) (v := .ref hdv) (C := RX5) (T := TX5) (N := 10) hx hb hts inF_X5 hown hK.1 hP 0 rfl rfl 3 (by decide) lk_f21 (fun _ h9 => h9) rfl dX5_lengthen_21 ?_
    refine lv_iload_n hx hb dX5_lengthen_24 rfl (lv_at hl 2 rfl) ?_
    refine ra_ild hx hb hK hP 2 rfl dX5_lengthen_25 ⟨by omega, by omega⟩ (by omega) ?_
    refine lv_bipush (v := Int32.ofInt 10) hx hb dX5_lengthen_26 (by decide) ?_
    refine ri_mul hx hb dX5_lengthen_28 (fun z28 e28 => ?_)
    refine lv_iload_n hx hb dX5_lengthen_29 rfl (lv_at hl 3 rfl) ?_
    refine ri_add hx hb dX5_lengthen_30 (fun z30 e30 => ?_)
    refine lv_sipush (v := Int32.ofInt 201) hx hb dX5_lengthen_31 (by decide) ?_
    refine ri_min hx hb (by rw [hml]; exact hl.1.symm) hown lk_min122 lk_mins lk_mathz lk_minc (by rw [hR]; exact Nat.le_of_ble_eq_true rfl) (by rw [hR]; exact Nat.le_of_ble_eq_true rfl) (by rw [hR]; exact Nat.le_of_ble_eq_true rfl) (by rw [hR]; exact Nat.le_of_ble_eq_true rfl) ⟨by omega, by omega⟩ ⟨by omega, by omega⟩ dX5_lengthen_34 (fun z34 e34 => ?_)
    have h34 : (201 < z30 ∧ z34 = 201) ∨ (z30 ≤ 201 ∧ z34 = z30) := by rw [e34]; split <;> omega
    refine ra_ist hx hb hK hP hD hS 2 rfl dX5_lengthen_37 ⟨by omega, by omega⟩ (by omega) (fun H locs hP hD hS => ?_)
    have hP : va_P g vwCl [(hd, oB 5 [.ref hdt, .ref hdk, .ref hds, .ref hdv, vI n, vI he0, vI fa, vI sr, vI sl, vI st0]), (hdk, aI ca 201 tk), (hdv, aI ca 201 (zu va k0 z34))] H := hP
    have hD : va_D A [(hd, oB 5 [.ref hdt, .ref hdk, .ref hds, .ref hdv, vI n, vI he0, vI fa, vI sr, vI sl, vI st0]), (hdk, aI ca 201 tk), (hdv, aI ca 201 (zu va k0 z34))] := hD
    refine lv_iload_n hx hb dX5_lengthen_38 rfl (lv_at hl 0 rfl) ?_
    refine ri_if_ne (tgt := 54) hx hb dX5_lengthen_39 (by decide) ⟨by omega, by omega⟩ (fun c39_ => ?_) (fun c39_ => ?_)
    · exact absurd c39_ (by decide)
    · skip
      refine lv_aload_n hx hb dX5_lengthen_42 rfl (lv_at hl 1 rfl) ?_
      refine va_get (D := g) (ci := 5) (v := .ref hdv) (C := RX5) (T := TX5) (N := 10) hx hb hts inF_X5 hown hK.1 hP 0 rfl rfl 3 (by decide) lk_f21 (fun _ h9 => h9) rfl dX5_lengthen_43 ?_
      refine lv_iload_n hx hb dX5_lengthen_46 rfl (lv_at hl 2 rfl) ?_
      refine ra_ild hx hb hK hP 2 rfl dX5_lengthen_47 ⟨by omega, by omega⟩ (by omega) ?_
      have h48 : ((zu va k0 z34) k0) = z34 := zu_s
      refine lv_sipush (v := Int32.ofInt 200) hx hb dX5_lengthen_48 (by decide) ?_
      refine ri_icmp_le (tgt := 62) hx hb dX5_lengthen_51 (by decide) ⟨by omega, by omega⟩ ⟨by omega, by omega⟩ (fun c51 => ?_) (fun c51 => ?_)
      · skip
        refine zr_V hx hb hr hlk hQ (tk, zu va k0 z34) hP hD hS dX5_lengthen_62 (Nat.le_of_ble_eq_true rfl) (Nat.le_of_ble_eq_true rfl) ?_
        show LGN tk va k0 d0 tk (zu va k0 z34)
        exact ⟨z34, by omega, rfl, by first | exact Or.inl ⟨rfl, by omega⟩ | exact Or.inr ⟨rfl, by omega⟩⟩
      · skip
        refine lv_aload_n hx hb dX5_lengthen_54 rfl (lv_at hl 1 rfl) ?_
        refine va_get (D := g) (ci := 5) (v := .ref hdk) (C := RX5) (T := TX5) (N := 10) hx hb hts inF_X5 hown hK.1 hP 0 rfl rfl 1 (by decide) lk_f15 (fun _ h9 => h9) rfl dX5_lengthen_55 ?_
        refine lv_iload_n hx hb dX5_lengthen_58 rfl (lv_at hl 2 rfl) ?_
        refine lv_bipush (v := Int32.ofInt (-3)) hx hb dX5_lengthen_59 (by decide) ?_
        refine ra_ist hx hb hK hP hD hS 1 rfl dX5_lengthen_61 ⟨by omega, by omega⟩ (by omega) (fun H locs hP hD hS => ?_)
        have hP : va_P g vwCl [(hd, oB 5 [.ref hdt, .ref hdk, .ref hds, .ref hdv, vI n, vI he0, vI fa, vI sr, vI sl, vI st0]), (hdk, aI ca 201 (zu tk k0 (-3))), (hdv, aI ca 201 (zu va k0 z34))] H := hP
        have hD : va_D A [(hd, oB 5 [.ref hdt, .ref hdk, .ref hds, .ref hdv, vI n, vI he0, vI fa, vI sr, vI sl, vI st0]), (hdk, aI ca 201 (zu tk k0 (-3))), (hdv, aI ca 201 (zu va k0 z34))] := hD
        refine zr_V hx hb hr hlk hQ (zu tk k0 (-3), zu va k0 z34) hP hD hS dX5_lengthen_62 (Nat.le_of_ble_eq_true rfl) (Nat.le_of_ble_eq_true rfl) ?_
        show LGN tk va k0 d0 (zu tk k0 (-3)) (zu va k0 z34)
        exact ⟨z34, by omega, rfl, by first | exact Or.inl ⟨rfl, by omega⟩ | exact Or.inr ⟨rfl, by omega⟩⟩
  · skip
    refine lv_iconst (v := Int32.ofInt 1) hx hb dX5_lengthen_9 rfl ?_
    refine lv_goto (tgt := 14) hx hb dX5_lengthen_10 (by decide) ?_
    refine lv_istore_n (lv' := [(3, vI 1), (0, .ref hd), (1, vI k0), (2, vI d0)]) hx hb dX5_lengthen_14 rfl hl (by decide) rfl (fun ls hl => ?_)
    refine lv_aload_n hx hb dX5_lengthen_15 rfl (lv_at hl 1 rfl) ?_
    refine va_get (D := g) (ci := 5) (v := .ref hdv) (C := RX5) (T := TX5) (N := 10) hx hb hts inF_X5 hown hK.1 hP 0 rfl rfl 3 (by decide) lk_f21 (fun _ h9 => h9) rfl dX5_lengthen_16 ?_
    refine lv_iload_n hx hb dX5_lengthen_19 rfl (lv_at hl 2 rfl) ?_
    refine lv_aload_n hx hb dX5_lengthen_20 rfl (lv_at hl 1 rfl) ?_
    refine va_get (D := g) (ci := 5) (v := .ref hdv) (C := RX5) (T := TX5) (N := 10) hx hb hts inF_X5 hown hK.1 hP 0 rfl rfl 3 (by decide) lk_f21 (fun _ h9 => h9) rfl dX5_lengthen_21 ?_
    refine lv_iload_n hx hb dX5_lengthen_24 rfl (lv_at hl 2 rfl) ?_
    refine ra_ild hx hb hK hP 2 rfl dX5_lengthen_25 ⟨by omega, by omega⟩ (by omega) ?_
    refine lv_bipush (v := Int32.ofInt 10) hx hb dX5_lengthen_26 (by decide) ?_
    refine ri_mul hx hb dX5_lengthen_28 (fun z28 e28 => ?_)
    refine lv_iload_n hx hb dX5_lengthen_29 rfl (lv_at hl 3 rfl) ?_
    refine ri_add hx hb dX5_lengthen_30 (fun z30 e30 => ?_)
    refine lv_sipush (v := Int32.ofInt 201) hx hb dX5_lengthen_31 (by decide) ?_
    refine ri_min hx hb (by rw [hml]; exact hl.1.symm) hown lk_min122 lk_mins lk_mathz lk_minc (by rw [hR]; exact Nat.le_of_ble_eq_true rfl) (by rw [hR]; exact Nat.le_of_ble_eq_true rfl) (by rw [hR]; exact Nat.le_of_ble_eq_true rfl) (by rw [hR]; exact Nat.le_of_ble_eq_true rfl) ⟨by omega, by omega⟩ ⟨by omega, by omega⟩ dX5_lengthen_34 (fun z34 e34 => ?_)
    have h34 : (201 < z30 ∧ z34 = 201) ∨ (z30 ≤ 201 ∧ z34 = z30) := by rw [e34]; split <;> omega
    refine ra_ist hx hb hK hP hD hS 2 rfl dX5_lengthen_37 ⟨by omega, by omega⟩ (by omega) (fun H locs hP hD hS => ?_)
    have hP : va_P g vwCl [(hd, oB 5 [.ref hdt, .ref hdk, .ref hds, .ref hdv, vI n, vI he0, vI fa, vI sr, vI sl, vI st0]), (hdk, aI ca 201 tk), (hdv, aI ca 201 (zu va k0 z34))] H := hP
    have hD : va_D A [(hd, oB 5 [.ref hdt, .ref hdk, .ref hds, .ref hdv, vI n, vI he0, vI fa, vI sr, vI sl, vI st0]), (hdk, aI ca 201 tk), (hdv, aI ca 201 (zu va k0 z34))] := hD
    refine lv_iload_n hx hb dX5_lengthen_38 rfl (lv_at hl 0 rfl) ?_
    refine ri_if_ne (tgt := 54) hx hb dX5_lengthen_39 (by decide) ⟨by omega, by omega⟩ (fun c39_ => ?_) (fun c39_ => ?_)
    · skip
      refine lv_aload_n hx hb dX5_lengthen_54 rfl (lv_at hl 1 rfl) ?_
      refine va_get (D := g) (ci := 5) (v := .ref hdk) (C := RX5) (T := TX5) (N := 10) hx hb hts inF_X5 hown hK.1 hP 0 rfl rfl 1 (by decide) lk_f15 (fun _ h9 => h9) rfl dX5_lengthen_55 ?_
      refine lv_iload_n hx hb dX5_lengthen_58 rfl (lv_at hl 2 rfl) ?_
      refine lv_bipush (v := Int32.ofInt (-3)) hx hb dX5_lengthen_59 (by decide) ?_
      refine ra_ist hx hb hK hP hD hS 1 rfl dX5_lengthen_61 ⟨by omega, by omega⟩ (by omega) (fun H locs hP hD hS => ?_)
      have hP : va_P g vwCl [(hd, oB 5 [.ref hdt, .ref hdk, .ref hds, .ref hdv, vI n, vI he0, vI fa, vI sr, vI sl, vI st0]), (hdk, aI ca 201 (zu tk k0 (-3))), (hdv, aI ca 201 (zu va k0 z34))] H := hP
      have hD : va_D A [(hd, oB 5 [.ref hdt, .ref hdk, .ref hds, .ref hdv, vI n, vI he0, vI fa, vI sr, vI sl, vI st0]), (hdk, aI ca 201 (zu tk k0 (-3))), (hdv, aI ca 201 (zu va k0 z34))] := hD
      refine zr_V hx hb hr hlk hQ (zu tk k0 (-3), zu va k0 z34) hP hD hS dX5_lengthen_62 (Nat.le_of_ble_eq_true rfl) (Nat.le_of_ble_eq_true rfl) ?_
      show LGN tk va k0 d0 (zu tk k0 (-3)) (zu va k0 z34)
      exact ⟨z34, by omega, rfl, by first | exact Or.inl ⟨rfl, by omega⟩ | exact Or.inr ⟨rfl, by omega⟩⟩
    · exact absurd c39_ (by decide)
set_option maxHeartbeats 4000000 in
set_option maxRecDepth 100000 in
theorem k_X5_cut (l : Launch) (g : va_G) (ca : Nat → ClassId) (hd : Nat) (hdt : Nat) (hdk : Nat) (hds : Nat) (hdv : Nat) (n : Int) (he0 : Int) (fa : Int) (sr : Int) (sl : Int) (st0 : Int) (t : Int → Int) (tk : Int → Int) (sv : Int → Int) (va : Int → Int) (hT : TXok t n) : zV (S := (Int → Int) × (Int → Int) × (Int → Int)) l yX5_cut wsX5_cut ({ frames := 2, cells := 0, slots := 0, locals := 46 } : Room) g ca [.ref hd] [(hd, oB 5 [.ref hdt, .ref hdk, .ref hds, .ref hdv, vI n, vI he0, vI fa, vI sr, vI sl, vI st0]), (hdt, aI ca 200 t), (hdk, aI ca 201 tk), (hds, aI ca 201 sv), (hdv, aI ca 201 va)] (fun (u : (Int → Int) × (Int → Int) × (Int → Int)) => ∃ m9 : Int, TOK t n u.1 u.2.1 u.2.2 m9) (fun (u : (Int → Int) × (Int → Int) × (Int → Int)) => [(hd, oB 5 [.ref hdt, .ref hdk, .ref hds, .ref hdv, vI n, vI he0, vI fa, vI sr, vI sl, vI st0]), (hdt, aI ca 200 t), (hdk, aI ca 201 u.1), (hds, aI ca 201 u.2.1), (hdv, aI ca 201 u.2.2)]) 0 0 := by
  refine zm_V (cc := cX5_cut) (maxL := 5) (ret := none) (by decide) rfl (Nat.le_of_ble_eq_true rfl) ?_
  intro p e s m below meth c A ls R args Q hR hargs hQ hx hb hml hr hts hown hlk hnm hK hP hD hA hS hl
  have hown : s.vm.findClass RX5 = some m.cls := hown
  have hl : lv_has ls 5 [(0, .ref hd)] := hl
  have lk_f24 : (Cond.fieldLink RX5 24 "DripRings$Reader" "length" "I").before args s = true := hts _ (by decide +kernel)
  have inF_X5 : ∀ w ∈ wsX50, w ∈ wsX5_cut := by decide +kernel
  have lk_f11 : (Cond.fieldLink RX5 11 "DripRings$Reader" "text" "[I").before args s = true := hts _ (by decide +kernel)
  have hn := hT.1
  refine lv_iconst (v := Int32.ofInt 0) hx hb dX5_cut_0 rfl ?_
  refine lv_istore_n (lv' := [(1, vI 0), (0, .ref hd)]) hx hb dX5_cut_1 rfl hl (by decide) rfl (fun ls hl => ?_)
  refine lv_iconst (v := Int32.ofInt 0) hx hb dX5_cut_2 rfl ?_
  refine lv_istore_n (lv' := [(2, vI 0), (1, vI 0), (0, .ref hd)]) hx hb dX5_cut_3 rfl hl (by decide) rfl (fun ls hl => ?_)
  refine lv_iconst (v := Int32.ofInt 0) hx hb dX5_cut_4 rfl ?_
  refine lv_istore_n (lv' := [(3, vI 0), (2, vI 0), (1, vI 0), (0, .ref hd)]) hx hb dX5_cut_5 rfl hl (by decide) rfl (fun ls hl => ?_)
  have L6 : ∀ (N6 : Nat) (mm : Int) (nb : Int) (a : Int) (f1 : Int → Int) (f2 : Int → Int) (f3 : Int → Int) (hC : CUN t n f1 f2 f3 mm a nb) (hnb : nb = 0 ∨ nb = 1) (hμ : (n - a).toNat < N6) (H : Heap) (locs : List Loc) (hP : va_P g vwCl [(hd, oB 5 [.ref hdt, .ref hdk, .ref hds, .ref hdv, vI n, vI he0, vI fa, vI sr, vI sl, vI st0]), (hdt, aI ca 200 t), (hdk, aI ca 201 f1), (hds, aI ca 201 f2), (hdv, aI ca 201 f3)] H) (hD : va_D A [(hd, oB 5 [.ref hdt, .ref hdk, .ref hds, .ref hdv, vI n, vI he0, vI fa, vI sr, vI sl, vI st0]), (hdt, aI ca 200 t), (hdk, aI ca 201 f1), (hds, aI ca 201 f2), (hdv, aI ca 201 f3)]) (hS : va_S A s.heap H locs) (ls : Array Slot) (hl : lv_has ls 5 [(3, vI a), (2, vI nb), (1, vI mm), (0, .ref hd)]), W p l e R s m args below meth c H locs 0 0 Q (F0 m 6 ls []) := by
    intro N6; induction N6 with
    | zero => intro mm nb a f1 f2 f3 hC hnb hμ; exact absurd hμ (Nat.not_lt_zero _)
    | succ N6 ih6 =>
      intro mm nb a f1 f2 f3 hC hnb hμ H locs hP hD hS ls hl
      have hC1 := hC.1
      refine lv_iload_n hx hb dX5_cut_6 rfl (lv_at hl 0 rfl) ?_
      refine lv_aload_n hx hb dX5_cut_7 rfl (lv_at hl 3 rfl) ?_
      refine va_get (D := g) (ci := 5) (v := vI n) (C := RX5) (T := TX5) (N := 10) hx hb hts inF_X5 hown hK.1 hP 0 rfl rfl 4 (by decide) lk_f24 (fun _ h9 => h9) rfl dX5_cut_8 ?_
      refine ri_icmp_ge (tgt := 134) hx hb dX5_cut_11 (by decide) ⟨by omega, by omega⟩ ⟨by omega, by omega⟩ (fun c11 => ?_) (fun c11 => ?_)
      · skip
        refine lv_aload_n hx hb dX5_cut_134 rfl (lv_at hl 3 rfl) ?_
        refine lv_iload_n hx hb dX5_cut_135 rfl (lv_at hl 2 rfl) ?_
        refine lv_iconst (v := Int32.ofInt (-1)) hx hb dX5_cut_136 rfl ?_
        refine lv_aload_n hx hb dX5_cut_137 rfl (lv_at hl 3 rfl) ?_
        refine va_get (D := g) (ci := 5) (v := vI n) (C := RX5) (T := TX5) (N := 10) hx hb hts inF_X5 hown hK.1 hP 0 rfl rfl 4 (by decide) lk_f24 (fun _ h9 => h9) rfl dX5_cut_138 ?_
        refine lv_iconst (v := Int32.ofInt 0) hx hb dX5_cut_141 rfl ?_
        refine zc_VV (As := [vI mm, vI (-1), vI n, vI 0]) (rest := []) (wc := [(hd, oB 5 [.ref hdt, .ref hdk, .ref hds, .ref hdv, vI n, vI he0, vI fa, vI sr, vI sl, vI st0]), (hdk, aI ca 201 f1), (hds, aI ca 201 f2), (hdv, aI ca 201 f3)]) (wr := [(hdt, aI ca 200 t)]) (k_X5_put l g ca hd hdt hdk hds hdv n he0 fa sr sl st0 f1 f2 f3 mm (-1) n 0 (by first | assumption | omega)) dX5_cut_142 (cwV 4 hts gX5_cut_X5_put rfl rfl rfl (by decide +kernel) (by rw [hR]; exact ⟨Nat.le_of_ble_eq_true rfl, Nat.le_of_ble_eq_true rfl⟩)) ⟨hx, hb, hml, hown, hts⟩ hl.1 hK hP hD hS hA 0 rfl rfl rfl [0, 2, 3, 4] [1] rfl (by decide) rfl (by decide) (by decide) rfl rfl (Nat.le_of_ble_eq_true rfl) (by rw [hR]; exact ⟨Nat.le_of_ble_eq_true rfl, Nat.le_of_ble_eq_true rfl⟩) (fun u H locs q142 hP hD hS => ?_)
        have hP : va_P g vwCl [(hd, oB 5 [.ref hdt, .ref hdk, .ref hds, .ref hdv, vI n, vI he0, vI fa, vI sr, vI sl, vI st0]), (hdt, aI ca 200 t), (hdk, aI ca 201 (zu f1 mm (-1))), (hds, aI ca 201 (zu f2 mm n)), (hdv, aI ca 201 (zu f3 mm 0))] H := hP.sub [1, 0, 2, 3, 4] rfl
        have hD : va_D A [(hd, oB 5 [.ref hdt, .ref hdk, .ref hds, .ref hdv, vI n, vI he0, vI fa, vI sr, vI sl, vI st0]), (hdt, aI ca 200 t), (hdk, aI ca 201 (zu f1 mm (-1))), (hds, aI ca 201 (zu f2 mm n)), (hdv, aI ca 201 (zu f3 mm 0))] := hD.sub [1, 0, 2, 3, 4] (by decide) rfl
        refine zr_V hx hb hr hlk hQ (zu f1 mm (-1), zu f2 mm n, zu f3 mm 0) hP hD hS dX5_cut_145 (Nat.le_of_ble_eq_true rfl) (Nat.le_of_ble_eq_true rfl) ?_
        show ∃ m9 : Int, TOK t n (zu f1 mm (-1)) (zu f2 mm n) (zu f3 mm 0) m9
        exact ⟨mm, CUT_e (CUN_c hC (by omega)) hn.2 (by omega)⟩
      · skip
        have ht14 := hT.2 a (by omega) (by omega)
        refine lv_aload_n hx hb dX5_cut_14 rfl (lv_at hl 3 rfl) ?_
        refine va_get (D := g) (ci := 5) (v := .ref hdt) (C := RX5) (T := TX5) (N := 10) hx hb hts inF_X5 hown hK.1 hP 0 rfl rfl 0 (by decide) lk_f11 (fun _ h9 => h9) rfl dX5_cut_15 ?_
        refine lv_iload_n hx hb dX5_cut_18 rfl (lv_at hl 0 rfl) ?_
        refine ra_ild hx hb hK hP 1 rfl dX5_cut_19 ⟨by omega, by omega⟩ (by omega) ?_
        refine zc_SI (As := [vI (t a)]) (rest := []) (wc := []) (wr := [(hd, oB 5 [.ref hdt, .ref hdk, .ref hds, .ref hdv, vI n, vI he0, vI fa, vI sr, vI sl, vI st0]), (hdt, aI ca 200 t), (hdk, aI ca 201 f1), (hds, aI ca 201 f2), (hdv, aI ca 201 f3)]) (k_X5_isDigit l g ca (t a) (by first | assumption | omega)) dX5_cut_20 (va_cwS 1 hts gX5_cut_X5_isDigit rfl rfl rfl (by decide +kernel) (by rw [hR]; exact ⟨Nat.le_of_ble_eq_true rfl, Nat.le_of_ble_eq_true rfl⟩)) ⟨hx, hb, hml, hown, hts⟩ hl.1 hK hP hD hS hA [] [0, 1, 2, 3, 4] rfl (by decide) rfl (by decide) (by decide) rfl rfl (Nat.le_of_ble_eq_true rfl) (by rw [hR]; exact ⟨Nat.le_of_ble_eq_true rfl, Nat.le_of_ble_eq_true rfl⟩) (fun z20 u H locs q20 hP hD hS => ?_)
        have q20 : (z20 = 1 ∧ 48 ≤ (t a) ∧ (t a) ≤ 57) ∨ (z20 = 0 ∧ ¬ (48 ≤ (t a) ∧ (t a) ≤ 57)) := q20
        have hP : va_P g vwCl [(hd, oB 5 [.ref hdt, .ref hdk, .ref hds, .ref hdv, vI n, vI he0, vI fa, vI sr, vI sl, vI st0]), (hdt, aI ca 200 t), (hdk, aI ca 201 f1), (hds, aI ca 201 f2), (hdv, aI ca 201 f3)] H := hP.sub [0, 1, 2, 3, 4] rfl
        have hD : va_D A [(hd, oB 5 [.ref hdt, .ref hdk, .ref hds, .ref hdv, vI n, vI he0, vI fa, vI sr, vI sl, vI st0]), (hdt, aI ca 200 t), (hdk, aI ca 201 f1), (hds, aI ca 201 f2), (hdv, aI ca 201 f3)] := hD.sub [0, 1, 2, 3, 4] (by decide) rfl
        refine lv_istore (lv' := [(4, vI z20), (3, vI a), (2, vI nb), (1, vI mm), (0, .ref hd)]) hx hb dX5_cut_23 hl (by decide) rfl (fun ls hl => ?_)
        refine lv_iload hx hb dX5_cut_25 (lv_at hl 0 rfl) ?_
        refine ri_if_eq (tgt := 53) hx hb dX5_cut_27 (by decide) ⟨by omega, by omega⟩ (fun c27 => ?_) (fun c27 => ?_)
        · skip
          refine lv_iload hx hb dX5_cut_53 (lv_at hl 0 rfl) ?_
          refine ri_if_eq (tgt := 81) hx hb dX5_cut_55 (by decide) ⟨by omega, by omega⟩ (fun c55 => ?_) (fun c55 => ?_)
          · skip
            refine lv_aload_n hx hb dX5_cut_81 rfl (lv_at hl 4 rfl) ?_
            refine va_get (D := g) (ci := 5) (v := .ref hdt) (C := RX5) (T := TX5) (N := 10) hx hb hts inF_X5 hown hK.1 hP 0 rfl rfl 0 (by decide) lk_f11 (fun _ h9 => h9) rfl dX5_cut_82 ?_
            refine lv_iload_n hx hb dX5_cut_85 rfl (lv_at hl 1 rfl) ?_
            refine ra_ild hx hb hK hP 1 rfl dX5_cut_86 ⟨by omega, by omega⟩ (by omega) ?_
            refine lv_bipush (v := Int32.ofInt 32) hx hb dX5_cut_87 (by decide) ?_
            refine ri_icmp_eq (tgt := 125) hx hb dX5_cut_89 (by decide) ⟨by omega, by omega⟩ ⟨by omega, by omega⟩ (fun c89 => ?_) (fun c89 => ?_)
            · skip
              refine lv_iload hx hb dX5_cut_125 (lv_at hl 0 rfl) ?_
              refine lv_istore_n (lv' := [(2, vI z20), (4, vI z20), (3, vI a), (1, vI mm), (0, .ref hd)]) hx hb dX5_cut_127 rfl hl (by decide) rfl (fun ls hl => ?_)
              obtain ⟨z128, e128⟩ : ∃ q : Int, q = a + 1 := ⟨_, rfl⟩
              refine ri_inc (lv' := [(3, vI z128), (2, vI z20), (4, vI z20), (1, vI mm), (0, .ref hd)]) hx hb dX5_cut_128 hl (k := 2) rfl (by decide) z128 e128 rfl (fun ls hl => ?_)
              refine lv_goto (tgt := 6) hx hb dX5_cut_131 (by decide) ?_
              exact ih6 mm z20 z128 f1 f2 f3 (by
                    first
                    | (exfalso; omega)
                    | exact CUN_b hC (by omega) (by omega) (by omega) (by omega)
                    | exact CUN_l hC (by omega) (by omega) (by omega) (show z37 = mm - 1 by omega) (by omega) q47 (by omega) (by omega)
                    | exact CUN_d hC (by omega) (by omega) (by omega) (by omega) (by omega) (by omega) (by omega)
                    | exact CUN_t hC (by omega) (by omega) (by omega) (by unfold kd; rw [if_neg (by omega), if_neg (by omega)]; first | rw [if_pos (by omega)] | rw [if_neg (by omega)]) (by omega) (by omega) (by omega)) (by first | assumption | omega) (by omega) _ _ hP hD hS ls (lv_sub hl [0, 1, 3, 4] rfl)
            · skip
              refine lv_aload_n hx hb dX5_cut_92 rfl (lv_at hl 4 rfl) ?_
              refine lv_iload_n hx hb dX5_cut_93 rfl (lv_at hl 3 rfl) ?_
              refine lv_aload_n hx hb dX5_cut_94 rfl (lv_at hl 4 rfl) ?_
              refine va_get (D := g) (ci := 5) (v := .ref hdt) (C := RX5) (T := TX5) (N := 10) hx hb hts inF_X5 hown hK.1 hP 0 rfl rfl 0 (by decide) lk_f11 (fun _ h9 => h9) rfl dX5_cut_95 ?_
              refine lv_iload_n hx hb dX5_cut_98 rfl (lv_at hl 1 rfl) ?_
              refine ra_ild hx hb hK hP 1 rfl dX5_cut_99 ⟨by omega, by omega⟩ (by omega) ?_
              refine zc_SI (As := [vI (t a)]) (rest := [vI mm, .ref hd]) (wc := []) (wr := [(hd, oB 5 [.ref hdt, .ref hdk, .ref hds, .ref hdv, vI n, vI he0, vI fa, vI sr, vI sl, vI st0]), (hdt, aI ca 200 t), (hdk, aI ca 201 f1), (hds, aI ca 201 f2), (hdv, aI ca 201 f3)]) (k_X5_isSign l g ca (t a) (by first | assumption | omega)) dX5_cut_100 (va_cwS 1 hts gX5_cut_X5_isSign rfl rfl rfl (by decide +kernel) (by rw [hR]; exact ⟨Nat.le_of_ble_eq_true rfl, Nat.le_of_ble_eq_true rfl⟩)) ⟨hx, hb, hml, hown, hts⟩ hl.1 hK hP hD hS hA [] [0, 1, 2, 3, 4] rfl (by decide) rfl (by decide) (by decide) rfl rfl (Nat.le_of_ble_eq_true rfl) (by rw [hR]; exact ⟨Nat.le_of_ble_eq_true rfl, Nat.le_of_ble_eq_true rfl⟩) (fun z100 u H locs q100 hP hD hS => ?_)
              have q100 : (z100 = 1 ∧ ((t a) = 114 ∨ (t a) = 108 ∨ (t a) = 116 ∨ (t a) = 112 ∨ (t a) = 59)) ∨ (z100 = 0 ∧ ¬ ((t a) = 114 ∨ (t a) = 108 ∨ (t a) = 116 ∨ (t a) = 112 ∨ (t a) = 59)) := q100
              have hP : va_P g vwCl [(hd, oB 5 [.ref hdt, .ref hdk, .ref hds, .ref hdv, vI n, vI he0, vI fa, vI sr, vI sl, vI st0]), (hdt, aI ca 200 t), (hdk, aI ca 201 f1), (hds, aI ca 201 f2), (hdv, aI ca 201 f3)] H := hP.sub [0, 1, 2, 3, 4] rfl
              have hD : va_D A [(hd, oB 5 [.ref hdt, .ref hdk, .ref hds, .ref hdv, vI n, vI he0, vI fa, vI sr, vI sl, vI st0]), (hdt, aI ca 200 t), (hdk, aI ca 201 f1), (hds, aI ca 201 f2), (hdv, aI ca 201 f3)] := hD.sub [0, 1, 2, 3, 4] (by decide) rfl
              refine ri_if_eq (tgt := 115) hx hb dX5_cut_103 (by decide) ⟨by omega, by omega⟩ (fun c103 => ?_) (fun c103 => ?_)
              · skip
                refine lv_bipush (v := Int32.ofInt (-3)) hx hb dX5_cut_115 (by decide) ?_
                refine lv_iload_n hx hb dX5_cut_117 rfl (lv_at hl 1 rfl) ?_
                refine lv_iconst (v := Int32.ofInt 0) hx hb dX5_cut_118 rfl ?_
                refine zc_VV (As := [vI mm, vI (-3), vI a, vI 0]) (rest := []) (wc := [(hd, oB 5 [.ref hdt, .ref hdk, .ref hds, .ref hdv, vI n, vI he0, vI fa, vI sr, vI sl, vI st0]), (hdk, aI ca 201 f1), (hds, aI ca 201 f2), (hdv, aI ca 201 f3)]) (wr := [(hdt, aI ca 200 t)]) (k_X5_put l g ca hd hdt hdk hds hdv n he0 fa sr sl st0 f1 f2 f3 mm (-3) a 0 (by first | assumption | omega)) dX5_cut_119 (cwV 4 hts gX5_cut_X5_put rfl rfl rfl (by decide +kernel) (by rw [hR]; exact ⟨Nat.le_of_ble_eq_true rfl, Nat.le_of_ble_eq_true rfl⟩)) ⟨hx, hb, hml, hown, hts⟩ hl.1 hK hP hD hS hA 0 rfl rfl rfl [0, 2, 3, 4] [1] rfl (by decide) rfl (by decide) (by decide) rfl rfl (Nat.le_of_ble_eq_true rfl) (by rw [hR]; exact ⟨Nat.le_of_ble_eq_true rfl, Nat.le_of_ble_eq_true rfl⟩) (fun u H locs q119 hP hD hS => ?_)
                have hP : va_P g vwCl [(hd, oB 5 [.ref hdt, .ref hdk, .ref hds, .ref hdv, vI n, vI he0, vI fa, vI sr, vI sl, vI st0]), (hdt, aI ca 200 t), (hdk, aI ca 201 (zu f1 mm (-3))), (hds, aI ca 201 (zu f2 mm a)), (hdv, aI ca 201 (zu f3 mm 0))] H := hP.sub [1, 0, 2, 3, 4] rfl
                have hD : va_D A [(hd, oB 5 [.ref hdt, .ref hdk, .ref hds, .ref hdv, vI n, vI he0, vI fa, vI sr, vI sl, vI st0]), (hdt, aI ca 200 t), (hdk, aI ca 201 (zu f1 mm (-3))), (hds, aI ca 201 (zu f2 mm a)), (hdv, aI ca 201 (zu f3 mm 0))] := hD.sub [1, 0, 2, 3, 4] (by decide) rfl
                obtain ⟨z122, e122⟩ : ∃ q : Int, q = mm + 1 := ⟨_, rfl⟩
                refine ri_inc (lv' := [(1, vI z122), (4, vI z20), (3, vI a), (2, vI nb), (0, .ref hd)]) hx hb dX5_cut_122 hl (k := 3) rfl (by decide) z122 e122 rfl (fun ls hl => ?_)
                refine lv_iload hx hb dX5_cut_125 (lv_at hl 1 rfl) ?_
                refine lv_istore_n (lv' := [(2, vI z20), (1, vI z122), (4, vI z20), (3, vI a), (0, .ref hd)]) hx hb dX5_cut_127 rfl hl (by decide) rfl (fun ls hl => ?_)
                obtain ⟨z128, e128⟩ : ∃ q : Int, q = a + 1 := ⟨_, rfl⟩
                refine ri_inc (lv' := [(3, vI z128), (2, vI z20), (1, vI z122), (4, vI z20), (0, .ref hd)]) hx hb dX5_cut_128 hl (k := 3) rfl (by decide) z128 e128 rfl (fun ls hl => ?_)
                refine lv_goto (tgt := 6) hx hb dX5_cut_131 (by decide) ?_
                exact ih6 z122 z20 z128 (zu f1 mm (-3)) (zu f2 mm a) (zu f3 mm 0) (by
                      first
                      | (exfalso; omega)
                      | exact CUN_b hC (by omega) (by omega) (by omega) (by omega)
                      | exact CUN_l hC (by omega) (by omega) (by omega) (show z37 = mm - 1 by omega) (by omega) q47 (by omega) (by omega)
                      | exact CUN_d hC (by omega) (by omega) (by omega) (by omega) (by omega) (by omega) (by omega)
                      | exact CUN_t hC (by omega) (by omega) (by omega) (by unfold kd; rw [if_neg (by omega), if_neg (by omega)]; first | rw [if_pos (by omega)] | rw [if_neg (by omega)]) (by omega) (by omega) (by omega)) (by first | assumption | omega) (by omega) _ _ hP hD hS ls (lv_sub hl [0, 1, 2, 4] rfl)
              · skip
                refine lv_aload_n hx hb dX5_cut_106 rfl (lv_at hl 4 rfl) ?_
                refine va_get (D := g) (ci := 5) (v := .ref hdt) (C := RX5) (T := TX5) (N := 10) hx hb hts inF_X5 hown hK.1 hP 0 rfl rfl 0 (by decide) lk_f11 (fun _ h9 => h9) rfl dX5_cut_107 ?_
                refine lv_iload_n hx hb dX5_cut_110 rfl (lv_at hl 1 rfl) ?_
                refine ra_ild hx hb hK hP 1 rfl dX5_cut_111 ⟨by omega, by omega⟩ (by omega) ?_
                refine lv_goto (tgt := 117) hx hb dX5_cut_112 (by decide) ?_
                refine lv_iload_n hx hb dX5_cut_117 rfl (lv_at hl 1 rfl) ?_
                refine lv_iconst (v := Int32.ofInt 0) hx hb dX5_cut_118 rfl ?_
                refine zc_VV (As := [vI mm, vI (t a), vI a, vI 0]) (rest := []) (wc := [(hd, oB 5 [.ref hdt, .ref hdk, .ref hds, .ref hdv, vI n, vI he0, vI fa, vI sr, vI sl, vI st0]), (hdk, aI ca 201 f1), (hds, aI ca 201 f2), (hdv, aI ca 201 f3)]) (wr := [(hdt, aI ca 200 t)]) (k_X5_put l g ca hd hdt hdk hds hdv n he0 fa sr sl st0 f1 f2 f3 mm (t a) a 0 (by first | assumption | omega)) dX5_cut_119 (cwV 4 hts gX5_cut_X5_put rfl rfl rfl (by decide +kernel) (by rw [hR]; exact ⟨Nat.le_of_ble_eq_true rfl, Nat.le_of_ble_eq_true rfl⟩)) ⟨hx, hb, hml, hown, hts⟩ hl.1 hK hP hD hS hA 0 rfl rfl rfl [0, 2, 3, 4] [1] rfl (by decide) rfl (by decide) (by decide) rfl rfl (Nat.le_of_ble_eq_true rfl) (by rw [hR]; exact ⟨Nat.le_of_ble_eq_true rfl, Nat.le_of_ble_eq_true rfl⟩) (fun u H locs q119 hP hD hS => ?_)
                have hP : va_P g vwCl [(hd, oB 5 [.ref hdt, .ref hdk, .ref hds, .ref hdv, vI n, vI he0, vI fa, vI sr, vI sl, vI st0]), (hdt, aI ca 200 t), (hdk, aI ca 201 (zu f1 mm (t a))), (hds, aI ca 201 (zu f2 mm a)), (hdv, aI ca 201 (zu f3 mm 0))] H := hP.sub [1, 0, 2, 3, 4] rfl
                have hD : va_D A [(hd, oB 5 [.ref hdt, .ref hdk, .ref hds, .ref hdv, vI n, vI he0, vI fa, vI sr, vI sl, vI st0]), (hdt, aI ca 200 t), (hdk, aI ca 201 (zu f1 mm (t a))), (hds, aI ca 201 (zu f2 mm a)), (hdv, aI ca 201 (zu f3 mm 0))] := hD.sub [1, 0, 2, 3, 4] (by decide) rfl
                obtain ⟨z122, e122⟩ : ∃ q : Int, q = mm + 1 := ⟨_, rfl⟩
                refine ri_inc (lv' := [(1, vI z122), (4, vI z20), (3, vI a), (2, vI nb), (0, .ref hd)]) hx hb dX5_cut_122 hl (k := 3) rfl (by decide) z122 e122 rfl (fun ls hl => ?_)
                refine lv_iload hx hb dX5_cut_125 (lv_at hl 1 rfl) ?_
                refine lv_istore_n (lv' := [(2, vI z20), (1, vI z122), (4, vI z20), (3, vI a), (0, .ref hd)]) hx hb dX5_cut_127 rfl hl (by decide) rfl (fun ls hl => ?_)
                obtain ⟨z128, e128⟩ : ∃ q : Int, q = a + 1 := ⟨_, rfl⟩
                refine ri_inc (lv' := [(3, vI z128), (2, vI z20), (1, vI z122), (4, vI z20), (0, .ref hd)]) hx hb dX5_cut_128 hl (k := 3) rfl (by decide) z128 e128 rfl (fun ls hl => ?_)
                refine lv_goto (tgt := 6) hx hb dX5_cut_131 (by decide) ?_
                exact ih6 z122 z20 z128 (zu f1 mm (t a)) (zu f2 mm a) (zu f3 mm 0) (by
                      first
                      | (exfalso; omega)
                      | exact CUN_b hC (by omega) (by omega) (by omega) (by omega)
                      | exact CUN_l hC (by omega) (by omega) (by omega) (show z37 = mm - 1 by omega) (by omega) q47 (by omega) (by omega)
                      | exact CUN_d hC (by omega) (by omega) (by omega) (by omega) (by omega) (by omega) (by omega)
                      | exact CUN_t hC (by omega) (by omega) (by omega) (by unfold kd; rw [if_neg (by omega), if_neg (by omega)]; first | rw [if_pos (by omega)] | rw [if_neg (by omega)]) (by omega) (by omega) (by omega)) (by first | assumption | omega) (by omega) _ _ hP hD hS ls (lv_sub hl [0, 1, 2, 4] rfl)
          · skip
            refine lv_aload_n hx hb dX5_cut_58 rfl (lv_at hl 4 rfl) ?_
            refine lv_iload_n hx hb dX5_cut_59 rfl (lv_at hl 3 rfl) ?_
            refine lv_bipush (v := Int32.ofInt (-2)) hx hb dX5_cut_60 (by decide) ?_
            refine lv_iload_n hx hb dX5_cut_62 rfl (lv_at hl 1 rfl) ?_
            refine lv_aload_n hx hb dX5_cut_63 rfl (lv_at hl 4 rfl) ?_
            refine va_get (D := g) (ci := 5) (v := .ref hdt) (C := RX5) (T := TX5) (N := 10) hx hb hts inF_X5 hown hK.1 hP 0 rfl rfl 0 (by decide) lk_f11 (fun _ h9 => h9) rfl dX5_cut_64 ?_
            refine lv_iload_n hx hb dX5_cut_67 rfl (lv_at hl 1 rfl) ?_
            refine ra_ild hx hb hK hP 1 rfl dX5_cut_68 ⟨by omega, by omega⟩ (by omega) ?_
            refine lv_bipush (v := Int32.ofInt 48) hx hb dX5_cut_69 (by decide) ?_
            refine ri_sub hx hb dX5_cut_71 (fun z71 e71 => ?_)
            refine zc_VV (As := [vI mm, vI (-2), vI a, vI z71]) (rest := []) (wc := [(hd, oB 5 [.ref hdt, .ref hdk, .ref hds, .ref hdv, vI n, vI he0, vI fa, vI sr, vI sl, vI st0]), (hdk, aI ca 201 f1), (hds, aI ca 201 f2), (hdv, aI ca 201 f3)]) (wr := [(hdt, aI ca 200 t)]) (k_X5_put l g ca hd hdt hdk hds hdv n he0 fa sr sl st0 f1 f2 f3 mm (-2) a z71 (by first | assumption | omega)) dX5_cut_72 (cwV 4 hts gX5_cut_X5_put rfl rfl rfl (by decide +kernel) (by rw [hR]; exact ⟨Nat.le_of_ble_eq_true rfl, Nat.le_of_ble_eq_true rfl⟩)) ⟨hx, hb, hml, hown, hts⟩ hl.1 hK hP hD hS hA 0 rfl rfl rfl [0, 2, 3, 4] [1] rfl (by decide) rfl (by decide) (by decide) rfl rfl (Nat.le_of_ble_eq_true rfl) (by rw [hR]; exact ⟨Nat.le_of_ble_eq_true rfl, Nat.le_of_ble_eq_true rfl⟩) (fun u H locs q72 hP hD hS => ?_)
            have hP : va_P g vwCl [(hd, oB 5 [.ref hdt, .ref hdk, .ref hds, .ref hdv, vI n, vI he0, vI fa, vI sr, vI sl, vI st0]), (hdt, aI ca 200 t), (hdk, aI ca 201 (zu f1 mm (-2))), (hds, aI ca 201 (zu f2 mm a)), (hdv, aI ca 201 (zu f3 mm z71))] H := hP.sub [1, 0, 2, 3, 4] rfl
            have hD : va_D A [(hd, oB 5 [.ref hdt, .ref hdk, .ref hds, .ref hdv, vI n, vI he0, vI fa, vI sr, vI sl, vI st0]), (hdt, aI ca 200 t), (hdk, aI ca 201 (zu f1 mm (-2))), (hds, aI ca 201 (zu f2 mm a)), (hdv, aI ca 201 (zu f3 mm z71))] := hD.sub [1, 0, 2, 3, 4] (by decide) rfl
            obtain ⟨z75, e75⟩ : ∃ q : Int, q = mm + 1 := ⟨_, rfl⟩
            refine ri_inc (lv' := [(1, vI z75), (4, vI z20), (3, vI a), (2, vI nb), (0, .ref hd)]) hx hb dX5_cut_75 hl (k := 3) rfl (by decide) z75 e75 rfl (fun ls hl => ?_)
            refine lv_goto (tgt := 125) hx hb dX5_cut_78 (by decide) ?_
            refine lv_iload hx hb dX5_cut_125 (lv_at hl 1 rfl) ?_
            refine lv_istore_n (lv' := [(2, vI z20), (1, vI z75), (4, vI z20), (3, vI a), (0, .ref hd)]) hx hb dX5_cut_127 rfl hl (by decide) rfl (fun ls hl => ?_)
            obtain ⟨z128, e128⟩ : ∃ q : Int, q = a + 1 := ⟨_, rfl⟩
            refine ri_inc (lv' := [(3, vI z128), (2, vI z20), (1, vI z75), (4, vI z20), (0, .ref hd)]) hx hb dX5_cut_128 hl (k := 3) rfl (by decide) z128 e128 rfl (fun ls hl => ?_)
            refine lv_goto (tgt := 6) hx hb dX5_cut_131 (by decide) ?_
            exact ih6 z75 z20 z128 (zu f1 mm (-2)) (zu f2 mm a) (zu f3 mm z71) (by
                  first
                  | (exfalso; omega)
                  | exact CUN_b hC (by omega) (by omega) (by omega) (by omega)
                  | exact CUN_l hC (by omega) (by omega) (by omega) (show z37 = mm - 1 by omega) (by omega) q47 (by omega) (by omega)
                  | exact CUN_d hC (by omega) (by omega) (by omega) (by omega) (by omega) (by omega) (by omega)
                  | exact CUN_t hC (by omega) (by omega) (by omega) (by unfold kd; rw [if_neg (by omega), if_neg (by omega)]; first | rw [if_pos (by omega)] | rw [if_neg (by omega)]) (by omega) (by omega) (by omega)) (by first | assumption | omega) (by omega) _ _ hP hD hS ls (lv_sub hl [0, 1, 2, 4] rfl)
        · skip
          refine lv_iload_n hx hb dX5_cut_30 rfl (lv_at hl 2 rfl) ?_
          refine ri_if_eq (tgt := 53) hx hb dX5_cut_31 (by decide) ⟨by omega, by omega⟩ (fun c31 => ?_) (fun c31 => ?_)
          · skip
            refine lv_iload hx hb dX5_cut_53 (lv_at hl 0 rfl) ?_
            refine ri_if_eq (tgt := 81) hx hb dX5_cut_55 (by decide) ⟨by omega, by omega⟩ (fun c55 => ?_) (fun c55 => ?_)
            · skip
              refine lv_aload_n hx hb dX5_cut_81 rfl (lv_at hl 4 rfl) ?_
              refine va_get (D := g) (ci := 5) (v := .ref hdt) (C := RX5) (T := TX5) (N := 10) hx hb hts inF_X5 hown hK.1 hP 0 rfl rfl 0 (by decide) lk_f11 (fun _ h9 => h9) rfl dX5_cut_82 ?_
              refine lv_iload_n hx hb dX5_cut_85 rfl (lv_at hl 1 rfl) ?_
              refine ra_ild hx hb hK hP 1 rfl dX5_cut_86 ⟨by omega, by omega⟩ (by omega) ?_
              refine lv_bipush (v := Int32.ofInt 32) hx hb dX5_cut_87 (by decide) ?_
              refine ri_icmp_eq (tgt := 125) hx hb dX5_cut_89 (by decide) ⟨by omega, by omega⟩ ⟨by omega, by omega⟩ (fun c89 => ?_) (fun c89 => ?_)
              · skip
                refine lv_iload hx hb dX5_cut_125 (lv_at hl 0 rfl) ?_
                refine lv_istore_n (lv' := [(2, vI z20), (4, vI z20), (3, vI a), (1, vI mm), (0, .ref hd)]) hx hb dX5_cut_127 rfl hl (by decide) rfl (fun ls hl => ?_)
                obtain ⟨z128, e128⟩ : ∃ q : Int, q = a + 1 := ⟨_, rfl⟩
                refine ri_inc (lv' := [(3, vI z128), (2, vI z20), (4, vI z20), (1, vI mm), (0, .ref hd)]) hx hb dX5_cut_128 hl (k := 2) rfl (by decide) z128 e128 rfl (fun ls hl => ?_)
                refine lv_goto (tgt := 6) hx hb dX5_cut_131 (by decide) ?_
                exact ih6 mm z20 z128 f1 f2 f3 (by
                      first
                      | (exfalso; omega)
                      | exact CUN_b hC (by omega) (by omega) (by omega) (by omega)
                      | exact CUN_l hC (by omega) (by omega) (by omega) (show z37 = mm - 1 by omega) (by omega) q47 (by omega) (by omega)
                      | exact CUN_d hC (by omega) (by omega) (by omega) (by omega) (by omega) (by omega) (by omega)
                      | exact CUN_t hC (by omega) (by omega) (by omega) (by unfold kd; rw [if_neg (by omega), if_neg (by omega)]; first | rw [if_pos (by omega)] | rw [if_neg (by omega)]) (by omega) (by omega) (by omega)) (by first | assumption | omega) (by omega) _ _ hP hD hS ls (lv_sub hl [0, 1, 3, 4] rfl)
              · skip
                refine lv_aload_n hx hb dX5_cut_92 rfl (lv_at hl 4 rfl) ?_
                refine lv_iload_n hx hb dX5_cut_93 rfl (lv_at hl 3 rfl) ?_
                refine lv_aload_n hx hb dX5_cut_94 rfl (lv_at hl 4 rfl) ?_
                refine va_get (D := g) (ci := 5) (v := .ref hdt) (C := RX5) (T := TX5) (N := 10) hx hb hts inF_X5 hown hK.1 hP 0 rfl rfl 0 (by decide) lk_f11 (fun _ h9 => h9) rfl dX5_cut_95 ?_
                refine lv_iload_n hx hb dX5_cut_98 rfl (lv_at hl 1 rfl) ?_
                refine ra_ild hx hb hK hP 1 rfl dX5_cut_99 ⟨by omega, by omega⟩ (by omega) ?_
                refine zc_SI (As := [vI (t a)]) (rest := [vI mm, .ref hd]) (wc := []) (wr := [(hd, oB 5 [.ref hdt, .ref hdk, .ref hds, .ref hdv, vI n, vI he0, vI fa, vI sr, vI sl, vI st0]), (hdt, aI ca 200 t), (hdk, aI ca 201 f1), (hds, aI ca 201 f2), (hdv, aI ca 201 f3)]) (k_X5_isSign l g ca (t a) (by first | assumption | omega)) dX5_cut_100 (va_cwS 1 hts gX5_cut_X5_isSign rfl rfl rfl (by decide +kernel) (by rw [hR]; exact ⟨Nat.le_of_ble_eq_true rfl, Nat.le_of_ble_eq_true rfl⟩)) ⟨hx, hb, hml, hown, hts⟩ hl.1 hK hP hD hS hA [] [0, 1, 2, 3, 4] rfl (by decide) rfl (by decide) (by decide) rfl rfl (Nat.le_of_ble_eq_true rfl) (by rw [hR]; exact ⟨Nat.le_of_ble_eq_true rfl, Nat.le_of_ble_eq_true rfl⟩) (fun z100 u H locs q100 hP hD hS => ?_)
                have q100 : (z100 = 1 ∧ ((t a) = 114 ∨ (t a) = 108 ∨ (t a) = 116 ∨ (t a) = 112 ∨ (t a) = 59)) ∨ (z100 = 0 ∧ ¬ ((t a) = 114 ∨ (t a) = 108 ∨ (t a) = 116 ∨ (t a) = 112 ∨ (t a) = 59)) := q100
                have hP : va_P g vwCl [(hd, oB 5 [.ref hdt, .ref hdk, .ref hds, .ref hdv, vI n, vI he0, vI fa, vI sr, vI sl, vI st0]), (hdt, aI ca 200 t), (hdk, aI ca 201 f1), (hds, aI ca 201 f2), (hdv, aI ca 201 f3)] H := hP.sub [0, 1, 2, 3, 4] rfl
                have hD : va_D A [(hd, oB 5 [.ref hdt, .ref hdk, .ref hds, .ref hdv, vI n, vI he0, vI fa, vI sr, vI sl, vI st0]), (hdt, aI ca 200 t), (hdk, aI ca 201 f1), (hds, aI ca 201 f2), (hdv, aI ca 201 f3)] := hD.sub [0, 1, 2, 3, 4] (by decide) rfl
                refine ri_if_eq (tgt := 115) hx hb dX5_cut_103 (by decide) ⟨by omega, by omega⟩ (fun c103 => ?_) (fun c103 => ?_)
                · skip
                  refine lv_bipush (v := Int32.ofInt (-3)) hx hb dX5_cut_115 (by decide) ?_
                  refine lv_iload_n hx hb dX5_cut_117 rfl (lv_at hl 1 rfl) ?_
                  refine lv_iconst (v := Int32.ofInt 0) hx hb dX5_cut_118 rfl ?_
                  refine zc_VV (As := [vI mm, vI (-3), vI a, vI 0]) (rest := []) (wc := [(hd, oB 5 [.ref hdt, .ref hdk, .ref hds, .ref hdv, vI n, vI he0, vI fa, vI sr, vI sl, vI st0]), (hdk, aI ca 201 f1), (hds, aI ca 201 f2), (hdv, aI ca 201 f3)]) (wr := [(hdt, aI ca 200 t)]) (k_X5_put l g ca hd hdt hdk hds hdv n he0 fa sr sl st0 f1 f2 f3 mm (-3) a 0 (by first | assumption | omega)) dX5_cut_119 (cwV 4 hts gX5_cut_X5_put rfl rfl rfl (by decide +kernel) (by rw [hR]; exact ⟨Nat.le_of_ble_eq_true rfl, Nat.le_of_ble_eq_true rfl⟩)) ⟨hx, hb, hml, hown, hts⟩ hl.1 hK hP hD hS hA 0 rfl rfl rfl [0, 2, 3, 4] [1] rfl (by decide) rfl (by decide) (by decide) rfl rfl (Nat.le_of_ble_eq_true rfl) (by rw [hR]; exact ⟨Nat.le_of_ble_eq_true rfl, Nat.le_of_ble_eq_true rfl⟩) (fun u H locs q119 hP hD hS => ?_)
                  have hP : va_P g vwCl [(hd, oB 5 [.ref hdt, .ref hdk, .ref hds, .ref hdv, vI n, vI he0, vI fa, vI sr, vI sl, vI st0]), (hdt, aI ca 200 t), (hdk, aI ca 201 (zu f1 mm (-3))), (hds, aI ca 201 (zu f2 mm a)), (hdv, aI ca 201 (zu f3 mm 0))] H := hP.sub [1, 0, 2, 3, 4] rfl
                  have hD : va_D A [(hd, oB 5 [.ref hdt, .ref hdk, .ref hds, .ref hdv, vI n, vI he0, vI fa, vI sr, vI sl, vI st0]), (hdt, aI ca 200 t), (hdk, aI ca 201 (zu f1 mm (-3))), (hds, aI ca 201 (zu f2 mm a)), (hdv, aI ca 201 (zu f3 mm 0))] := hD.sub [1, 0, 2, 3, 4] (by decide) rfl
                  obtain ⟨z122, e122⟩ : ∃ q : Int, q = mm + 1 := ⟨_, rfl⟩
                  refine ri_inc (lv' := [(1, vI z122), (4, vI z20), (3, vI a), (2, vI nb), (0, .ref hd)]) hx hb dX5_cut_122 hl (k := 3) rfl (by decide) z122 e122 rfl (fun ls hl => ?_)
                  refine lv_iload hx hb dX5_cut_125 (lv_at hl 1 rfl) ?_
                  refine lv_istore_n (lv' := [(2, vI z20), (1, vI z122), (4, vI z20), (3, vI a), (0, .ref hd)]) hx hb dX5_cut_127 rfl hl (by decide) rfl (fun ls hl => ?_)
                  obtain ⟨z128, e128⟩ : ∃ q : Int, q = a + 1 := ⟨_, rfl⟩
                  refine ri_inc (lv' := [(3, vI z128), (2, vI z20), (1, vI z122), (4, vI z20), (0, .ref hd)]) hx hb dX5_cut_128 hl (k := 3) rfl (by decide) z128 e128 rfl (fun ls hl => ?_)
                  refine lv_goto (tgt := 6) hx hb dX5_cut_131 (by decide) ?_
                  exact ih6 z122 z20 z128 (zu f1 mm (-3)) (zu f2 mm a) (zu f3 mm 0) (by
                        first
                        | (exfalso; omega)
                        | exact CUN_b hC (by omega) (by omega) (by omega) (by omega)
                        | exact CUN_l hC (by omega) (by omega) (by omega) (show z37 = mm - 1 by omega) (by omega) q47 (by omega) (by omega)
                        | exact CUN_d hC (by omega) (by omega) (by omega) (by omega) (by omega) (by omega) (by omega)
                        | exact CUN_t hC (by omega) (by omega) (by omega) (by unfold kd; rw [if_neg (by omega), if_neg (by omega)]; first | rw [if_pos (by omega)] | rw [if_neg (by omega)]) (by omega) (by omega) (by omega)) (by first | assumption | omega) (by omega) _ _ hP hD hS ls (lv_sub hl [0, 1, 2, 4] rfl)
                · skip
                  refine lv_aload_n hx hb dX5_cut_106 rfl (lv_at hl 4 rfl) ?_
                  refine va_get (D := g) (ci := 5) (v := .ref hdt) (C := RX5) (T := TX5) (N := 10) hx hb hts inF_X5 hown hK.1 hP 0 rfl rfl 0 (by decide) lk_f11 (fun _ h9 => h9) rfl dX5_cut_107 ?_
                  refine lv_iload_n hx hb dX5_cut_110 rfl (lv_at hl 1 rfl) ?_
                  refine ra_ild hx hb hK hP 1 rfl dX5_cut_111 ⟨by omega, by omega⟩ (by omega) ?_
                  refine lv_goto (tgt := 117) hx hb dX5_cut_112 (by decide) ?_
                  refine lv_iload_n hx hb dX5_cut_117 rfl (lv_at hl 1 rfl) ?_
                  refine lv_iconst (v := Int32.ofInt 0) hx hb dX5_cut_118 rfl ?_
                  refine zc_VV (As := [vI mm, vI (t a), vI a, vI 0]) (rest := []) (wc := [(hd, oB 5 [.ref hdt, .ref hdk, .ref hds, .ref hdv, vI n, vI he0, vI fa, vI sr, vI sl, vI st0]), (hdk, aI ca 201 f1), (hds, aI ca 201 f2), (hdv, aI ca 201 f3)]) (wr := [(hdt, aI ca 200 t)]) (k_X5_put l g ca hd hdt hdk hds hdv n he0 fa sr sl st0 f1 f2 f3 mm (t a) a 0 (by first | assumption | omega)) dX5_cut_119 (cwV 4 hts gX5_cut_X5_put rfl rfl rfl (by decide +kernel) (by rw [hR]; exact ⟨Nat.le_of_ble_eq_true rfl, Nat.le_of_ble_eq_true rfl⟩)) ⟨hx, hb, hml, hown, hts⟩ hl.1 hK hP hD hS hA 0 rfl rfl rfl [0, 2, 3, 4] [1] rfl (by decide) rfl (by decide) (by decide) rfl rfl (Nat.le_of_ble_eq_true rfl) (by rw [hR]; exact ⟨Nat.le_of_ble_eq_true rfl, Nat.le_of_ble_eq_true rfl⟩) (fun u H locs q119 hP hD hS => ?_)
                  have hP : va_P g vwCl [(hd, oB 5 [.ref hdt, .ref hdk, .ref hds, .ref hdv, vI n, vI he0, vI fa, vI sr, vI sl, vI st0]), (hdt, aI ca 200 t), (hdk, aI ca 201 (zu f1 mm (t a))), (hds, aI ca 201 (zu f2 mm a)), (hdv, aI ca 201 (zu f3 mm 0))] H := hP.sub [1, 0, 2, 3, 4] rfl
                  have hD : va_D A [(hd, oB 5 [.ref hdt, .ref hdk, .ref hds, .ref hdv, vI n, vI he0, vI fa, vI sr, vI sl, vI st0]), (hdt, aI ca 200 t), (hdk, aI ca 201 (zu f1 mm (t a))), (hds, aI ca 201 (zu f2 mm a)), (hdv, aI ca 201 (zu f3 mm 0))] := hD.sub [1, 0, 2, 3, 4] (by decide) rfl
                  obtain ⟨z122, e122⟩ : ∃ q : Int, q = mm + 1 := ⟨_, rfl⟩
                  refine ri_inc (lv' := [(1, vI z122), (4, vI z20), (3, vI a), (2, vI nb), (0, .ref hd)]) hx hb dX5_cut_122 hl (k := 3) rfl (by decide) z122 e122 rfl (fun ls hl => ?_)
                  refine lv_iload hx hb dX5_cut_125 (lv_at hl 1 rfl) ?_
                  refine lv_istore_n (lv' := [(2, vI z20), (1, vI z122), (4, vI z20), (3, vI a), (0, .ref hd)]) hx hb dX5_cut_127 rfl hl (by decide) rfl (fun ls hl => ?_)
                  obtain ⟨z128, e128⟩ : ∃ q : Int, q = a + 1 := ⟨_, rfl⟩
                  refine ri_inc (lv' := [(3, vI z128), (2, vI z20), (1, vI z122), (4, vI z20), (0, .ref hd)]) hx hb dX5_cut_128 hl (k := 3) rfl (by decide) z128 e128 rfl (fun ls hl => ?_)
                  refine lv_goto (tgt := 6) hx hb dX5_cut_131 (by decide) ?_
                  exact ih6 z122 z20 z128 (zu f1 mm (t a)) (zu f2 mm a) (zu f3 mm 0) (by
                        first
                        | (exfalso; omega)
                        | exact CUN_b hC (by omega) (by omega) (by omega) (by omega)
                        | exact CUN_l hC (by omega) (by omega) (by omega) (show z37 = mm - 1 by omega) (by omega) q47 (by omega) (by omega)
                        | exact CUN_d hC (by omega) (by omega) (by omega) (by omega) (by omega) (by omega) (by omega)
                        | exact CUN_t hC (by omega) (by omega) (by omega) (by unfold kd; rw [if_neg (by omega), if_neg (by omega)]; first | rw [if_pos (by omega)] | rw [if_neg (by omega)]) (by omega) (by omega) (by omega)) (by first | assumption | omega) (by omega) _ _ hP hD hS ls (lv_sub hl [0, 1, 2, 4] rfl)
            · skip
              refine lv_aload_n hx hb dX5_cut_58 rfl (lv_at hl 4 rfl) ?_
              refine lv_iload_n hx hb dX5_cut_59 rfl (lv_at hl 3 rfl) ?_
              refine lv_bipush (v := Int32.ofInt (-2)) hx hb dX5_cut_60 (by decide) ?_
              refine lv_iload_n hx hb dX5_cut_62 rfl (lv_at hl 1 rfl) ?_
              refine lv_aload_n hx hb dX5_cut_63 rfl (lv_at hl 4 rfl) ?_
              refine va_get (D := g) (ci := 5) (v := .ref hdt) (C := RX5) (T := TX5) (N := 10) hx hb hts inF_X5 hown hK.1 hP 0 rfl rfl 0 (by decide) lk_f11 (fun _ h9 => h9) rfl dX5_cut_64 ?_
              refine lv_iload_n hx hb dX5_cut_67 rfl (lv_at hl 1 rfl) ?_
              refine ra_ild hx hb hK hP 1 rfl dX5_cut_68 ⟨by omega, by omega⟩ (by omega) ?_
              refine lv_bipush (v := Int32.ofInt 48) hx hb dX5_cut_69 (by decide) ?_
              refine ri_sub hx hb dX5_cut_71 (fun z71 e71 => ?_)
              refine zc_VV (As := [vI mm, vI (-2), vI a, vI z71]) (rest := []) (wc := [(hd, oB 5 [.ref hdt, .ref hdk, .ref hds, .ref hdv, vI n, vI he0, vI fa, vI sr, vI sl, vI st0]), (hdk, aI ca 201 f1), (hds, aI ca 201 f2), (hdv, aI ca 201 f3)]) (wr := [(hdt, aI ca 200 t)]) (k_X5_put l g ca hd hdt hdk hds hdv n he0 fa sr sl st0 f1 f2 f3 mm (-2) a z71 (by first | assumption | omega)) dX5_cut_72 (cwV 4 hts gX5_cut_X5_put rfl rfl rfl (by decide +kernel) (by rw [hR]; exact ⟨Nat.le_of_ble_eq_true rfl, Nat.le_of_ble_eq_true rfl⟩)) ⟨hx, hb, hml, hown, hts⟩ hl.1 hK hP hD hS hA 0 rfl rfl rfl [0, 2, 3, 4] [1] rfl (by decide) rfl (by decide) (by decide) rfl rfl (Nat.le_of_ble_eq_true rfl) (by rw [hR]; exact ⟨Nat.le_of_ble_eq_true rfl, Nat.le_of_ble_eq_true rfl⟩) (fun u H locs q72 hP hD hS => ?_)
              have hP : va_P g vwCl [(hd, oB 5 [.ref hdt, .ref hdk, .ref hds, .ref hdv, vI n, vI he0, vI fa, vI sr, vI sl, vI st0]), (hdt, aI ca 200 t), (hdk, aI ca 201 (zu f1 mm (-2))), (hds, aI ca 201 (zu f2 mm a)), (hdv, aI ca 201 (zu f3 mm z71))] H := hP.sub [1, 0, 2, 3, 4] rfl
              have hD : va_D A [(hd, oB 5 [.ref hdt, .ref hdk, .ref hds, .ref hdv, vI n, vI he0, vI fa, vI sr, vI sl, vI st0]), (hdt, aI ca 200 t), (hdk, aI ca 201 (zu f1 mm (-2))), (hds, aI ca 201 (zu f2 mm a)), (hdv, aI ca 201 (zu f3 mm z71))] := hD.sub [1, 0, 2, 3, 4] (by decide) rfl
              obtain ⟨z75, e75⟩ : ∃ q : Int, q = mm + 1 := ⟨_, rfl⟩
              refine ri_inc (lv' := [(1, vI z75), (4, vI z20), (3, vI a), (2, vI nb), (0, .ref hd)]) hx hb dX5_cut_75 hl (k := 3) rfl (by decide) z75 e75 rfl (fun ls hl => ?_)
              refine lv_goto (tgt := 125) hx hb dX5_cut_78 (by decide) ?_
              refine lv_iload hx hb dX5_cut_125 (lv_at hl 1 rfl) ?_
              refine lv_istore_n (lv' := [(2, vI z20), (1, vI z75), (4, vI z20), (3, vI a), (0, .ref hd)]) hx hb dX5_cut_127 rfl hl (by decide) rfl (fun ls hl => ?_)
              obtain ⟨z128, e128⟩ : ∃ q : Int, q = a + 1 := ⟨_, rfl⟩
              refine ri_inc (lv' := [(3, vI z128), (2, vI z20), (1, vI z75), (4, vI z20), (0, .ref hd)]) hx hb dX5_cut_128 hl (k := 3) rfl (by decide) z128 e128 rfl (fun ls hl => ?_)
              refine lv_goto (tgt := 6) hx hb dX5_cut_131 (by decide) ?_
              exact ih6 z75 z20 z128 (zu f1 mm (-2)) (zu f2 mm a) (zu f3 mm z71) (by
                    first
                    | (exfalso; omega)
                    | exact CUN_b hC (by omega) (by omega) (by omega) (by omega)
                    | exact CUN_l hC (by omega) (by omega) (by omega) (show z37 = mm - 1 by omega) (by omega) q47 (by omega) (by omega)
                    | exact CUN_d hC (by omega) (by omega) (by omega) (by omega) (by omega) (by omega) (by omega)
                    | exact CUN_t hC (by omega) (by omega) (by omega) (by unfold kd; rw [if_neg (by omega), if_neg (by omega)]; first | rw [if_pos (by omega)] | rw [if_neg (by omega)]) (by omega) (by omega) (by omega)) (by first | assumption | omega) (by omega) _ _ hP hD hS ls (lv_sub hl [0, 1, 2, 4] rfl)
          · skip
            refine lv_aload_n hx hb dX5_cut_34 rfl (lv_at hl 4 rfl) ?_
            refine lv_iload_n hx hb dX5_cut_35 rfl (lv_at hl 3 rfl) ?_
            refine lv_iconst (v := Int32.ofInt 1) hx hb dX5_cut_36 rfl ?_
            refine ri_sub hx hb dX5_cut_37 (fun z37 e37 => ?_)
            have hv9 := CUN_v hC (show nb = 1 by omega) e37
            refine lv_aload_n hx hb dX5_cut_38 rfl (lv_at hl 4 rfl) ?_
            refine va_get (D := g) (ci := 5) (v := .ref hdt) (C := RX5) (T := TX5) (N := 10) hx hb hts inF_X5 hown hK.1 hP 0 rfl rfl 0 (by decide) lk_f11 (fun _ h9 => h9) rfl dX5_cut_39 ?_
            refine lv_iload_n hx hb dX5_cut_42 rfl (lv_at hl 1 rfl) ?_
            refine ra_ild hx hb hK hP 1 rfl dX5_cut_43 ⟨by omega, by omega⟩ (by omega) ?_
            refine lv_bipush (v := Int32.ofInt 48) hx hb dX5_cut_44 (by decide) ?_
            refine ri_sub hx hb dX5_cut_46 (fun z46 e46 => ?_)
            refine zc_VV (As := [vI z37, vI z46]) (rest := []) (wc := [(hd, oB 5 [.ref hdt, .ref hdk, .ref hds, .ref hdv, vI n, vI he0, vI fa, vI sr, vI sl, vI st0]), (hdk, aI ca 201 f1), (hdv, aI ca 201 f3)]) (wr := [(hdt, aI ca 200 t), (hds, aI ca 201 f2)]) (k_X5_lengthen l g ca hd hdt hdk hds hdv n he0 fa sr sl st0 f1 f3 z37 z46 (by first | assumption | omega) (by first | assumption | omega) (by first | assumption | omega)) dX5_cut_47 (cwV 2 hts gX5_cut_X5_lengthen rfl rfl rfl (by decide +kernel) (by rw [hR]; exact ⟨Nat.le_of_ble_eq_true rfl, Nat.le_of_ble_eq_true rfl⟩)) ⟨hx, hb, hml, hown, hts⟩ hl.1 hK hP hD hS hA 0 rfl rfl rfl [0, 2, 4] [1, 3] rfl (by decide) rfl (by decide) (by decide) rfl rfl (Nat.le_of_ble_eq_true rfl) (by rw [hR]; exact ⟨Nat.le_of_ble_eq_true rfl, Nat.le_of_ble_eq_true rfl⟩) (fun u H locs q47 hP hD hS => ?_)
            obtain ⟨tk1_47, va1_47⟩ := u
            have q47 : LGN f1 f3 z37 z46 tk1_47 va1_47 := q47
            have hP : va_P g vwCl [(hd, oB 5 [.ref hdt, .ref hdk, .ref hds, .ref hdv, vI n, vI he0, vI fa, vI sr, vI sl, vI st0]), (hdt, aI ca 200 t), (hdk, aI ca 201 tk1_47), (hds, aI ca 201 f2), (hdv, aI ca 201 va1_47)] H := hP.sub [2, 0, 3, 1, 4] rfl
            have hD : va_D A [(hd, oB 5 [.ref hdt, .ref hdk, .ref hds, .ref hdv, vI n, vI he0, vI fa, vI sr, vI sl, vI st0]), (hdt, aI ca 200 t), (hdk, aI ca 201 tk1_47), (hds, aI ca 201 f2), (hdv, aI ca 201 va1_47)] := hD.sub [2, 0, 3, 1, 4] (by decide) rfl
            refine lv_goto (tgt := 125) hx hb dX5_cut_50 (by decide) ?_
            refine lv_iload hx hb dX5_cut_125 (lv_at hl 0 rfl) ?_
            refine lv_istore_n (lv' := [(2, vI z20), (4, vI z20), (3, vI a), (1, vI mm), (0, .ref hd)]) hx hb dX5_cut_127 rfl hl (by decide) rfl (fun ls hl => ?_)
            obtain ⟨z128, e128⟩ : ∃ q : Int, q = a + 1 := ⟨_, rfl⟩
            refine ri_inc (lv' := [(3, vI z128), (2, vI z20), (4, vI z20), (1, vI mm), (0, .ref hd)]) hx hb dX5_cut_128 hl (k := 2) rfl (by decide) z128 e128 rfl (fun ls hl => ?_)
            refine lv_goto (tgt := 6) hx hb dX5_cut_131 (by decide) ?_
            exact ih6 mm z20 z128 tk1_47 f2 va1_47 (by
                  first
                  | (exfalso; omega)
                  | exact CUN_b hC (by omega) (by omega) (by omega) (by omega)
                  | exact CUN_l hC (by omega) (by omega) (by omega) (show z37 = mm - 1 by omega) (by omega) q47 (by omega) (by omega)
                  | exact CUN_d hC (by omega) (by omega) (by omega) (by omega) (by omega) (by omega) (by omega)
                  | exact CUN_t hC (by omega) (by omega) (by omega) (by unfold kd; rw [if_neg (by omega), if_neg (by omega)]; first | rw [if_pos (by omega)] | rw [if_neg (by omega)]) (by omega) (by omega) (by omega)) (by first | assumption | omega) (by omega) _ _ hP hD hS ls (lv_sub hl [0, 1, 3, 4] rfl)
  exact L6 _ 0 0 0 tk sv va (by exact CUN_0 hn.1) (by first | assumption | omega) (Nat.lt_succ_self _) _ _ hP hD hS ls (lv_sub hl [0, 1, 2, 3] rfl)
set_option maxHeartbeats 4000000 in
set_option maxRecDepth 100000 in
theorem k_X5_pass (l : Launch) (g : va_G) (ca : Nat → ClassId) (hd : Nat) (hdt : Nat) (hdk : Nat) (hds : Nat) (hdv : Nat) (n : Int) (he0 : Int) (fa : Int) (sr : Int) (sl : Int) (st0 : Int) (t : Int → Int) (tk : Int → Int) (sv : Int → Int) (va : Int → Int) (mm : Int) (d0 : Int) (hT : TXok t n) (hTK : TOK t n tk sv va mm) (hhe : 0 ≤ he0 ∧ he0 ≤ mm) (hfa : fa = 0 ∨ fa = 1) (hd0 : d0 ≠ -1 ∧ -100 ≤ d0 ∧ d0 ≤ 1000) : zV (S := Int × Int) l yX5_pass wsX5_pass ({ frames := 0, cells := 0, slots := 0, locals := 0 } : Room) g ca [.ref hd, vI d0] [(hd, oB 5 [.ref hdt, .ref hdk, .ref hds, .ref hdv, vI n, vI he0, vI fa, vI sr, vI sl, vI st0]), (hdk, aI ca 201 tk)] (fun (u : Int × Int) => (u.1, sv u.2) = ps t n d0 (fa, sv he0) ∧ (he0 ≤ u.2 ∧ u.2 ≤ mm) ∧ (u.1 = 0 ∨ u.1 = 1)) (fun (u : Int × Int) => [(hd, oB 5 [.ref hdt, .ref hdk, .ref hds, .ref hdv, vI n, vI u.2, vI u.1, vI sr, vI sl, vI st0]), (hdk, aI ca 201 tk)]) 0 0 := by
  refine zm_V (cc := cX5_pass) (maxL := 2) (ret := none) (by decide) rfl (Nat.le_of_ble_eq_true rfl) ?_
  intro p e s m below meth c A ls R args Q hR hargs hQ hx hb hml hr hts hown hlk hnm hK hP hD hA hS hl
  have hown : s.vm.findClass RX5 = some m.cls := hown
  have hl : lv_has ls 2 [(0, .ref hd), (1, vI d0)] := hl
  have lk_f53 : (Cond.fieldLink RX5 53 "DripRings$Reader" "faulty" "Z").before args s = true := hts _ (by decide +kernel)
  have inF_X5 : ∀ w ∈ wsX50, w ∈ wsX5_pass := by decide +kernel
  have lk_f15 : (Cond.fieldLink RX5 15 "DripRings$Reader" "tokens" "[I").before args s = true := hts _ (by decide +kernel)
  have lk_f36 : (Cond.fieldLink RX5 36 "DripRings$Reader" "here" "I").before args s = true := hts _ (by decide +kernel)
  have hmm := hTK.1
  have hrng := TOK_rng hT hTK hhe.1 hhe.2
  have htk := (hTK.2.1 he0 hhe.1 hhe.2).2.2.1
  refine lv_aload_n hx hb dX5_pass_0 rfl (lv_at hl 0 rfl) ?_
  refine lv_aload_n hx hb dX5_pass_1 rfl (lv_at hl 0 rfl) ?_
  refine va_get (D := g) (ci := 5) (v := vI fa) (C := RX5) (T := TX5) (N := 10) hx hb hts inF_X5 hown hK.1 hP 0 rfl rfl 6 (by decide) lk_f53 (fun _ h9 => h9) rfl dX5_pass_2 ?_
  refine ri_if_ne (tgt := 21) hx hb dX5_pass_5 (by decide) ⟨by omega, by omega⟩ (fun c5 => ?_) (fun c5 => ?_)
  · skip
    refine lv_iconst (v := Int32.ofInt 1) hx hb dX5_pass_21 rfl ?_
    refine lv_goto (tgt := 26) hx hb dX5_pass_22 (by decide) ?_
    refine va_put (D := g) (ci := 5) (v := vI 1) (ty := .boolean) (C := RX5) (T := TX5) (N := 10) hx hb hts inF_X5 tyX5 tyX5_ok nmX5 hown hK.1 hP hD hS 0 rfl rfl 6 (by decide) lk_f53 (fun _ h9 => h9) rfl (by decide +kernel) (zb_nar (Or.inr rfl)) (zb_fit (Or.inr rfl)) (Nat.le_of_ble_eq_true rfl) dX5_pass_26 (fun H locs hP hD hS => ?_)
    have hP : va_P g vwCl [(hd, oB 5 [.ref hdt, .ref hdk, .ref hds, .ref hdv, vI n, vI he0, vI 1, vI sr, vI sl, vI st0]), (hdk, aI ca 201 tk)] H := hP
    have hD : va_D A [(hd, oB 5 [.ref hdt, .ref hdk, .ref hds, .ref hdv, vI n, vI he0, vI 1, vI sr, vI sl, vI st0]), (hdk, aI ca 201 tk)] := hD
    refine lv_aload_n hx hb dX5_pass_29 rfl (lv_at hl 0 rfl) ?_
    refine va_get (D := g) (ci := 5) (v := vI 1) (C := RX5) (T := TX5) (N := 10) hx hb hts inF_X5 hown hK.1 hP 0 rfl rfl 6 (by decide) lk_f53 (fun _ h9 => h9) rfl dX5_pass_30 ?_
    refine ri_if_ne (tgt := 56) hx hb dX5_pass_33 (by decide) ⟨by omega, by omega⟩ (fun c33_ => ?_) (fun c33_ => ?_)
    · skip
      refine zr_V hx hb hr hlk hQ (1, he0) hP hD hS dX5_pass_56 (Nat.le_of_ble_eq_true rfl) (Nat.le_of_ble_eq_true rfl) ?_
      show (1, sv he0) = ps t n d0 (fa, sv he0) ∧ (he0 ≤ he0 ∧ he0 ≤ mm) ∧ (1 = 0 ∨ 1 = 1)
      first
      | exact ⟨by rw [show fa = 1 by omega, ps_bad], by omega, by omega⟩
      | (have hq := TOK_tk hTK hhe.1 hhe.2 (by omega)
         exact ⟨by rw [show fa = 0 by omega, ps_ok (by rw [← htk]; omega), ← hq.2.2, e52], by omega, by omega⟩)
      | (have hq := TOK_tk hTK hhe.1 hhe.2 (by omega)
         exact ⟨by rw [show fa = 0 by omega, ps_ok (by rw [← htk]; omega)]; omega, by omega, by omega⟩)
      | exact ⟨by rw [show fa = 0 by omega, ps_no (by rw [← htk]; omega)], by omega, by omega⟩
    · exact absurd c33_ (by decide)
  · skip
    refine lv_aload_n hx hb dX5_pass_8 rfl (lv_at hl 0 rfl) ?_
    refine va_get (D := g) (ci := 5) (v := .ref hdk) (C := RX5) (T := TX5) (N := 10) hx hb hts inF_X5 hown hK.1 hP 0 rfl rfl 1 (by decide) lk_f15 (fun _ h9 => h9) rfl dX5_pass_9 ?_
    refine lv_aload_n hx hb dX5_pass_12 rfl (lv_at hl 0 rfl) ?_
    refine va_get (D := g) (ci := 5) (v := vI he0) (C := RX5) (T := TX5) (N := 10) hx hb hts inF_X5 hown hK.1 hP 0 rfl rfl 5 (by decide) lk_f36 (fun _ h9 => h9) rfl dX5_pass_13 ?_
    refine ra_ild hx hb hK hP 1 rfl dX5_pass_16 ⟨by omega, by omega⟩ (by omega) ?_
    refine lv_iload_n hx hb dX5_pass_17 rfl (lv_at hl 1 rfl) ?_
    refine ri_icmp_eq (tgt := 25) hx hb dX5_pass_18 (by decide) ⟨by omega, by omega⟩ ⟨by omega, by omega⟩ (fun c18 => ?_) (fun c18 => ?_)
    · skip
      refine lv_iconst (v := Int32.ofInt 0) hx hb dX5_pass_25 rfl ?_
      refine va_put (D := g) (ci := 5) (v := vI 0) (ty := .boolean) (C := RX5) (T := TX5) (N := 10) hx hb hts inF_X5 tyX5 tyX5_ok nmX5 hown hK.1 hP hD hS 0 rfl rfl 6 (by decide) lk_f53 (fun _ h9 => h9) rfl (by decide +kernel) (zb_nar (Or.inl rfl)) (zb_fit (Or.inl rfl)) (Nat.le_of_ble_eq_true rfl) dX5_pass_26 (fun H locs hP hD hS => ?_)
      have hP : va_P g vwCl [(hd, oB 5 [.ref hdt, .ref hdk, .ref hds, .ref hdv, vI n, vI he0, vI 0, vI sr, vI sl, vI st0]), (hdk, aI ca 201 tk)] H := hP
      have hD : va_D A [(hd, oB 5 [.ref hdt, .ref hdk, .ref hds, .ref hdv, vI n, vI he0, vI 0, vI sr, vI sl, vI st0]), (hdk, aI ca 201 tk)] := hD
      refine lv_aload_n hx hb dX5_pass_29 rfl (lv_at hl 0 rfl) ?_
      refine va_get (D := g) (ci := 5) (v := vI 0) (C := RX5) (T := TX5) (N := 10) hx hb hts inF_X5 hown hK.1 hP 0 rfl rfl 6 (by decide) lk_f53 (fun _ h9 => h9) rfl dX5_pass_30 ?_
      refine ri_if_ne (tgt := 56) hx hb dX5_pass_33 (by decide) ⟨by omega, by omega⟩ (fun c33_ => ?_) (fun c33_ => ?_)
      · exact absurd c33_ (by decide)
      · skip
        refine lv_aload_n hx hb dX5_pass_36 rfl (lv_at hl 0 rfl) ?_
        refine va_get (D := g) (ci := 5) (v := vI he0) (C := RX5) (T := TX5) (N := 10) hx hb hts inF_X5 hown hK.1 hP 0 rfl rfl 5 (by decide) lk_f36 (fun _ h9 => h9) rfl dX5_pass_37 ?_
        refine lv_sipush (v := Int32.ofInt 200) hx hb dX5_pass_40 (by decide) ?_
        refine ri_icmp_ge (tgt := 56) hx hb dX5_pass_43 (by decide) ⟨by omega, by omega⟩ ⟨by omega, by omega⟩ (fun c43 => ?_) (fun c43 => ?_)
        · skip
          refine zr_V hx hb hr hlk hQ (0, he0) hP hD hS dX5_pass_56 (Nat.le_of_ble_eq_true rfl) (Nat.le_of_ble_eq_true rfl) ?_
          show (0, sv he0) = ps t n d0 (fa, sv he0) ∧ (he0 ≤ he0 ∧ he0 ≤ mm) ∧ (0 = 0 ∨ 0 = 1)
          first
          | exact ⟨by rw [show fa = 1 by omega, ps_bad], by omega, by omega⟩
          | (have hq := TOK_tk hTK hhe.1 hhe.2 (by omega)
             exact ⟨by rw [show fa = 0 by omega, ps_ok (by rw [← htk]; omega), ← hq.2.2, e52], by omega, by omega⟩)
          | (have hq := TOK_tk hTK hhe.1 hhe.2 (by omega)
             exact ⟨by rw [show fa = 0 by omega, ps_ok (by rw [← htk]; omega)]; omega, by omega, by omega⟩)
          | exact ⟨by rw [show fa = 0 by omega, ps_no (by rw [← htk]; omega)], by omega, by omega⟩
        · skip
          refine lv_aload_n hx hb dX5_pass_46 rfl (lv_at hl 0 rfl) ?_
          refine lv_dup hx hb dX5_pass_47 rfl ?_
          refine va_get (D := g) (ci := 5) (v := vI he0) (C := RX5) (T := TX5) (N := 10) hx hb hts inF_X5 hown hK.1 hP 0 rfl rfl 5 (by decide) lk_f36 (fun _ h9 => h9) rfl dX5_pass_48 ?_
          refine lv_iconst (v := Int32.ofInt 1) hx hb dX5_pass_51 rfl ?_
          refine ri_add hx hb dX5_pass_52 (fun z52 e52 => ?_)
          refine va_put (D := g) (ci := 5) (v := vI z52) (ty := .int) (C := RX5) (T := TX5) (N := 10) hx hb hts inF_X5 tyX5 tyX5_ok nmX5 hown hK.1 hP hD hS 0 rfl rfl 5 (by decide) lk_f36 (fun _ h9 => h9) rfl (by decide +kernel) rfl rfl (Nat.le_of_ble_eq_true rfl) dX5_pass_53 (fun H locs hP hD hS => ?_)
          have hP : va_P g vwCl [(hd, oB 5 [.ref hdt, .ref hdk, .ref hds, .ref hdv, vI n, vI z52, vI 0, vI sr, vI sl, vI st0]), (hdk, aI ca 201 tk)] H := hP
          have hD : va_D A [(hd, oB 5 [.ref hdt, .ref hdk, .ref hds, .ref hdv, vI n, vI z52, vI 0, vI sr, vI sl, vI st0]), (hdk, aI ca 201 tk)] := hD
          refine zr_V hx hb hr hlk hQ (0, z52) hP hD hS dX5_pass_56 (Nat.le_of_ble_eq_true rfl) (Nat.le_of_ble_eq_true rfl) ?_
          show (0, sv z52) = ps t n d0 (fa, sv he0) ∧ (he0 ≤ z52 ∧ z52 ≤ mm) ∧ (0 = 0 ∨ 0 = 1)
          first
          | exact ⟨by rw [show fa = 1 by omega, ps_bad], by omega, by omega⟩
          | (have hq := TOK_tk hTK hhe.1 hhe.2 (by omega)
             exact ⟨by rw [show fa = 0 by omega, ps_ok (by rw [← htk]; omega), ← hq.2.2, e52], by omega, by omega⟩)
          | (have hq := TOK_tk hTK hhe.1 hhe.2 (by omega)
             exact ⟨by rw [show fa = 0 by omega, ps_ok (by rw [← htk]; omega)]; omega, by omega, by omega⟩)
          | exact ⟨by rw [show fa = 0 by omega, ps_no (by rw [← htk]; omega)], by omega, by omega⟩
    · skip
      refine lv_iconst (v := Int32.ofInt 1) hx hb dX5_pass_21 rfl ?_
      refine lv_goto (tgt := 26) hx hb dX5_pass_22 (by decide) ?_
      refine va_put (D := g) (ci := 5) (v := vI 1) (ty := .boolean) (C := RX5) (T := TX5) (N := 10) hx hb hts inF_X5 tyX5 tyX5_ok nmX5 hown hK.1 hP hD hS 0 rfl rfl 6 (by decide) lk_f53 (fun _ h9 => h9) rfl (by decide +kernel) (zb_nar (Or.inr rfl)) (zb_fit (Or.inr rfl)) (Nat.le_of_ble_eq_true rfl) dX5_pass_26 (fun H locs hP hD hS => ?_)
      have hP : va_P g vwCl [(hd, oB 5 [.ref hdt, .ref hdk, .ref hds, .ref hdv, vI n, vI he0, vI 1, vI sr, vI sl, vI st0]), (hdk, aI ca 201 tk)] H := hP
      have hD : va_D A [(hd, oB 5 [.ref hdt, .ref hdk, .ref hds, .ref hdv, vI n, vI he0, vI 1, vI sr, vI sl, vI st0]), (hdk, aI ca 201 tk)] := hD
      refine lv_aload_n hx hb dX5_pass_29 rfl (lv_at hl 0 rfl) ?_
      refine va_get (D := g) (ci := 5) (v := vI 1) (C := RX5) (T := TX5) (N := 10) hx hb hts inF_X5 hown hK.1 hP 0 rfl rfl 6 (by decide) lk_f53 (fun _ h9 => h9) rfl dX5_pass_30 ?_
      refine ri_if_ne (tgt := 56) hx hb dX5_pass_33 (by decide) ⟨by omega, by omega⟩ (fun c33_ => ?_) (fun c33_ => ?_)
      · skip
        refine zr_V hx hb hr hlk hQ (1, he0) hP hD hS dX5_pass_56 (Nat.le_of_ble_eq_true rfl) (Nat.le_of_ble_eq_true rfl) ?_
        show (1, sv he0) = ps t n d0 (fa, sv he0) ∧ (he0 ≤ he0 ∧ he0 ≤ mm) ∧ (1 = 0 ∨ 1 = 1)
        first
        | exact ⟨by rw [show fa = 1 by omega, ps_bad], by omega, by omega⟩
        | (have hq := TOK_tk hTK hhe.1 hhe.2 (by omega)
           exact ⟨by rw [show fa = 0 by omega, ps_ok (by rw [← htk]; omega), ← hq.2.2, e52], by omega, by omega⟩)
        | (have hq := TOK_tk hTK hhe.1 hhe.2 (by omega)
           exact ⟨by rw [show fa = 0 by omega, ps_ok (by rw [← htk]; omega)]; omega, by omega, by omega⟩)
        | exact ⟨by rw [show fa = 0 by omega, ps_no (by rw [← htk]; omega)], by omega, by omega⟩
      · exact absurd c33_ (by decide)
set_option maxHeartbeats 4000000 in
set_option maxRecDepth 100000 in
theorem k_X5_readNumber (l : Launch) (g : va_G) (ca : Nat → ClassId) (hd : Nat) (hdt : Nat) (hdk : Nat) (hds : Nat) (hdv : Nat) (n : Int) (he0 : Int) (fa : Int) (sr : Int) (sl : Int) (st0 : Int) (t : Int → Int) (tk : Int → Int) (sv : Int → Int) (va : Int → Int) (mm : Int) (lo : Int) (hi : Int) (hT : TXok t n) (hTK : TOK t n tk sv va mm) (hhe : 0 ≤ he0 ∧ he0 ≤ mm) (hfa : fa = 0 ∨ fa = 1) (hlo : 0 ≤ lo ∧ lo ≤ 1000 ∧ 0 ≤ hi ∧ hi ≤ 1000) : zI (S := Int × Int) l yX5_readNumber wsX5_readNumber ({ frames := 1, cells := 0, slots := 0, locals := 22 } : Room) g ca [.ref hd, vI lo, vI hi] [(hd, oB 5 [.ref hdt, .ref hdk, .ref hds, .ref hdv, vI n, vI he0, vI fa, vI sr, vI sl, vI st0]), (hdk, aI ca 201 tk), (hdv, aI ca 201 va)] (fun (z : Int) (u : Int × Int) => z = vl t n (sv he0) ∧ (u.1, sv u.2) = pn t n lo hi (fa, sv he0) ∧ (he0 ≤ u.2 ∧ u.2 ≤ mm) ∧ (u.1 = 0 ∨ u.1 = 1)) (fun (u : Int × Int) => [(hd, oB 5 [.ref hdt, .ref hdk, .ref hds, .ref hdv, vI n, vI u.2, vI u.1, vI sr, vI sl, vI st0]), (hdk, aI ca 201 tk), (hdv, aI ca 201 va)]) 0 0 := by
  refine zm_I (cc := cX5_readNumber) (maxL := 4) (ret := some .int) (by decide) rfl (Nat.le_of_ble_eq_true rfl) ?_
  intro p e s m below meth c A ls R args Q hR hargs hQ hx hb hml hr hts hown hlk hnm hK hP hD hA hS hl
  have hown : s.vm.findClass RX5 = some m.cls := hown
  have hl : lv_has ls 4 [(0, .ref hd), (1, vI lo), (2, vI hi)] := hl
  have lk_f21 : (Cond.fieldLink RX5 21 "DripRings$Reader" "values" "[I").before args s = true := hts _ (by decide +kernel)
  have inF_X5 : ∀ w ∈ wsX50, w ∈ wsX5_readNumber := by decide +kernel
  have lk_f36 : (Cond.fieldLink RX5 36 "DripRings$Reader" "here" "I").before args s = true := hts _ (by decide +kernel)
  have lk_f53 : (Cond.fieldLink RX5 53 "DripRings$Reader" "faulty" "Z").before args s = true := hts _ (by decide +kernel)
  have lk_zX7 : (Cond.initialized RX7).before args s = true := hts _ (by decide +kernel)
  have lk_stX7_isOutside : (Cond.static yX7_isOutside).before args s = true := hts _ (by decide +kernel)
  have hmm := hTK.1
  have hrng := TOK_rng hT hTK hhe.1 hhe.2
  have hva := (hTK.2.1 he0 hhe.1 hhe.2).2.2.2
  refine lv_aload_n hx hb dX5_readNumber_0 rfl (lv_at hl 0 rfl) ?_
  refine va_get (D := g) (ci := 5) (v := .ref hdv) (C := RX5) (T := TX5) (N := 10) hx hb hts inF_X5 hown hK.1 hP 0 rfl rfl 3 (by decide) lk_f21 (fun _ h9 => h9) rfl dX5_readNumber_1 ?_
  refine lv_aload_n hx hb dX5_readNumber_4 rfl (lv_at hl 0 rfl) ?_
  refine va_get (D := g) (ci := 5) (v := vI he0) (C := RX5) (T := TX5) (N := 10) hx hb hts inF_X5 hown hK.1 hP 0 rfl rfl 5 (by decide) lk_f36 (fun _ h9 => h9) rfl dX5_readNumber_5 ?_
  refine ra_ild hx hb hK hP 2 rfl dX5_readNumber_8 ⟨by omega, by omega⟩ (by omega) ?_
  refine lv_istore_n (lv' := [(3, vI (va he0)), (0, .ref hd), (1, vI lo), (2, vI hi)]) hx hb dX5_readNumber_9 rfl hl (by decide) rfl (fun ls hl => ?_)
  refine lv_aload_n hx hb dX5_readNumber_10 rfl (lv_at hl 1 rfl) ?_
  refine lv_aload_n hx hb dX5_readNumber_11 rfl (lv_at hl 1 rfl) ?_
  refine va_get (D := g) (ci := 5) (v := vI fa) (C := RX5) (T := TX5) (N := 10) hx hb hts inF_X5 hown hK.1 hP 0 rfl rfl 6 (by decide) lk_f53 (fun _ h9 => h9) rfl dX5_readNumber_12 ?_
  refine ri_if_ne (tgt := 27) hx hb dX5_readNumber_15 (by decide) ⟨by omega, by omega⟩ (fun c15 => ?_) (fun c15 => ?_)
  · skip
    refine lv_iconst (v := Int32.ofInt 1) hx hb dX5_readNumber_27 rfl ?_
    refine lv_goto (tgt := 32) hx hb dX5_readNumber_28 (by decide) ?_
    refine va_put (D := g) (ci := 5) (v := vI 1) (ty := .boolean) (C := RX5) (T := TX5) (N := 10) hx hb hts inF_X5 tyX5 tyX5_ok nmX5 hown hK.1 hP hD hS 0 rfl rfl 6 (by decide) lk_f53 (fun _ h9 => h9) rfl (by decide +kernel) (zb_nar (Or.inr rfl)) (zb_fit (Or.inr rfl)) (Nat.le_of_ble_eq_true rfl) dX5_readNumber_32 (fun H locs hP hD hS => ?_)
    have hP : va_P g vwCl [(hd, oB 5 [.ref hdt, .ref hdk, .ref hds, .ref hdv, vI n, vI he0, vI 1, vI sr, vI sl, vI st0]), (hdk, aI ca 201 tk), (hdv, aI ca 201 va)] H := hP
    have hD : va_D A [(hd, oB 5 [.ref hdt, .ref hdk, .ref hds, .ref hdv, vI n, vI he0, vI 1, vI sr, vI sl, vI st0]), (hdk, aI ca 201 tk), (hdv, aI ca 201 va)] := hD
    refine lv_aload_n hx hb dX5_readNumber_35 rfl (lv_at hl 1 rfl) ?_
    refine lv_bipush (v := Int32.ofInt (-2)) hx hb dX5_readNumber_36 (by decide) ?_
    refine zc_VV (As := [vI (-2)]) (rest := []) (wc := [(hd, oB 5 [.ref hdt, .ref hdk, .ref hds, .ref hdv, vI n, vI he0, vI 1, vI sr, vI sl, vI st0]), (hdk, aI ca 201 tk)]) (wr := [(hdv, aI ca 201 va)]) (k_X5_pass l g ca hd hdt hdk hds hdv n he0 1 sr sl st0 t tk sv va mm (-2) (by first | assumption | omega) (by first | assumption | omega) (by first | assumption | omega) (by first | assumption | omega) (by first | assumption | omega)) dX5_readNumber_38 (cwV 1 hts gX5_readNumber_X5_pass rfl rfl rfl (by decide +kernel) (by rw [hR]; exact ⟨Nat.le_of_ble_eq_true rfl, Nat.le_of_ble_eq_true rfl⟩)) ⟨hx, hb, hml, hown, hts⟩ hl.1 hK hP hD hS hA 0 rfl rfl rfl [0, 1] [2] rfl (by decide) rfl (by decide) (by decide) rfl rfl (Nat.le_of_ble_eq_true rfl) (by rw [hR]; exact ⟨Nat.le_of_ble_eq_true rfl, Nat.le_of_ble_eq_true rfl⟩) (fun u H locs q38 hP hD hS => ?_)
    obtain ⟨fa1_38, he1_38⟩ := u
    have q38 : (fa1_38, sv he1_38) = ps t n (-2) (1, sv he0) ∧ (he0 ≤ he1_38 ∧ he1_38 ≤ mm) ∧ (fa1_38 = 0 ∨ fa1_38 = 1) := q38
    obtain ⟨q38_0, q38_1, q38_2⟩ := q38
    have hP : va_P g vwCl [(hd, oB 5 [.ref hdt, .ref hdk, .ref hds, .ref hdv, vI n, vI he1_38, vI fa1_38, vI sr, vI sl, vI st0]), (hdk, aI ca 201 tk), (hdv, aI ca 201 va)] H := hP.sub [1, 2, 0] rfl
    have hD : va_D A [(hd, oB 5 [.ref hdt, .ref hdk, .ref hds, .ref hdv, vI n, vI he1_38, vI fa1_38, vI sr, vI sl, vI st0]), (hdk, aI ca 201 tk), (hdv, aI ca 201 va)] := hD.sub [1, 2, 0] (by decide) rfl
    refine lv_iload_n hx hb dX5_readNumber_41 rfl (lv_at hl 0 rfl) ?_
    refine zr_I hx hb hr hlk hQ (fa1_38, he1_38) hP hD hS dX5_readNumber_42 (Nat.le_of_ble_eq_true rfl) (Nat.le_of_ble_eq_true rfl) ?_
    show (va he0) = vl t n (sv he0) ∧ (fa1_38, sv he1_38) = pn t n lo hi (fa, sv he0) ∧ (he0 ≤ he1_38 ∧ he1_38 ≤ mm) ∧ (fa1_38 = 0 ∨ fa1_38 = 1)
    refine ⟨hva, ?_, q38_1, q38_2⟩
    rw [q38_0]
    first
    | (rw [show fa = 1 by omega, pn_bad]; exact ps_bad)
    | (rw [pn_no (fun q => by omega), ps_bad])
    | (rw [show fa = 0 by omega]
       unfold ps pn numOK
       have h9 : lo ≤ vl t n (sv he0) ∧ vl t n (sv he0) ≤ hi := by omega
       by_cases q9 : kd t n (sv he0) = -2
       · rw [if_pos ⟨rfl, q9⟩, if_pos ⟨rfl, q9, h9⟩]
       · rw [if_neg (fun q => q9 q.2), if_neg (fun q => q9 q.2.1)])
    | (rw [show fa = 0 by omega, pn_no (fun q => by omega)]; exact ps_bad)
  · skip
    refine lv_iload_n hx hb dX5_readNumber_18 rfl (lv_at hl 0 rfl) ?_
    refine lv_iload_n hx hb dX5_readNumber_19 rfl (lv_at hl 2 rfl) ?_
    refine lv_iload_n hx hb dX5_readNumber_20 rfl (lv_at hl 3 rfl) ?_
    refine zc_NSI (As := [vI (va he0), vI lo, vI hi]) (rest := [.ref hd]) (wc := []) (wr := [(hd, oB 5 [.ref hdt, .ref hdk, .ref hds, .ref hdv, vI n, vI he0, vI fa, vI sr, vI sl, vI st0]), (hdk, aI ca 201 tk), (hdv, aI ca 201 va)]) (k_X7_isOutside l g ca (va he0) lo hi (by first | assumption | omega) (by first | assumption | omega) (by first | assumption | omega)) dX5_readNumber_21 ⟨va_cnB 3 hts gX5_readNumber_X7_isOutside_n104 rfl rfl rfl hK.2.2.2.2.2.1 lk_zX7 (by decide +kernel) (by rw [hR]; exact ⟨Nat.le_of_ble_eq_true rfl, Nat.le_of_ble_eq_true rfl⟩), lk_stX7_isOutside, trivial⟩ ⟨hx, hb, hml, hown, hts⟩ hl.1 hK hP hD hS hA [] [0, 1, 2] rfl (by decide) rfl (by decide) (by decide) rfl rfl (Nat.le_of_ble_eq_true rfl) (by rw [hR]; exact ⟨Nat.le_of_ble_eq_true rfl, Nat.le_of_ble_eq_true rfl⟩) (fun z21 u H locs q21 hP hD hS => ?_)
    have q21 : (z21 = 1 ∧ ¬ (lo ≤ (va he0) ∧ (va he0) ≤ hi)) ∨ (z21 = 0 ∧ lo ≤ (va he0) ∧ (va he0) ≤ hi) := q21
    have hP : va_P g vwCl [(hd, oB 5 [.ref hdt, .ref hdk, .ref hds, .ref hdv, vI n, vI he0, vI fa, vI sr, vI sl, vI st0]), (hdk, aI ca 201 tk), (hdv, aI ca 201 va)] H := hP.sub [0, 1, 2] rfl
    have hD : va_D A [(hd, oB 5 [.ref hdt, .ref hdk, .ref hds, .ref hdv, vI n, vI he0, vI fa, vI sr, vI sl, vI st0]), (hdk, aI ca 201 tk), (hdv, aI ca 201 va)] := hD.sub [0, 1, 2] (by decide) rfl
    refine ri_if_eq (tgt := 31) hx hb dX5_readNumber_24 (by decide) ⟨by omega, by omega⟩ (fun c24 => ?_) (fun c24 => ?_)
    · skip
      refine lv_iconst (v := Int32.ofInt 0) hx hb dX5_readNumber_31 rfl ?_
      refine va_put (D := g) (ci := 5) (v := vI 0) (ty := .boolean) (C := RX5) (T := TX5) (N := 10) hx hb hts inF_X5 tyX5 tyX5_ok nmX5 hown hK.1 hP hD hS 0 rfl rfl 6 (by decide) lk_f53 (fun _ h9 => h9) rfl (by decide +kernel) (zb_nar (Or.inl rfl)) (zb_fit (Or.inl rfl)) (Nat.le_of_ble_eq_true rfl) dX5_readNumber_32 (fun H locs hP hD hS => ?_)
      have hP : va_P g vwCl [(hd, oB 5 [.ref hdt, .ref hdk, .ref hds, .ref hdv, vI n, vI he0, vI 0, vI sr, vI sl, vI st0]), (hdk, aI ca 201 tk), (hdv, aI ca 201 va)] H := hP
      have hD : va_D A [(hd, oB 5 [.ref hdt, .ref hdk, .ref hds, .ref hdv, vI n, vI he0, vI 0, vI sr, vI sl, vI st0]), (hdk, aI ca 201 tk), (hdv, aI ca 201 va)] := hD
      refine lv_aload_n hx hb dX5_readNumber_35 rfl (lv_at hl 1 rfl) ?_
      refine lv_bipush (v := Int32.ofInt (-2)) hx hb dX5_readNumber_36 (by decide) ?_
      refine zc_VV (As := [vI (-2)]) (rest := []) (wc := [(hd, oB 5 [.ref hdt, .ref hdk, .ref hds, .ref hdv, vI n, vI he0, vI 0, vI sr, vI sl, vI st0]), (hdk, aI ca 201 tk)]) (wr := [(hdv, aI ca 201 va)]) (k_X5_pass l g ca hd hdt hdk hds hdv n he0 0 sr sl st0 t tk sv va mm (-2) (by first | assumption | omega) (by first | assumption | omega) (by first | assumption | omega) (by first | assumption | omega) (by first | assumption | omega)) dX5_readNumber_38 (cwV 1 hts gX5_readNumber_X5_pass rfl rfl rfl (by decide +kernel) (by rw [hR]; exact ⟨Nat.le_of_ble_eq_true rfl, Nat.le_of_ble_eq_true rfl⟩)) ⟨hx, hb, hml, hown, hts⟩ hl.1 hK hP hD hS hA 0 rfl rfl rfl [0, 1] [2] rfl (by decide) rfl (by decide) (by decide) rfl rfl (Nat.le_of_ble_eq_true rfl) (by rw [hR]; exact ⟨Nat.le_of_ble_eq_true rfl, Nat.le_of_ble_eq_true rfl⟩) (fun u H locs q38 hP hD hS => ?_)
      obtain ⟨fa1_38, he1_38⟩ := u
      have q38 : (fa1_38, sv he1_38) = ps t n (-2) (0, sv he0) ∧ (he0 ≤ he1_38 ∧ he1_38 ≤ mm) ∧ (fa1_38 = 0 ∨ fa1_38 = 1) := q38
      obtain ⟨q38_0, q38_1, q38_2⟩ := q38
      have hP : va_P g vwCl [(hd, oB 5 [.ref hdt, .ref hdk, .ref hds, .ref hdv, vI n, vI he1_38, vI fa1_38, vI sr, vI sl, vI st0]), (hdk, aI ca 201 tk), (hdv, aI ca 201 va)] H := hP.sub [1, 2, 0] rfl
      have hD : va_D A [(hd, oB 5 [.ref hdt, .ref hdk, .ref hds, .ref hdv, vI n, vI he1_38, vI fa1_38, vI sr, vI sl, vI st0]), (hdk, aI ca 201 tk), (hdv, aI ca 201 va)] := hD.sub [1, 2, 0] (by decide) rfl
      refine lv_iload_n hx hb dX5_readNumber_41 rfl (lv_at hl 0 rfl) ?_
      refine zr_I hx hb hr hlk hQ (fa1_38, he1_38) hP hD hS dX5_readNumber_42 (Nat.le_of_ble_eq_true rfl) (Nat.le_of_ble_eq_true rfl) ?_
      show (va he0) = vl t n (sv he0) ∧ (fa1_38, sv he1_38) = pn t n lo hi (fa, sv he0) ∧ (he0 ≤ he1_38 ∧ he1_38 ≤ mm) ∧ (fa1_38 = 0 ∨ fa1_38 = 1)
      refine ⟨hva, ?_, q38_1, q38_2⟩
      rw [q38_0]
      first
      | (rw [show fa = 1 by omega, pn_bad]; exact ps_bad)
      | (rw [pn_no (fun q => by omega), ps_bad])
      | (rw [show fa = 0 by omega]
         unfold ps pn numOK
         have h9 : lo ≤ vl t n (sv he0) ∧ vl t n (sv he0) ≤ hi := by omega
         by_cases q9 : kd t n (sv he0) = -2
         · rw [if_pos ⟨rfl, q9⟩, if_pos ⟨rfl, q9, h9⟩]
         · rw [if_neg (fun q => q9 q.2), if_neg (fun q => q9 q.2.1)])
      | (rw [show fa = 0 by omega, pn_no (fun q => by omega)]; exact ps_bad)
    · skip
      refine lv_iconst (v := Int32.ofInt 1) hx hb dX5_readNumber_27 rfl ?_
      refine lv_goto (tgt := 32) hx hb dX5_readNumber_28 (by decide) ?_
      refine va_put (D := g) (ci := 5) (v := vI 1) (ty := .boolean) (C := RX5) (T := TX5) (N := 10) hx hb hts inF_X5 tyX5 tyX5_ok nmX5 hown hK.1 hP hD hS 0 rfl rfl 6 (by decide) lk_f53 (fun _ h9 => h9) rfl (by decide +kernel) (zb_nar (Or.inr rfl)) (zb_fit (Or.inr rfl)) (Nat.le_of_ble_eq_true rfl) dX5_readNumber_32 (fun H locs hP hD hS => ?_)
      have hP : va_P g vwCl [(hd, oB 5 [.ref hdt, .ref hdk, .ref hds, .ref hdv, vI n, vI he0, vI 1, vI sr, vI sl, vI st0]), (hdk, aI ca 201 tk), (hdv, aI ca 201 va)] H := hP
      have hD : va_D A [(hd, oB 5 [.ref hdt, .ref hdk, .ref hds, .ref hdv, vI n, vI he0, vI 1, vI sr, vI sl, vI st0]), (hdk, aI ca 201 tk), (hdv, aI ca 201 va)] := hD
      refine lv_aload_n hx hb dX5_readNumber_35 rfl (lv_at hl 1 rfl) ?_
      refine lv_bipush (v := Int32.ofInt (-2)) hx hb dX5_readNumber_36 (by decide) ?_
      refine zc_VV (As := [vI (-2)]) (rest := []) (wc := [(hd, oB 5 [.ref hdt, .ref hdk, .ref hds, .ref hdv, vI n, vI he0, vI 1, vI sr, vI sl, vI st0]), (hdk, aI ca 201 tk)]) (wr := [(hdv, aI ca 201 va)]) (k_X5_pass l g ca hd hdt hdk hds hdv n he0 1 sr sl st0 t tk sv va mm (-2) (by first | assumption | omega) (by first | assumption | omega) (by first | assumption | omega) (by first | assumption | omega) (by first | assumption | omega)) dX5_readNumber_38 (cwV 1 hts gX5_readNumber_X5_pass rfl rfl rfl (by decide +kernel) (by rw [hR]; exact ⟨Nat.le_of_ble_eq_true rfl, Nat.le_of_ble_eq_true rfl⟩)) ⟨hx, hb, hml, hown, hts⟩ hl.1 hK hP hD hS hA 0 rfl rfl rfl [0, 1] [2] rfl (by decide) rfl (by decide) (by decide) rfl rfl (Nat.le_of_ble_eq_true rfl) (by rw [hR]; exact ⟨Nat.le_of_ble_eq_true rfl, Nat.le_of_ble_eq_true rfl⟩) (fun u H locs q38 hP hD hS => ?_)
      obtain ⟨fa1_38, he1_38⟩ := u
      have q38 : (fa1_38, sv he1_38) = ps t n (-2) (1, sv he0) ∧ (he0 ≤ he1_38 ∧ he1_38 ≤ mm) ∧ (fa1_38 = 0 ∨ fa1_38 = 1) := q38
      obtain ⟨q38_0, q38_1, q38_2⟩ := q38
      have hP : va_P g vwCl [(hd, oB 5 [.ref hdt, .ref hdk, .ref hds, .ref hdv, vI n, vI he1_38, vI fa1_38, vI sr, vI sl, vI st0]), (hdk, aI ca 201 tk), (hdv, aI ca 201 va)] H := hP.sub [1, 2, 0] rfl
      have hD : va_D A [(hd, oB 5 [.ref hdt, .ref hdk, .ref hds, .ref hdv, vI n, vI he1_38, vI fa1_38, vI sr, vI sl, vI st0]), (hdk, aI ca 201 tk), (hdv, aI ca 201 va)] := hD.sub [1, 2, 0] (by decide) rfl
      refine lv_iload_n hx hb dX5_readNumber_41 rfl (lv_at hl 0 rfl) ?_
      refine zr_I hx hb hr hlk hQ (fa1_38, he1_38) hP hD hS dX5_readNumber_42 (Nat.le_of_ble_eq_true rfl) (Nat.le_of_ble_eq_true rfl) ?_
      show (va he0) = vl t n (sv he0) ∧ (fa1_38, sv he1_38) = pn t n lo hi (fa, sv he0) ∧ (he0 ≤ he1_38 ∧ he1_38 ≤ mm) ∧ (fa1_38 = 0 ∨ fa1_38 = 1)
      refine ⟨hva, ?_, q38_1, q38_2⟩
      rw [q38_0]
      first
      | (rw [show fa = 1 by omega, pn_bad]; exact ps_bad)
      | (rw [pn_no (fun q => by omega), ps_bad])
      | (rw [show fa = 0 by omega]
         unfold ps pn numOK
         have h9 : lo ≤ vl t n (sv he0) ∧ vl t n (sv he0) ≤ hi := by omega
         by_cases q9 : kd t n (sv he0) = -2
         · rw [if_pos ⟨rfl, q9⟩, if_pos ⟨rfl, q9, h9⟩]
         · rw [if_neg (fun q => q9 q.2), if_neg (fun q => q9 q.2.1)])
      | (rw [show fa = 0 by omega, pn_no (fun q => by omega)]; exact ps_bad)
