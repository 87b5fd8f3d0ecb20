set_option maxHeartbeats 4000000 in
set_option maxRecDepth 100000 in
theorem k_X7_isOutside (l : Launch) (g : va_G) (ca : Nat → ClassId) (x : Int) (lo : Int) (hi : Int) (h1 : in32 x) (h2 : in32 lo) (h3 : in32 hi) : zI (S := Unit) l yX7_isOutside wsX7_isOutside ({ frames := 0, cells := 0, slots := 0, locals := 0 } : Room) g ca [vI x, vI lo, vI hi] [] (fun (z : Int) (u : Unit) => (z = 1 ∧ ¬ (lo ≤ x ∧ x ≤ hi)) ∨ (z = 0 ∧ lo ≤ x ∧ x ≤ hi)) (fun (u : Unit) => []) 0 0 := by
  refine zm_I (cc := cX7_isOutside) (maxL := 3) (ret := some .boolean) (by decide) rfl (Nat.le_of_ble_eq_true rfl) ?_
  intro p e s m below meth c A ls R args Q hR hargs hQ hx hb hml hr hts hown hlk hnm hK hP hD hA hS hl
  have hown : s.vm.findClass RX7 = some m.cls := hown
  have hl : lv_has ls 3 [(0, vI x), (1, vI lo), (2, vI hi)] := hl
  refine lv_iload_n hx hb dX7_isOutside_0 rfl (lv_at hl 0 rfl) ?_
  refine lv_iload_n hx hb dX7_isOutside_1 rfl (lv_at hl 1 rfl) ?_
  refine ri_icmp_lt (tgt := 10) hx hb dX7_isOutside_2 (by decide) h1 h2 (fun c2 => ?_) (fun c2 => ?_)
  · skip
    refine lv_iconst (v := Int32.ofInt 1) hx hb dX7_isOutside_10 rfl ?_
    refine lv_goto (tgt := 15) hx hb dX7_isOutside_11 (by decide) ?_
    refine zr_Z hx hb hr hlk hQ () hP hD hS dX7_isOutside_15 (Nat.le_of_ble_eq_true rfl) (Nat.le_of_ble_eq_true rfl) (Or.inr rfl) ?_
    show (1 = 1 ∧ ¬ (lo ≤ x ∧ x ≤ hi)) ∨ (1 = 0 ∧ lo ≤ x ∧ x ≤ hi)
    omega
  · skip
    refine lv_iload_n hx hb dX7_isOutside_5 rfl (lv_at hl 0 rfl) ?_
    refine lv_iload_n hx hb dX7_isOutside_6 rfl (lv_at hl 2 rfl) ?_
    refine ri_icmp_le (tgt := 14) hx hb dX7_isOutside_7 (by decide) h1 h3 (fun c7 => ?_) (fun c7 => ?_)
    · skip
      refine lv_iconst (v := Int32.ofInt 0) hx hb dX7_isOutside_14 rfl ?_
      refine zr_Z hx hb hr hlk hQ () hP hD hS dX7_isOutside_15 (Nat.le_of_ble_eq_true rfl) (Nat.le_of_ble_eq_true rfl) (Or.inl rfl) ?_
      show (0 = 1 ∧ ¬ (lo ≤ x ∧ x ≤ hi)) ∨ (0 = 0 ∧ lo ≤ x ∧ x ≤ hi)
      omega
    · skip
      refine lv_iconst (v := Int32.ofInt 1) hx hb dX7_isOutside_10 rfl ?_
      refine lv_goto (tgt := 15) hx hb dX7_isOutside_11 (by decide) ?_
      refine zr_Z hx hb hr hlk hQ () hP hD hS dX7_isOutside_15 (Nat.le_of_ble_eq_true rfl) (Nat.le_of_ble_eq_true rfl) (Or.inr rfl) ?_
      show (1 = 1 ∧ ¬ (lo ≤ x ∧ x ≤ hi)) ∨ (1 = 0 ∧ lo ≤ x ∧ x ≤ hi)
      omega
set_option maxHeartbeats 4000000 in
set_option maxRecDepth 100000 in
theorem k_X5_isDigit (l : Launch) (g : va_G) (ca : Nat → ClassId) (x : Int) (h1 : 0 ≤ x ∧ x ≤ 255) : zI (S := Unit) l yX5_isDigit wsX5_isDigit ({ frames := 0, cells := 0, slots := 0, locals := 0 } : Room) g ca [vI x] [] (fun (z : Int) (u : Unit) => (z = 1 ∧ 48 ≤ x ∧ x ≤ 57) ∨ (z = 0 ∧ ¬ (48 ≤ x ∧ x ≤ 57))) (fun (u : Unit) => []) 0 0 := by
  refine zm_I (cc := cX5_isDigit) (maxL := 1) (ret := some .boolean) (by decide) rfl (Nat.le_of_ble_eq_true rfl) ?_
  intro p e s m below meth c A ls R args Q hR hargs hQ hx hb hml hr hts hown hlk hnm hK hP hD hA hS hl
  have hown : s.vm.findClass RX5 = some m.cls := hown
  have hl : lv_has ls 1 [(0, vI x)] := hl
  refine lv_iload_n hx hb dX5_isDigit_0 rfl (lv_at hl 0 rfl) ?_
  refine lv_bipush (v := Int32.ofInt 48) hx hb dX5_isDigit_1 (by decide) ?_
  refine ri_icmp_lt (tgt := 16) hx hb dX5_isDigit_3 (by decide) ⟨by omega, by omega⟩ ⟨by omega, by omega⟩ (fun c3 => ?_) (fun c3 => ?_)
  · skip
    refine lv_iconst (v := Int32.ofInt 0) hx hb dX5_isDigit_16 rfl ?_
    refine zr_Z hx hb hr hlk hQ () hP hD hS dX5_isDigit_17 (Nat.le_of_ble_eq_true rfl) (Nat.le_of_ble_eq_true rfl) (Or.inl rfl) ?_
    show (0 = 1 ∧ 48 ≤ x ∧ x ≤ 57) ∨ (0 = 0 ∧ ¬ (48 ≤ x ∧ x ≤ 57))
    omega
  · skip
    refine lv_iload_n hx hb dX5_isDigit_6 rfl (lv_at hl 0 rfl) ?_
    refine lv_bipush (v := Int32.ofInt 57) hx hb dX5_isDigit_7 (by decide) ?_
    refine ri_icmp_gt (tgt := 16) hx hb dX5_isDigit_9 (by decide) ⟨by omega, by omega⟩ ⟨by omega, by omega⟩ (fun c9 => ?_) (fun c9 => ?_)
    · skip
      refine lv_iconst (v := Int32.ofInt 0) hx hb dX5_isDigit_16 rfl ?_
      refine zr_Z hx hb hr hlk hQ () hP hD hS dX5_isDigit_17 (Nat.le_of_ble_eq_true rfl) (Nat.le_of_ble_eq_true rfl) (Or.inl rfl) ?_
      show (0 = 1 ∧ 48 ≤ x ∧ x ≤ 57) ∨ (0 = 0 ∧ ¬ (48 ≤ x ∧ x ≤ 57))
      omega
    · skip
      refine lv_iconst (v := Int32.ofInt 1) hx hb dX5_isDigit_12 rfl ?_
      refine lv_goto (tgt := 17) hx hb dX5_isDigit_13 (by decide) ?_
      refine zr_Z hx hb hr hlk hQ () hP hD hS dX5_isDigit_17 (Nat.le_of_ble_eq_true rfl) (Nat.le_of_ble_eq_true rfl) (Or.inr rfl) ?_
      show (1 = 1 ∧ 48 ≤ x ∧ x ≤ 57) ∨ (1 = 0 ∧ ¬ (48 ≤ x ∧ x ≤ 57))
      omega
set_option maxHeartbeats 4000000 in
set_option maxRecDepth 100000 in
theorem k_X5_isSign (l : Launch) (g : va_G) (ca : Nat → ClassId) (x : Int) (h1 : 0 ≤ x ∧ x ≤ 255) : zI (S := Unit) l yX5_isSign wsX5_isSign ({ frames := 0, cells := 0, slots := 0, locals := 0 } : Room) g ca [vI x] [] (fun (z : Int) (u : Unit) => (z = 1 ∧ (x = 114 ∨ x = 108 ∨ x = 116 ∨ x = 112 ∨ x = 59)) ∨ (z = 0 ∧ ¬ (x = 114 ∨ x = 108 ∨ x = 116 ∨ x = 112 ∨ x = 59))) (fun (u : Unit) => []) 0 0 := by
  refine zm_I (cc := cX5_isSign) (maxL := 1) (ret := some .boolean) (by decide) rfl (Nat.le_of_ble_eq_true rfl) ?_
  intro p e s m below meth c A ls R args Q hR hargs hQ hx hb hml hr hts hown hlk hnm hK hP hD hA hS hl
  have hown : s.vm.findClass RX5 = some m.cls := hown
  have hl : lv_has ls 1 [(0, vI x)] := hl
  refine lv_iload_n hx hb dX5_isSign_0 rfl (lv_at hl 0 rfl) ?_
  refine lv_bipush (v := Int32.ofInt 114) hx hb dX5_isSign_1 (by decide) ?_
  refine ri_icmp_eq (tgt := 30) hx hb dX5_isSign_3 (by decide) ⟨by omega, by omega⟩ ⟨by omega, by omega⟩ (fun c3 => ?_) (fun c3 => ?_)
  · skip
    refine lv_iconst (v := Int32.ofInt 1) hx hb dX5_isSign_30 rfl ?_
    refine lv_goto (tgt := 35) hx hb dX5_isSign_31 (by decide) ?_
    refine zr_Z hx hb hr hlk hQ () hP hD hS dX5_isSign_35 (Nat.le_of_ble_eq_true rfl) (Nat.le_of_ble_eq_true rfl) (Or.inr rfl) ?_
    show (1 = 1 ∧ (x = 114 ∨ x = 108 ∨ x = 116 ∨ x = 112 ∨ x = 59)) ∨ (1 = 0 ∧ ¬ (x = 114 ∨ x = 108 ∨ x = 116 ∨ x = 112 ∨ x = 59))
    omega
  · skip
    refine lv_iload_n hx hb dX5_isSign_6 rfl (lv_at hl 0 rfl) ?_
    refine lv_bipush (v := Int32.ofInt 108) hx hb dX5_isSign_7 (by decide) ?_
    refine ri_icmp_eq (tgt := 30) hx hb dX5_isSign_9 (by decide) ⟨by omega, by omega⟩ ⟨by omega, by omega⟩ (fun c9 => ?_) (fun c9 => ?_)
    · skip
      refine lv_iconst (v := Int32.ofInt 1) hx hb dX5_isSign_30 rfl ?_
      refine lv_goto (tgt := 35) hx hb dX5_isSign_31 (by decide) ?_
      refine zr_Z hx hb hr hlk hQ () hP hD hS dX5_isSign_35 (Nat.le_of_ble_eq_true rfl) (Nat.le_of_ble_eq_true rfl) (Or.inr rfl) ?_
      show (1 = 1 ∧ (x = 114 ∨ x = 108 ∨ x = 116 ∨ x = 112 ∨ x = 59)) ∨ (1 = 0 ∧ ¬ (x = 114 ∨ x = 108 ∨ x = 116 ∨ x = 112 ∨ x = 59))
      omega
    · skip
      refine lv_iload_n hx hb dX5_isSign_12 rfl (lv_at hl 0 rfl) ?_
      refine lv_bipush (v := Int32.ofInt 116) hx hb dX5_isSign_13 (by decide) ?_
      refine ri_icmp_eq (tgt := 30) hx hb dX5_isSign_15 (by decide) ⟨by omega, by omega⟩ ⟨by omega, by omega⟩ (fun c15 => ?_) (fun c15 => ?_)
      · skip
        refine lv_iconst (v := Int32.ofInt 1) hx hb dX5_isSign_30 rfl ?_
        refine lv_goto (tgt := 35) hx hb dX5_isSign_31 (by decide) ?_
        refine zr_Z hx hb hr hlk hQ () hP hD hS dX5_isSign_35 (Nat.le_of_ble_eq_true rfl) (Nat.le_of_ble_eq_true rfl) (Or.inr rfl) ?_
        show (1 = 1 ∧ (x = 114 ∨ x = 108 ∨ x = 116 ∨ x = 112 ∨ x = 59)) ∨ (1 = 0 ∧ ¬ (x = 114 ∨ x = 108 ∨ x = 116 ∨ x = 112 ∨ x = 59))
        omega
      · skip
        refine lv_iload_n hx hb dX5_isSign_18 rfl (lv_at hl 0 rfl) ?_
        refine lv_bipush (v := Int32.ofInt 112) hx hb dX5_isSign_19 (by decide) ?_
        refine ri_icmp_eq (tgt := 30) hx hb dX5_isSign_21 (by decide) ⟨by omega, by omega⟩ ⟨by omega, by omega⟩ (fun c21 => ?_) (fun c21 => ?_)
        · skip
          refine lv_iconst (v := Int32.ofInt 1) hx hb dX5_isSign_30 rfl ?_
          refine lv_goto (tgt := 35) hx hb dX5_isSign_31 (by decide) ?_
          refine zr_Z hx hb hr hlk hQ () hP hD hS dX5_isSign_35 (Nat.le_of_ble_eq_true rfl) (Nat.le_of_ble_eq_true rfl) (Or.inr rfl) ?_
          show (1 = 1 ∧ (x = 114 ∨ x = 108 ∨ x = 116 ∨ x = 112 ∨ x = 59)) ∨ (1 = 0 ∧ ¬ (x = 114 ∨ x = 108 ∨ x = 116 ∨ x = 112 ∨ x = 59))
          omega
        · skip
          refine lv_iload_n hx hb dX5_isSign_24 rfl (lv_at hl 0 rfl) ?_
          refine lv_bipush (v := Int32.ofInt 59) hx hb dX5_isSign_25 (by decide) ?_
          refine ri_icmp_ne (tgt := 34) hx hb dX5_isSign_27 (by decide) ⟨by omega, by omega⟩ ⟨by omega, by omega⟩ (fun c27 => ?_) (fun c27 => ?_)
          · skip
            refine lv_iconst (v := Int32.ofInt 0) hx hb dX5_isSign_34 rfl ?_
            refine zr_Z hx hb hr hlk hQ () hP hD hS dX5_isSign_35 (Nat.le_of_ble_eq_true rfl) (Nat.le_of_ble_eq_true rfl) (Or.inl rfl) ?_
            show (0 = 1 ∧ (x = 114 ∨ x = 108 ∨ x = 116 ∨ x = 112 ∨ x = 59)) ∨ (0 = 0 ∧ ¬ (x = 114 ∨ x = 108 ∨ x = 116 ∨ x = 112 ∨ x = 59))
            omega
          · skip
            refine lv_iconst (v := Int32.ofInt 1) hx hb dX5_isSign_30 rfl ?_
            refine lv_goto (tgt := 35) hx hb dX5_isSign_31 (by decide) ?_
            refine zr_Z hx hb hr hlk hQ () hP hD hS dX5_isSign_35 (Nat.le_of_ble_eq_true rfl) (Nat.le_of_ble_eq_true rfl) (Or.inr rfl) ?_
            show (1 = 1 ∧ (x = 114 ∨ x = 108 ∨ x = 116 ∨ x = 112 ∨ x = 59)) ∨ (1 = 0 ∧ ¬ (x = 114 ∨ x = 108 ∨ x = 116 ∨ x = 112 ∨ x = 59))
            omega
set_option maxHeartbeats 4000000 in
set_option maxRecDepth 100000 in
theorem k_X5_init (l : Launch) (g : va_G) (ca : Nat → ClassId) (hd : Nat)  : zV (S := Nat × Nat × Nat × Nat) l yX5_init wsX5_init ({ frames := 1, cells := 4, slots := 803, locals := 12 } : Room) g ca [.ref hd] [(hd, oB 5 [.null, .null, .null, .null, vI 0, vI 0, vI 0, vI 0, vI 0, vI 0])] (fun (u : Nat × Nat × Nat × Nat) => True) (fun (u : Nat × Nat × Nat × Nat) => [(hd, oB 5 [.ref u.1, .ref u.2.1, .ref u.2.2.1, .ref u.2.2.2, vI 0, vI 0, vI 0, vI 0, vI 0, vI 0]), (u.1, aI ca 200 (fun _ => 0)), (u.2.1, aI ca 201 (fun _ => 0)), (u.2.2.1, aI ca 201 (fun _ => 0)), (u.2.2.2, aI ca 201 (fun _ => 0))]) 4 803 := by
  refine zm_V (cc := cX5_init) (maxL := 1) (ret := none) (by decide) rfl (Nat.le_of_ble_eq_true rfl) ?_
  intro p e s m below meth c A ls R args Q hR hargs hQ hx hb hml hr hts hown hlk hnm hK hP hD hA hS hl
  have hown : s.vm.findClass RX5 = some m.cls := hown
  have hl : lv_has ls 1 [(0, .ref hd)] := hl
  have lk_oi1 : (Cond.methodLink RX5 3 objectInit).before args s = true := hts _ (by decide +kernel)
  have lk_oi2 : (Cond.instanceMethod objectInit).before args s = true := hts _ (by decide +kernel)
  have lk_oi3 : (Cond.code objectInit ⟨#[0xb1]⟩ 1 none).before args s = true := hts _ (by decide +kernel)
  have lk_aint : (Cond.arrayClass .int).before args s = true := hts _ (by decide +kernel)
  have lk_f11 : (Cond.fieldLink RX5 11 "DripRings$Reader" "text" "[I").before args s = true := hts _ (by decide +kernel)
  have inF_X5 : ∀ w ∈ wsX50, w ∈ wsX5_init := by decide +kernel
  have lk_f15 : (Cond.fieldLink RX5 15 "DripRings$Reader" "tokens" "[I").before args s = true := hts _ (by decide +kernel)
  have lk_f18 : (Cond.fieldLink RX5 18 "DripRings$Reader" "starts" "[I").before args s = true := hts _ (by decide +kernel)
  have lk_f21 : (Cond.fieldLink RX5 21 "DripRings$Reader" "values" "[I").before args s = true := hts _ (by decide +kernel)
  refine lv_aload_n hx hb dX5_init_0 rfl (lv_at hl 0 rfl) ?_
  refine W.objInit hx hb hown lk_oi1 lk_oi2 lk_oi3 rfl (by rw [hml]; exact hl.1) rfl dX5_init_1 (by rw [hR]; exact Nat.le_of_ble_eq_true rfl) (by rw [hR]; exact Nat.le_of_ble_eq_true rfl) ?_
  refine W.eq (g2 := F0 m 4 ls []) rfl ?_
  refine lv_aload_n hx hb dX5_init_4 rfl (lv_at hl 0 rfl) ?_
  refine lv_sipush (v := Int32.ofInt 200) hx hb dX5_init_5 (by decide) ?_
  refine ra_newI (N := 200) hx hb lk_aint hK hP hD hS hA dX5_init_8 rfl (Nat.le_of_ble_eq_true rfl) (by rw [hR]; exact Nat.le_of_ble_eq_true rfl) (by rw [hR]; exact Nat.le_of_ble_eq_true rfl) (fun h8 H hP hD hS => ?_)
  have hP : va_P g vwCl [(hd, oB 5 [.null, .null, .null, .null, vI 0, vI 0, vI 0, vI 0, vI 0, vI 0]), (h8, aI ca 200 (fun _ => 0))] H := hP
  have hD : va_D A [(hd, oB 5 [.null, .null, .null, .null, vI 0, vI 0, vI 0, vI 0, vI 0, vI 0]), (h8, aI ca 200 (fun _ => 0))] := hD
  refine W.widen (k := 1) (n := 200) (Nat.le_of_ble_eq_true rfl) (Nat.le_of_ble_eq_true rfl) ?_
  refine va_putF (D := g) (ci := 5) (v := .ref h8) (ty := .array .int) (C := RX5) (T := TX5) (N := 10) hx hb hts inF_X5 tyX5 tyX5_ok nmX5 hown hK.1 hP hD hS 0 rfl rfl 0 (by decide) lk_f11 (fun _ h9 => h9) rfl hnm rfl (by decide +kernel) rfl rfl (Nat.le_of_ble_eq_true rfl) dX5_init_10 (fun H locs hP hD hS => ?_)
  have hP : va_P g vwCl [(hd, oB 5 [.ref h8, .null, .null, .null, vI 0, vI 0, vI 0, vI 0, vI 0, vI 0]), (h8, aI ca 200 (fun _ => 0))] H := hP
  have hD : va_D A [(hd, oB 5 [.ref h8, .null, .null, .null, vI 0, vI 0, vI 0, vI 0, vI 0, vI 0]), (h8, aI ca 200 (fun _ => 0))] := hD
  refine lv_aload_n hx hb dX5_init_13 rfl (lv_at hl 0 rfl) ?_
  refine lv_sipush (v := Int32.ofInt 201) hx hb dX5_init_14 (by decide) ?_
  refine ra_newI (N := 201) hx hb lk_aint hK hP hD hS hA dX5_init_17 rfl (Nat.le_of_ble_eq_true rfl) (by rw [hR]; exact Nat.le_of_ble_eq_true rfl) (by rw [hR]; exact Nat.le_of_ble_eq_true rfl) (fun h17 H hP hD hS => ?_)
  have hP : va_P g vwCl [(hd, oB 5 [.ref h8, .null, .null, .null, vI 0, vI 0, vI 0, vI 0, vI 0, vI 0]), (h8, aI ca 200 (fun _ => 0)), (h17, aI ca 201 (fun _ => 0))] H := hP
  have hD : va_D A [(hd, oB 5 [.ref h8, .null, .null, .null, vI 0, vI 0, vI 0, vI 0, vI 0, vI 0]), (h8, aI ca 200 (fun _ => 0)), (h17, aI ca 201 (fun _ => 0))] := hD
  refine W.widen (k := 2) (n := 401) (Nat.le_of_ble_eq_true rfl) (Nat.le_of_ble_eq_true rfl) ?_
  refine va_putF (D := g) (ci := 5) (v := .ref h17) (ty := .array .int) (C := RX5) (T := TX5) (N := 10) hx hb hts inF_X5 tyX5 tyX5_ok nmX5 hown hK.1 hP hD hS 0 rfl rfl 1 (by decide) lk_f15 (fun _ h9 => h9) rfl hnm rfl (by decide +kernel) rfl rfl (Nat.le_of_ble_eq_true rfl) dX5_init_19 (fun H locs hP hD hS => ?_)
  have hP : va_P g vwCl [(hd, oB 5 [.ref h8, .ref h17, .null, .null, vI 0, vI 0, vI 0, vI 0, vI 0, vI 0]), (h8, aI ca 200 (fun _ => 0)), (h17, aI ca 201 (fun _ => 0))] H := hP
  have hD : va_D A [(hd, oB 5 [.ref h8, .ref h17, .null, .null, vI 0, vI 0, vI 0, vI 0, vI 0, vI 0]), (h8, aI ca 200 (fun _ => 0)), (h17, aI ca 201 (fun _ => 0))] := hD
  refine lv_aload_n hx hb dX5_init_22 rfl (lv_at hl 0 rfl) ?_
  refine lv_sipush (v := Int32.ofInt 201) hx hb dX5_init_23 (by decide) ?_
  refine ra_newI (N := 201) hx hb lk_aint hK hP hD hS hA dX5_init_26 rfl (Nat.le_of_ble_eq_true rfl) (by rw [hR]; exact Nat.le_of_ble_eq_true rfl) (by rw [hR]; exact Nat.le_of_ble_eq_true rfl) (fun h26 H hP hD hS => ?_)
  have hP : va_P g vwCl [(hd, oB 5 [.ref h8, .ref h17, .null, .null, vI 0, vI 0, vI 0, vI 0, vI 0, vI 0]), (h8, aI ca 200 (fun _ => 0)), (h17, aI ca 201 (fun _ => 0)), (h26, aI ca 201 (fun _ => 0))] H := hP
  have hD : va_D A [(hd, oB 5 [.ref h8, .ref h17, .null, .null, vI 0, vI 0, vI 0, vI 0, vI 0, vI 0]), (h8, aI ca 200 (fun _ => 0)), (h17, aI ca 201 (fun _ => 0)), (h26, aI ca 201 (fun _ => 0))] := hD
  refine W.widen (k := 3) (n := 602) (Nat.le_of_ble_eq_true rfl) (Nat.le_of_ble_eq_true rfl) ?_
  refine va_putF (D := g) (ci := 5) (v := .ref h26) (ty := .array .int) (C := RX5) (T := TX5) (N := 10) hx hb hts inF_X5 tyX5 tyX5_ok nmX5 hown hK.1 hP hD hS 0 rfl rfl 2 (by decide) lk_f18 (fun _ h9 => h9) rfl hnm rfl (by decide +kernel) rfl rfl (Nat.le_of_ble_eq_true rfl) dX5_init_28 (fun H locs hP hD hS => ?_)
  have hP : va_P g vwCl [(hd, oB 5 [.ref h8, .ref h17, .ref h26, .null, vI 0, vI 0, vI 0, vI 0, vI 0, vI 0]), (h8, aI ca 200 (fun _ => 0)), (h17, aI ca 201 (fun _ => 0)), (h26, aI ca 201 (fun _ => 0))] H := hP
  have hD : va_D A [(hd, oB 5 [.ref h8, .ref h17, .ref h26, .null, vI 0, vI 0, vI 0, vI 0, vI 0, vI 0]), (h8, aI ca 200 (fun _ => 0)), (h17, aI ca 201 (fun _ => 0)), (h26, aI ca 201 (fun _ => 0))] := hD
  refine lv_aload_n hx hb dX5_init_31 rfl (lv_at hl 0 rfl) ?_
  refine lv_sipush (v := Int32.ofInt 201) hx hb dX5_init_32 (by decide) ?_
  refine ra_newI (N := 201) hx hb lk_aint hK hP hD hS hA dX5_init_35 rfl (Nat.le_of_ble_eq_true rfl) (by rw [hR]; exact Nat.le_of_ble_eq_true rfl) (by rw [hR]; exact Nat.le_of_ble_eq_true rfl) (fun h35 H hP hD hS => ?_)
  have hP : va_P g vwCl [(hd, oB 5 [.ref h8, .ref h17, .ref h26, .null, vI 0, vI 0, vI 0, vI 0, vI 0, vI 0]), (h8, aI ca 200 (fun _ => 0)), (h17, aI ca 201 (fun _ => 0)), (h26, aI ca 201 (fun _ => 0)), (h35, aI ca 201 (fun _ => 0))] H := hP
  have hD : va_D A [(hd, oB 5 [.ref h8, .ref h17, .ref h26, .null, vI 0, vI 0, vI 0, vI 0, vI 0, vI 0]), (h8, aI ca 200 (fun _ => 0)), (h17, aI ca 201 (fun _ => 0)), (h26, aI ca 201 (fun _ => 0)), (h35, aI ca 201 (fun _ => 0))] := hD
  refine W.widen (k := 4) (n := 803) (Nat.le_of_ble_eq_true rfl) (Nat.le_of_ble_eq_true rfl) ?_
  refine va_putF (D := g) (ci := 5) (v := .ref h35) (ty := .array .int) (C := RX5) (T := TX5) (N := 10) hx hb hts inF_X5 tyX5 tyX5_ok nmX5 hown hK.1 hP hD hS 0 rfl rfl 3 (by decide) lk_f21 (fun _ h9 => h9) rfl hnm rfl (by decide +kernel) rfl rfl (Nat.le_of_ble_eq_true rfl) dX5_init_37 (fun H locs hP hD hS => ?_)
  have hP : va_P g vwCl [(hd, oB 5 [.ref h8, .ref h17, .ref h26, .ref h35, vI 0, vI 0, vI 0, vI 0, vI 0, vI 0]), (h8, aI ca 200 (fun _ => 0)), (h17, aI ca 201 (fun _ => 0)), (h26, aI ca 201 (fun _ => 0)), (h35, aI ca 201 (fun _ => 0))] H := hP
  have hD : va_D A [(hd, oB 5 [.ref h8, .ref h17, .ref h26, .ref h35, vI 0, vI 0, vI 0, vI 0, vI 0, vI 0]), (h8, aI ca 200 (fun _ => 0)), (h17, aI ca 201 (fun _ => 0)), (h26, aI ca 201 (fun _ => 0)), (h35, aI ca 201 (fun _ => 0))] := hD
  refine zr_V hx hb hr hlk hQ (h8, h17, h26, h35) hP hD hS dX5_init_40 (Nat.le_of_ble_eq_true rfl) (Nat.le_of_ble_eq_true rfl) ?_
  show True
  first | trivial | omega | assumption
set_option maxHeartbeats 4000000 in
set_option maxRecDepth 100000 in
theorem k_X5_letters (l : Launch) (g : va_G) (ca : Nat → ClassId) (hd : Nat) (hdt : Nat) (hdk : Nat) (hds : Nat) (hdv : Nat) (n : Int) (he0 : Int) (fa : Int) (sr : Int) (sl : Int) (st0 : Int)  : zI (S := Unit) l yX5_letters wsX5_letters ({ frames := 0, cells := 0, slots := 0, locals := 0 } : Room) g ca [.ref hd] [(hd, oB 5 [.ref hdt, .ref hdk, .ref hds, .ref hdv, vI n, vI he0, vI fa, vI sr, vI sl, vI st0])] (fun (z : Int) (u : Unit) => z = n) (fun (u : Unit) => [(hd, oB 5 [.ref hdt, .ref hdk, .ref hds, .ref hdv, vI n, vI he0, vI fa, vI sr, vI sl, vI st0])]) 0 0 := by
  refine zm_I (cc := cX5_letters) (maxL := 1) (ret := some .int) (by decide) rfl (Nat.le_of_ble_eq_true rfl) ?_
  intro p e s m below meth c A ls R args Q hR hargs hQ hx hb hml hr hts hown hlk hnm hK hP hD hA hS hl
  have hown : s.vm.findClass RX5 = some m.cls := hown
  have hl : lv_has ls 1 [(0, .ref hd)] := hl
  have lk_f24 : (Cond.fieldLink RX5 24 "DripRings$Reader" "length" "I").before args s = true := hts _ (by decide +kernel)
  have inF_X5 : ∀ w ∈ wsX50, w ∈ wsX5_letters := by decide +kernel
  refine lv_aload_n hx hb dX5_letters_0 rfl (lv_at hl 0 rfl) ?_
  refine va_get (D := g) (ci := 5) (v := vI n) (C := RX5) (T := TX5) (N := 10) hx hb hts inF_X5 hown hK.1 hP 0 rfl rfl 4 (by decide) lk_f24 (fun _ h9 => h9) rfl dX5_letters_1 ?_
  refine zr_I hx hb hr hlk hQ () hP hD hS dX5_letters_4 (Nat.le_of_ble_eq_true rfl) (Nat.le_of_ble_eq_true rfl) ?_
  show n = n
  rfl
set_option maxHeartbeats 4000000 in
set_option maxRecDepth 100000 in
theorem k_X5_add (l : Launch) (g : va_G) (ca : Nat → ClassId) (hd : Nat) (hdt : Nat) (hdk : Nat) (hds : Nat) (hdv : Nat) (n : Int) (he0 : Int) (fa : Int) (sr : Int) (sl : Int) (st0 : Int) (t : Int → Int) (x : Int) (hn : 0 ≤ n ∧ n ≤ 200) : zI (S := Int × (Int → Int)) l yX5_add wsX5_add ({ frames := 0, cells := 0, slots := 0, locals := 0 } : Room) g ca [.ref hd, vI x] [(hd, oB 5 [.ref hdt, .ref hdk, .ref hds, .ref hdv, vI n, vI he0, vI fa, vI sr, vI sl, vI st0]), (hdt, aI ca 200 t)] (fun (z : Int) (u : Int × (Int → Int)) => (n < 200 ∧ z = 1 ∧ u.1 = n + 1 ∧ u.2 = zu t n x) ∨ (n = 200 ∧ z = 0 ∧ u.1 = n ∧ u.2 = t)) (fun (u : Int × (Int → Int)) => [(hd, oB 5 [.ref hdt, .ref hdk, .ref hds, .ref hdv, vI u.1, vI he0, vI fa, vI sr, vI sl, vI st0]), (hdt, aI ca 200 u.2)]) 0 0 := by
  refine zm_I (cc := cX5_add) (maxL := 2) (ret := some .boolean) (by decide) rfl (Nat.le_of_ble_eq_true rfl) ?_
  intro p e s m below meth c A ls R args Q hR hargs hQ hx hb hml hr hts hown hlk hnm hK hP hD hA hS hl
  have hown : s.vm.findClass RX5 = some m.cls := hown
  have hl : lv_has ls 2 [(0, .ref hd), (1, vI x)] := hl
  have lk_f24 : (Cond.fieldLink RX5 24 "DripRings$Reader" "length" "I").before args s = true := hts _ (by decide +kernel)
  have inF_X5 : ∀ w ∈ wsX50, w ∈ wsX5_add := by decide +kernel
  have lk_f11 : (Cond.fieldLink RX5 11 "DripRings$Reader" "text" "[I").before args s = true := hts _ (by decide +kernel)
  refine lv_aload_n hx hb dX5_add_0 rfl (lv_at hl 0 rfl) ?_
  refine va_get (D := g) (ci := 5) (v := vI n) (C := RX5) (T := TX5) (N := 10) hx hb hts inF_X5 hown hK.1 hP 0 rfl rfl 4 (by decide) lk_f24 (fun _ h9 => h9) rfl dX5_add_1 ?_
  refine lv_sipush (v := Int32.ofInt 200) hx hb dX5_add_4 (by decide) ?_
  refine ri_icmp_lt (tgt := 12) hx hb dX5_add_7 (by decide) ⟨by omega, by omega⟩ ⟨by omega, by omega⟩ (fun c7 => ?_) (fun c7 => ?_)
  · skip
    refine lv_aload_n hx hb dX5_add_12 rfl (lv_at hl 0 rfl) ?_
    refine va_get (D := g) (ci := 5) (v := .ref hdt) (C := RX5) (T := TX5) (N := 10) hx hb hts inF_X5 hown hK.1 hP 0 rfl rfl 0 (by decide) lk_f11 (fun _ h9 => h9) rfl dX5_add_13 ?_
    refine lv_aload_n hx hb dX5_add_16 rfl (lv_at hl 0 rfl) ?_
    refine va_get (D := g) (ci := 5) (v := vI n) (C := RX5) (T := TX5) (N := 10) hx hb hts inF_X5 hown hK.1 hP 0 rfl rfl 4 (by decide) lk_f24 (fun _ h9 => h9) rfl dX5_add_17 ?_
    refine lv_iload_n hx hb dX5_add_20 rfl (lv_at hl 1 rfl) ?_
    refine ra_ist hx hb hK hP hD hS 1 rfl dX5_add_21 ⟨by omega, by omega⟩ (by omega) (fun H locs hP hD hS => ?_)
    have hP : va_P g vwCl [(hd, oB 5 [.ref hdt, .ref hdk, .ref hds, .ref hdv, vI n, vI he0, vI fa, vI sr, vI sl, vI st0]), (hdt, aI ca 200 (zu t n x))] H := hP
    have hD : va_D A [(hd, oB 5 [.ref hdt, .ref hdk, .ref hds, .ref hdv, vI n, vI he0, vI fa, vI sr, vI sl, vI st0]), (hdt, aI ca 200 (zu t n x))] := hD
    refine lv_aload_n hx hb dX5_add_22 rfl (lv_at hl 0 rfl) ?_
    refine lv_dup hx hb dX5_add_23 rfl ?_
    refine va_get (D := g) (ci := 5) (v := vI n) (C := RX5) (T := TX5) (N := 10) hx hb hts inF_X5 hown hK.1 hP 0 rfl rfl 4 (by decide) lk_f24 (fun _ h9 => h9) rfl dX5_add_24 ?_
    refine lv_iconst (v := Int32.ofInt 1) hx hb dX5_add_27 rfl ?_
    refine ri_add hx hb dX5_add_28 (fun z28 e28 => ?_)
    refine va_put (D := g) (ci := 5) (v := vI z28) (ty := .int) (C := RX5) (T := TX5) (N := 10) hx hb hts inF_X5 tyX5 tyX5_ok nmX5 hown hK.1 hP hD hS 0 rfl rfl 4 (by decide) lk_f24 (fun _ h9 => h9) rfl (by decide +kernel) rfl rfl (Nat.le_of_ble_eq_true rfl) dX5_add_29 (fun H locs hP hD hS => ?_)
    have hP : va_P g vwCl [(hd, oB 5 [.ref hdt, .ref hdk, .ref hds, .ref hdv, vI z28, vI he0, vI fa, vI sr, vI sl, vI st0]), (hdt, aI ca 200 (zu t n x))] H := hP
    have hD : va_D A [(hd, oB 5 [.ref hdt, .ref hdk, .ref hds, .ref hdv, vI z28, vI he0, vI fa, vI sr, vI sl, vI st0]), (hdt, aI ca 200 (zu t n x))] := hD
    refine lv_iconst (v := Int32.ofInt 1) hx hb dX5_add_32 rfl ?_
    refine zr_Z hx hb hr hlk hQ (z28, zu t n x) hP hD hS dX5_add_33 (Nat.le_of_ble_eq_true rfl) (Nat.le_of_ble_eq_true rfl) (Or.inr rfl) ?_
    show (n < 200 ∧ 1 = 1 ∧ z28 = n + 1 ∧ (zu t n x) = zu t n x) ∨ (n = 200 ∧ 1 = 0 ∧ z28 = n ∧ (zu t n x) = t)
    first | exact Or.inl ⟨by omega, rfl, e28, rfl⟩ | exact Or.inr ⟨by omega, rfl, rfl, rfl⟩
  · skip
    refine lv_iconst (v := Int32.ofInt 0) hx hb dX5_add_10 rfl ?_
    refine zr_Z hx hb hr hlk hQ (n, t) hP hD hS dX5_add_11 (Nat.le_of_ble_eq_true rfl) (Nat.le_of_ble_eq_true rfl) (Or.inl rfl) ?_
    show (n < 200 ∧ 0 = 1 ∧ n = n + 1 ∧ t = zu t n x) ∨ (n = 200 ∧ 0 = 0 ∧ n = n ∧ t = t)
    first | exact Or.inl ⟨by omega, rfl, e28, rfl⟩ | exact Or.inr ⟨by omega, rfl, rfl, rfl⟩
set_option maxHeartbeats 4000000 in
set_option maxRecDepth 100000 in
theorem k_X5_wipe (l : Launch) (g : va_G) (ca : Nat → ClassId) (hd : Nat) (hdt : Nat) (hdk : Nat) (hds : Nat) (hdv : Nat) (n : Int) (he0 : Int) (fa : Int) (sr : Int) (sl : Int) (st0 : Int)  : zI (S := Unit) l yX5_wipe wsX5_wipe ({ frames := 0, cells := 0, slots := 0, locals := 0 } : Room) g ca [.ref hd] [(hd, oB 5 [.ref hdt, .ref hdk, .ref hds, .ref hdv, vI n, vI he0, vI fa, vI sr, vI sl, vI st0])] (fun (z : Int) (u : Unit) => z = n) (fun (u : Unit) => [(hd, oB 5 [.ref hdt, .ref hdk, .ref hds, .ref hdv, vI 0, vI he0, vI fa, vI sr, vI sl, vI st0])]) 0 0 := by
  refine zm_I (cc := cX5_wipe) (maxL := 2) (ret := some .int) (by decide) rfl (Nat.le_of_ble_eq_true rfl) ?_
  intro p e s m below meth c A ls R args Q hR hargs hQ hx hb hml hr hts hown hlk hnm hK hP hD hA hS hl
  have hown : s.vm.findClass RX5 = some m.cls := hown
  have hl : lv_has ls 2 [(0, .ref hd)] := hl
  have lk_f24 : (Cond.fieldLink RX5 24 "DripRings$Reader" "length" "I").before args s = true := hts _ (by decide +kernel)
  have inF_X5 : ∀ w ∈ wsX50, w ∈ wsX5_wipe := by decide +kernel
  refine lv_aload_n hx hb dX5_wipe_0 rfl (lv_at hl 0 rfl) ?_
  refine va_get (D := g) (ci := 5) (v := vI n) (C := RX5) (T := TX5) (N := 10) hx hb hts inF_X5 hown hK.1 hP 0 rfl rfl 4 (by decide) lk_f24 (fun _ h9 => h9) rfl dX5_wipe_1 ?_
  refine lv_istore_n (lv' := [(1, vI n), (0, .ref hd)]) hx hb dX5_wipe_4 rfl hl (by decide) rfl (fun ls hl => ?_)
  refine lv_aload_n hx hb dX5_wipe_5 rfl (lv_at hl 1 rfl) ?_
  refine lv_iconst (v := Int32.ofInt 0) hx hb dX5_wipe_6 rfl ?_
  refine va_put (D := g) (ci := 5) (v := vI 0) (ty := .int) (C := RX5) (T := TX5) (N := 10) hx hb hts inF_X5 tyX5 tyX5_ok nmX5 hown hK.1 hP hD hS 0 rfl rfl 4 (by decide) lk_f24 (fun _ h9 => h9) rfl (by decide +kernel) rfl rfl (Nat.le_of_ble_eq_true rfl) dX5_wipe_7 (fun H locs hP hD hS => ?_)
  have hP : va_P g vwCl [(hd, oB 5 [.ref hdt, .ref hdk, .ref hds, .ref hdv, vI 0, vI he0, vI fa, vI sr, vI sl, vI st0])] H := hP
  have hD : va_D A [(hd, oB 5 [.ref hdt, .ref hdk, .ref hds, .ref hdv, vI 0, vI he0, vI fa, vI sr, vI sl, vI st0])] := hD
  refine lv_iload_n hx hb dX5_wipe_10 rfl (lv_at hl 0 rfl) ?_
  refine zr_I hx hb hr hlk hQ () hP hD hS dX5_wipe_11 (Nat.le_of_ble_eq_true rfl) (Nat.le_of_ble_eq_true rfl) ?_
  show n = n
  rfl
set_option maxHeartbeats 4000000 in
set_option maxRecDepth 100000 in
theorem k_X5_put (l : Launch) (g : va_G) (ca : Nat → ClassId) (hd : Nat) (hdt : Nat) (hdk : Nat) (hds : Nat) (hdv : Nat) (n : Int) (he0 : Int) (fa : Int) (sr : Int) (sl : Int) (st0 : Int) (tk : Int → Int) (sv : Int → Int) (va : Int → Int) (k0 : Int) (x : Int) (y : Int) (v : Int) (hk0 : 0 ≤ k0 ∧ k0 ≤ 200) : zV (S := Unit) l yX5_put wsX5_put ({ frames := 0, cells := 0, slots := 0, locals := 0 } : Room) g ca [.ref hd, vI k0, vI x, vI y, vI v] [(hd, oB 5 [.ref hdt, .ref hdk, .ref hds, .ref hdv, vI n, vI he0, vI fa, vI sr, vI sl, vI st0]), (hdk, aI ca 201 tk), (hds, aI ca 201 sv), (hdv, aI ca 201 va)] (fun (u : Unit) => True) (fun (u : Unit) => [(hd, oB 5 [.ref hdt, .ref hdk, .ref hds, .ref hdv, vI n, vI he0, vI fa, vI sr, vI sl, vI st0]), (hdk, aI ca 201 (zu tk k0 x)), (hds, aI ca 201 (zu sv k0 y)), (hdv, aI ca 201 (zu va k0 v))]) 0 0 := by
  refine zm_V (cc := cX5_put) (maxL := 5) (ret := none) (by decide) rfl (Nat.le_of_ble_eq_true rfl) ?_
  intro p e s m below meth c A ls R args Q hR hargs hQ hx hb hml hr hts hown hlk hnm hK hP hD hA hS hl
  have hown : s.vm.findClass RX5 = some m.cls := hown
  have hl : lv_has ls 5 [(0, .ref hd), (1, vI k0), (2, vI x), (3, vI y), (4, vI v)] := hl
  have lk_f15 : (Cond.fieldLink RX5 15 "DripRings$Reader" "tokens" "[I").before args s = true := hts _ (by decide +kernel)
  have inF_X5 : ∀ w ∈ wsX50, w ∈ wsX5_put := by decide +kernel
  have lk_f18 : (Cond.fieldLink RX5 18 "DripRings$Reader" "starts" "[I").before args s = true := hts _ (by decide +kernel)
  have lk_f21 : (Cond.fieldLink RX5 21 "DripRings$Reader" "values" "[I").before args s = true := hts _ (by decide +kernel)
  refine lv_aload_n hx hb dX5_put_0 rfl (lv_at hl 0 rfl) ?_
  refine va_get (D := g) (ci := 5) (v := .ref hdk) (C := RX5) (T := TX5) (N := 10) hx hb hts inF_X5 hown hK.1 hP 0 rfl rfl 1 (by decide) lk_f15 (fun _ h9 => h9) rfl dX5_put_1 ?_
  refine lv_iload_n hx hb dX5_put_4 rfl (lv_at hl 1 rfl) ?_
  refine lv_iload_n hx hb dX5_put_5 rfl (lv_at hl 2 rfl) ?_
  refine ra_ist hx hb hK hP hD hS 1 rfl dX5_put_6 ⟨by omega, by omega⟩ (by omega) (fun H locs hP hD hS => ?_)
  have hP : va_P g vwCl [(hd, oB 5 [.ref hdt, .ref hdk, .ref hds, .ref hdv, vI n, vI he0, vI fa, vI sr, vI sl, vI st0]), (hdk, aI ca 201 (zu tk k0 x)), (hds, aI ca 201 sv), (hdv, aI ca 201 va)] H := hP
  have hD : va_D A [(hd, oB 5 [.ref hdt, .ref hdk, .ref hds, .ref hdv, vI n, vI he0, vI fa, vI sr, vI sl, vI st0]), (hdk, aI ca 201 (zu tk k0 x)), (hds, aI ca 201 sv), (hdv, aI ca 201 va)] := hD
  refine lv_aload_n hx hb dX5_put_7 rfl (lv_at hl 0 rfl) ?_
  refine va_get (D := g) (ci := 5) (v := .ref hds) (C := RX5) (T := TX5) (N := 10) hx hb hts inF_X5 hown hK.1 hP 0 rfl rfl 2 (by decide) lk_f18 (fun _ h9 => h9) rfl dX5_put_8 ?_
  refine lv_iload_n hx hb dX5_put_11 rfl (lv_at hl 1 rfl) ?_
  refine lv_iload_n hx hb dX5_put_12 rfl (lv_at hl 3 rfl) ?_
  refine ra_ist hx hb hK hP hD hS 2 rfl dX5_put_13 ⟨by omega, by omega⟩ (by omega) (fun H locs hP hD hS => ?_)
  have hP : va_P g vwCl [(hd, oB 5 [.ref hdt, .ref hdk, .ref hds, .ref hdv, vI n, vI he0, vI fa, vI sr, vI sl, vI st0]), (hdk, aI ca 201 (zu tk k0 x)), (hds, aI ca 201 (zu sv k0 y)), (hdv, aI ca 201 va)] H := hP
  have hD : va_D A [(hd, oB 5 [.ref hdt, .ref hdk, .ref hds, .ref hdv, vI n, vI he0, vI fa, vI sr, vI sl, vI st0]), (hdk, aI ca 201 (zu tk k0 x)), (hds, aI ca 201 (zu sv k0 y)), (hdv, aI ca 201 va)] := hD
  refine lv_aload_n hx hb dX5_put_14 rfl (lv_at hl 0 rfl) ?_
  refine va_get (D := g) (ci := 5) (v := .ref hdv) (C := RX5) (T := TX5) (N := 10) hx hb hts inF_X5 hown hK.1 hP 0 rfl rfl 3 (by decide) lk_f21 (fun _ h9 => h9) rfl dX5_put_15 ?_
  refine lv_iload_n hx hb dX5_put_18 rfl (lv_at hl 1 rfl) ?_
  refine lv_iload hx hb dX5_put_19 (lv_at hl 4 rfl) ?_
  refine ra_ist hx hb hK hP hD hS 3 rfl dX5_put_21 ⟨by omega, by omega⟩ (by omega) (fun H locs hP hD hS => ?_)
  have hP : va_P g vwCl [(hd, oB 5 [.ref hdt, .ref hdk, .ref hds, .ref hdv, vI n, vI he0, vI fa, vI sr, vI sl, vI st0]), (hdk, aI ca 201 (zu tk k0 x)), (hds, aI ca 201 (zu sv k0 y)), (hdv, aI ca 201 (zu va k0 v))] H := hP
  have hD : va_D A [(hd, oB 5 [.ref hdt, .ref hdk, .ref hds, .ref hdv, vI n, vI he0, vI fa, vI sr, vI sl, vI st0]), (hdk, aI ca 201 (zu tk k0 x)), (hds, aI ca 201 (zu sv k0 y)), (hdv, aI ca 201 (zu va k0 v))] := hD
  refine zr_V hx hb hr hlk hQ () hP hD hS dX5_put_22 (Nat.le_of_ble_eq_true rfl) (Nat.le_of_ble_eq_true rfl) ?_
  show True
  first | trivial | omega | assumption
set_option maxHeartbeats 4000000 in
set_option maxRecDepth 100000 in
theorem k_X5_cutNumber (l : Launch) (g : va_G) (ca : Nat → ClassId) (hd : Nat) (hdt : Nat) (hdk : Nat) (hds : Nat) (hdv : Nat) (n : Int) (he0 : Int) (fa : Int) (sr : Int) (sl : Int) (st0 : Int) (t : Int → Int) (tk : Int → Int) (sv : Int → Int) (va : Int → Int) (q0 : Int) (k0 : Int) (hT : TXok t n) (hk0 : 0 ≤ k0 ∧ k0 ≤ 200) (hq0 : 0 ≤ q0 ∧ q0 < n) (hdg : 48 ≤ t q0 ∧ t q0 ≤ 57) : zI (S := Unit) l yX5_cutNumber wsX5_cutNumber ({ frames := 1, cells := 0, slots := 0, locals := 24 } : Room) g ca [.ref hd, vI q0, vI k0] [(hd, oB 5 [.ref hdt, .ref hdk, .ref hds, .ref hdv, vI n, vI he0, vI fa, vI sr, vI sl, vI st0]), (hdt, aI ca 200 t), (hdk, aI ca 201 tk), (hds, aI ca 201 sv), (hdv, aI ca 201 va)] (fun (z : Int) (u : Unit) => z = en t n q0) (fun (u : Unit) => [(hd, oB 5 [.ref hdt, .ref hdk, .ref hds, .ref hdv, vI n, vI he0, vI fa, vI sr, vI sl, vI st0]), (hdt, aI ca 200 t), (hdk, aI ca 201 (zu tk k0 (kd t n q0))), (hds, aI ca 201 (zu sv k0 q0)), (hdv, aI ca 201 (zu va k0 (vl t n q0)))]) 0 0 := by
  refine zm_I (cc := cX5_cutNumber) (maxL := 6) (ret := some .int) (by decide) rfl (Nat.le_of_ble_eq_true rfl) ?_
  intro p e s m below meth c A ls R args Q hR hargs hQ hx hb hml hr hts hown hlk hnm hK hP hD hA hS hl
  have hown : s.vm.findClass RX5 = some m.cls := hown
  have hl : lv_has ls 6 [(0, .ref hd), (1, vI q0), (2, vI k0)] := hl
  have lk_f24 : (Cond.fieldLink RX5 24 "DripRings$Reader" "length" "I").before args s = true := hts _ (by decide +kernel)
  have inF_X5 : ∀ w ∈ wsX50, w ∈ wsX5_cutNumber := by decide +kernel
  have lk_f11 : (Cond.fieldLink RX5 11 "DripRings$Reader" "text" "[I").before args s = true := hts _ (by decide +kernel)
  have lk_min122 : (Cond.methodLink RX5 122 Lib.Math.min.name).before args s = true := hts _ (by decide +kernel)
  have lk_mins : (Cond.static Lib.Math.min.name).before args s = true := hts _ (by decide +kernel)
  have lk_mathz : (Cond.initialized "java/lang/Math").before args s = true := hts _ (by decide +kernel)
  have lk_minc : (Cond.code Lib.Math.min.name Lib.Math.min.code 2 (some .int)).before args s = true := hts _ (by decide +kernel)
  have hn := hT.1
  refine lv_iload_n hx hb dX5_cutNumber_0 rfl (lv_at hl 1 rfl) ?_
  refine lv_istore_n (lv' := [(3, vI q0), (0, .ref hd), (1, vI q0), (2, vI k0)]) hx hb dX5_cutNumber_1 rfl hl (by decide) rfl (fun ls hl => ?_)
  refine lv_iconst (v := Int32.ofInt 0) hx hb dX5_cutNumber_2 rfl ?_
  refine lv_istore (lv' := [(4, vI 0), (3, vI q0), (0, .ref hd), (1, vI q0), (2, vI k0)]) hx hb dX5_cutNumber_3 hl (by decide) rfl (fun ls hl => ?_)
  have L5 : ∀ (N5 : Nat) (i : Int) (v : Int) (hi : q0 ≤ i ∧ i ≤ n ∧ (i = q0 ∨ q0 < i)) (hde : dep t n i = dep t n q0) (hdv0 : dvp t n i v = dvp t n q0 0) (hv0 : 0 ≤ v ∧ v ≤ 201) (hμ : (n - i).toNat < N5) (H : Heap) (locs : List Loc) (hP : va_P g vwCl [(hd, oB 5 [.ref hdt, .ref hdk, .ref hds, .ref hdv, vI n, vI he0, vI fa, vI sr, vI sl, vI st0]), (hdt, aI ca 200 t), (hdk, aI ca 201 tk), (hds, aI ca 201 sv), (hdv, aI ca 201 va)] H) (hD : va_D A [(hd, oB 5 [.ref hdt, .ref hdk, .ref hds, .ref hdv, vI n, vI he0, vI fa, vI sr, vI sl, vI st0]), (hdt, aI ca 200 t), (hdk, aI ca 201 tk), (hds, aI ca 201 sv), (hdv, aI ca 201 va)]) (hS : va_S A s.heap H locs) (ls : Array Slot) (hl : lv_has ls 6 [(4, vI v), (3, vI i), (0, .ref hd), (1, vI q0), (2, vI k0)]), W p l e R s m args below meth c H locs 0 0 Q (F0 m 5 ls []) := by
    intro N5; induction N5 with
    | zero => intro i v hi hde hdv0 hv0 hμ; exact absurd hμ (Nat.not_lt_zero _)
    | succ N5 ih5 =>
      intro i v hi hde hdv0 hv0 hμ H locs hP hD hS ls hl
      refine lv_iload_n hx hb dX5_cutNumber_5 rfl (lv_at hl 1 rfl) ?_
      refine lv_aload_n hx hb dX5_cutNumber_6 rfl (lv_at hl 2 rfl) ?_
      refine va_get (D := g) (ci := 5) (v := vI n) (C := RX5) (T := TX5) (N := 10) hx hb hts inF_X5 hown hK.1 hP 0 rfl rfl 4 (by decide) lk_f24 (fun _ h9 => h9) rfl dX5_cutNumber_7 ?_
      refine ri_icmp_ge (tgt := 54) hx hb dX5_cutNumber_10 (by decide) ⟨by omega, by omega⟩ ⟨by omega, by omega⟩ (fun c10 => ?_) (fun c10 => ?_)
      · skip
        refine lv_aload_n hx hb dX5_cutNumber_54 rfl (lv_at hl 2 rfl) ?_
        refine va_get (D := g) (ci := 5) (v := .ref hdt) (C := RX5) (T := TX5) (N := 10) hx hb hts inF_X5 hown hK.1 hP 0 rfl rfl 0 (by decide) lk_f11 (fun _ h9 => h9) rfl dX5_cutNumber_55 ?_
        refine lv_iload_n hx hb dX5_cutNumber_58 rfl (lv_at hl 3 rfl) ?_
        refine ra_ild hx hb hK hP 1 rfl dX5_cutNumber_59 ⟨by omega, by omega⟩ (by omega) ?_
        refine lv_bipush (v := Int32.ofInt 48) hx hb dX5_cutNumber_60 (by decide) ?_
        have hend : ¬ (i < n ∧ 48 ≤ t i ∧ t i ≤ 57) := by omega
        have hi2 : i = dep t n q0 := by rw [← hde, dep_e hend]
        have hv2 : v = dvp t n q0 0 := by rw [← hdv0, dvp_e hend]
        refine ri_icmp_ne (tgt := 76) hx hb dX5_cutNumber_62 (by decide) ⟨by omega, by omega⟩ ⟨by omega, by omega⟩ (fun c62 => ?_) (fun c62 => ?_)
        · skip
          refine lv_iconst (v := Int32.ofInt 0) hx hb dX5_cutNumber_76 rfl ?_
          refine lv_istore (lv' := [(5, vI 0), (4, vI v), (3, vI i), (0, .ref hd), (1, vI q0), (2, vI k0)]) hx hb dX5_cutNumber_77 hl (by decide) rfl (fun ls hl => ?_)
          refine lv_aload_n hx hb dX5_cutNumber_79 rfl (lv_at hl 3 rfl) ?_
          refine lv_iload_n hx hb dX5_cutNumber_80 rfl (lv_at hl 5 rfl) ?_
          refine lv_iload hx hb dX5_cutNumber_81 (lv_at hl 1 rfl) ?_
          refine lv_sipush (v := Int32.ofInt 200) hx hb dX5_cutNumber_83 (by decide) ?_
          refine ri_icmp_gt (tgt := 94) hx hb dX5_cutNumber_86 (by decide) ⟨by omega, by omega⟩ ⟨by omega, by omega⟩ (fun c86 => ?_) (fun c86 => ?_)
          · skip
            refine lv_bipush (v := Int32.ofInt (-3)) hx hb dX5_cutNumber_94 (by decide) ?_
            refine lv_goto (tgt := 101) hx hb dX5_cutNumber_96 (by decide) ?_
            refine lv_iload_n hx hb dX5_cutNumber_101 rfl (lv_at hl 4 rfl) ?_
            refine lv_iload hx hb dX5_cutNumber_102 (lv_at hl 1 rfl) ?_
            refine zc_VV (As := [vI k0, vI (-3), vI q0, vI v]) (rest := []) (wc := [(hd, oB 5 [.ref hdt, .ref hdk, .ref hds, .ref hdv, vI n, vI he0, vI fa, vI sr, vI sl, vI st0]), (hdk, aI ca 201 tk), (hds, aI ca 201 sv), (hdv, aI ca 201 va)]) (wr := [(hdt, aI ca 200 t)]) (k_X5_put l g ca hd hdt hdk hds hdv n he0 fa sr sl st0 tk sv va k0 (-3) q0 v (by first | assumption | omega)) dX5_cutNumber_104 (cwV 4 hts gX5_cutNumber_X5_put rfl rfl rfl (by decide +kernel) (by rw [hR]; exact ⟨Nat.le_of_ble_eq_true rfl, Nat.le_of_ble_eq_true rfl⟩)) ⟨hx, hb, hml, hown, hts⟩ hl.1 hK hP hD hS hA 0 rfl rfl rfl [0, 2, 3, 4] [1] rfl (by decide) rfl (by decide) (by decide) rfl rfl (Nat.le_of_ble_eq_true rfl) (by rw [hR]; exact ⟨Nat.le_of_ble_eq_true rfl, Nat.le_of_ble_eq_true rfl⟩) (fun u H locs q104 hP hD hS => ?_)
            have hP : va_P g vwCl [(hd, oB 5 [.ref hdt, .ref hdk, .ref hds, .ref hdv, vI n, vI he0, vI fa, vI sr, vI sl, vI st0]), (hdt, aI ca 200 t), (hdk, aI ca 201 (zu tk k0 (-3))), (hds, aI ca 201 (zu sv k0 q0)), (hdv, aI ca 201 (zu va k0 v))] H := hP.sub [1, 0, 2, 3, 4] rfl
            have hD : va_D A [(hd, oB 5 [.ref hdt, .ref hdk, .ref hds, .ref hdv, vI n, vI he0, vI fa, vI sr, vI sl, vI st0]), (hdt, aI ca 200 t), (hdk, aI ca 201 (zu tk k0 (-3))), (hds, aI ca 201 (zu sv k0 q0)), (hdv, aI ca 201 (zu va k0 v))] := hD.sub [1, 0, 2, 3, 4] (by decide) rfl
            refine lv_iload_n hx hb dX5_cutNumber_107 rfl (lv_at hl 2 rfl) ?_
            have hvl : vl t n q0 = v := by unfold vl; rw [if_pos ⟨hq0.2, hdg⟩]; exact hv2.symm
            have hkd : ∀ x : Int, ((200 < v ∨ (t q0 = 48 ∧ 1 < i - q0)) → x = -3) → (¬ (200 < v ∨ (t q0 = 48 ∧ 1 < i - q0)) → x = -2) → x = kd t n q0 := by
              intro x h1 h2
              unfold kd
              rw [if_neg (by omega), if_pos hdg, ← hv2, ← hi2]
              split
              · rename_i q; exact h1 q
              · rename_i q; exact h2 q
            rw [hkd (-3) (by omega) (by omega), ← hvl] at hP hD
            refine zr_I hx hb hr hlk hQ () hP hD hS dX5_cutNumber_108 (Nat.le_of_ble_eq_true rfl) (Nat.le_of_ble_eq_true rfl) ?_
            show i = en t n q0
            unfold en; rw [if_pos ⟨hq0.2, hdg⟩]; exact hi2
          · skip
            refine lv_iload hx hb dX5_cutNumber_89 (lv_at hl 0 rfl) ?_
            refine ri_if_eq (tgt := 99) hx hb dX5_cutNumber_91 (by decide) ⟨by omega, by omega⟩ (fun c91_ => ?_) (fun c91_ => ?_)
            · skip
              refine lv_bipush (v := Int32.ofInt (-2)) hx hb dX5_cutNumber_99 (by decide) ?_
              refine lv_iload_n hx hb dX5_cutNumber_101 rfl (lv_at hl 4 rfl) ?_
              refine lv_iload hx hb dX5_cutNumber_102 (lv_at hl 1 rfl) ?_
              refine zc_VV (As := [vI k0, vI (-2), vI q0, vI v]) (rest := []) (wc := [(hd, oB 5 [.ref hdt, .ref hdk, .ref hds, .ref hdv, vI n, vI he0, vI fa, vI sr, vI sl, vI st0]), (hdk, aI ca 201 tk), (hds, aI ca 201 sv), (hdv, aI ca 201 va)]) (wr := [(hdt, aI ca 200 t)]) (k_X5_put l g ca hd hdt hdk hds hdv n he0 fa sr sl st0 tk sv va k0 (-2) q0 v (by first | assumption | omega)) dX5_cutNumber_104 (cwV 4 hts gX5_cutNumber_X5_put rfl rfl rfl (by decide +kernel) (by rw [hR]; exact ⟨Nat.le_of_ble_eq_true rfl, Nat.le_of_ble_eq_true rfl⟩)) ⟨hx, hb, hml, hown, hts⟩ hl.1 hK hP hD hS hA 0 rfl rfl rfl [0, 2, 3, 4] [1] rfl (by decide) rfl (by decide) (by decide) rfl rfl (Nat.le_of_ble_eq_true rfl) (by rw [hR]; exact ⟨Nat.le_of_ble_eq_true rfl, Nat.le_of_ble_eq_true rfl⟩) (fun u H locs q104 hP hD hS => ?_)
              have hP : va_P g vwCl [(hd, oB 5 [.ref hdt, .ref hdk, .ref hds, .ref hdv, vI n, vI he0, vI fa, vI sr, vI sl, vI st0]), (hdt, aI ca 200 t), (hdk, aI ca 201 (zu tk k0 (-2))), (hds, aI ca 201 (zu sv k0 q0)), (hdv, aI ca 201 (zu va k0 v))] H := hP.sub [1, 0, 2, 3, 4] rfl
              have hD : va_D A [(hd, oB 5 [.ref hdt, .ref hdk, .ref hds, .ref hdv, vI n, vI he0, vI fa, vI sr, vI sl, vI st0]), (hdt, aI ca 200 t), (hdk, aI ca 201 (zu tk k0 (-2))), (hds, aI ca 201 (zu sv k0 q0)), (hdv, aI ca 201 (zu va k0 v))] := hD.sub [1, 0, 2, 3, 4] (by decide) rfl
              refine lv_iload_n hx hb dX5_cutNumber_107 rfl (lv_at hl 2 rfl) ?_
              have hvl : vl t n q0 = v := by unfold vl; rw [if_pos ⟨hq0.2, hdg⟩]; exact hv2.symm
              have hkd : ∀ x : Int, ((200 < v ∨ (t q0 = 48 ∧ 1 < i - q0)) → x = -3) → (¬ (200 < v ∨ (t q0 = 48 ∧ 1 < i - q0)) → x = -2) → x = kd t n q0 := by
                intro x h1 h2
                unfold kd
                rw [if_neg (by omega), if_pos hdg, ← hv2, ← hi2]
                split
                · rename_i q; exact h1 q
                · rename_i q; exact h2 q
              rw [hkd (-2) (by omega) (by omega), ← hvl] at hP hD
              refine zr_I hx hb hr hlk hQ () hP hD hS dX5_cutNumber_108 (Nat.le_of_ble_eq_true rfl) (Nat.le_of_ble_eq_true rfl) ?_
              show i = en t n q0
              unfold en; rw [if_pos ⟨hq0.2, hdg⟩]; exact hi2
            · exact absurd c91_ (by decide)
        · skip
          refine lv_iload_n hx hb dX5_cutNumber_65 rfl (lv_at hl 1 rfl) ?_
          refine lv_iload_n hx hb dX5_cutNumber_66 rfl (lv_at hl 3 rfl) ?_
          refine ri_sub hx hb dX5_cutNumber_67 (fun z67 e67 => ?_)
          refine lv_iconst (v := Int32.ofInt 1) hx hb dX5_cutNumber_68 rfl ?_
          refine ri_icmp_le (tgt := 76) hx hb dX5_cutNumber_69 (by decide) ⟨by omega, by omega⟩ ⟨by omega, by omega⟩ (fun c69 => ?_) (fun c69 => ?_)
          · skip
            refine lv_iconst (v := Int32.ofInt 0) hx hb dX5_cutNumber_76 rfl ?_
            refine lv_istore (lv' := [(5, vI 0), (4, vI v), (3, vI i), (0, .ref hd), (1, vI q0), (2, vI k0)]) hx hb dX5_cutNumber_77 hl (by decide) rfl (fun ls hl => ?_)
            refine lv_aload_n hx hb dX5_cutNumber_79 rfl (lv_at hl 3 rfl) ?_
            refine lv_iload_n hx hb dX5_cutNumber_80 rfl (lv_at hl 5 rfl) ?_
            refine lv_iload hx hb dX5_cutNumber_81 (lv_at hl 1 rfl) ?_
            refine lv_sipush (v := Int32.ofInt 200) hx hb dX5_cutNumber_83 (by decide) ?_
            refine ri_icmp_gt (tgt := 94) hx hb dX5_cutNumber_86 (by decide) ⟨by omega, by omega⟩ ⟨by omega, by omega⟩ (fun c86 => ?_) (fun c86 => ?_)
            · skip
              refine lv_bipush (v := Int32.ofInt (-3)) hx hb dX5_cutNumber_94 (by decide) ?_
              refine lv_goto (tgt := 101) hx hb dX5_cutNumber_96 (by decide) ?_
              refine lv_iload_n hx hb dX5_cutNumber_101 rfl (lv_at hl 4 rfl) ?_
              refine lv_iload hx hb dX5_cutNumber_102 (lv_at hl 1 rfl) ?_
              refine zc_VV (As := [vI k0, vI (-3), vI q0, vI v]) (rest := []) (wc := [(hd, oB 5 [.ref hdt, .ref hdk, .ref hds, .ref hdv, vI n, vI he0, vI fa, vI sr, vI sl, vI st0]), (hdk, aI ca 201 tk), (hds, aI ca 201 sv), (hdv, aI ca 201 va)]) (wr := [(hdt, aI ca 200 t)]) (k_X5_put l g ca hd hdt hdk hds hdv n he0 fa sr sl st0 tk sv va k0 (-3) q0 v (by first | assumption | omega)) dX5_cutNumber_104 (cwV 4 hts gX5_cutNumber_X5_put rfl rfl rfl (by decide +kernel) (by rw [hR]; exact ⟨Nat.le_of_ble_eq_true rfl, Nat.le_of_ble_eq_true rfl⟩)) ⟨hx, hb, hml, hown, hts⟩ hl.1 hK hP hD hS hA 0 rfl rfl rfl [0, 2, 3, 4] [1] rfl (by decide) rfl (by decide) (by decide) rfl rfl (Nat.le_of_ble_eq_true rfl) (by rw [hR]; exact ⟨Nat.le_of_ble_eq_true rfl, Nat.le_of_ble_eq_true rfl⟩) (fun u H locs q104 hP hD hS => ?_)
              have hP : va_P g vwCl [(hd, oB 5 [.ref hdt, .ref hdk, .ref hds, .ref hdv, vI n, vI he0, vI fa, vI sr, vI sl, vI st0]), (hdt, aI ca 200 t), (hdk, aI ca 201 (zu tk k0 (-3))), (hds, aI ca 201 (zu sv k0 q0)), (hdv, aI ca 201 (zu va k0 v))] H := hP.sub [1, 0, 2, 3, 4] rfl
              have hD : va_D A [(hd, oB 5 [.ref hdt, .ref hdk, .ref hds, .ref hdv, vI n, vI he0, vI fa, vI sr, vI sl, vI st0]), (hdt, aI ca 200 t), (hdk, aI ca 201 (zu tk k0 (-3))), (hds, aI ca 201 (zu sv k0 q0)), (hdv, aI ca 201 (zu va k0 v))] := hD.sub [1, 0, 2, 3, 4] (by decide) rfl
              refine lv_iload_n hx hb dX5_cutNumber_107 rfl (lv_at hl 2 rfl) ?_
              have hvl : vl t n q0 = v := by unfold vl; rw [if_pos ⟨hq0.2, hdg⟩]; exact hv2.symm
              have hkd : ∀ x : Int, ((200 < v ∨ (t q0 = 48 ∧ 1 < i - q0)) → x = -3) → (¬ (200 < v ∨ (t q0 = 48 ∧ 1 < i - q0)) → x = -2) → x = kd t n q0 := by
                intro x h1 h2
                unfold kd
                rw [if_neg (by omega), if_pos hdg, ← hv2, ← hi2]
                split
                · rename_i q; exact h1 q
                · rename_i q; exact h2 q
              rw [hkd (-3) (by omega) (by omega), ← hvl] at hP hD
              refine zr_I hx hb hr hlk hQ () hP hD hS dX5_cutNumber_108 (Nat.le_of_ble_eq_true rfl) (Nat.le_of_ble_eq_true rfl) ?_
              show i = en t n q0
              unfold en; rw [if_pos ⟨hq0.2, hdg⟩]; exact hi2
            · skip
              refine lv_iload hx hb dX5_cutNumber_89 (lv_at hl 0 rfl) ?_
              refine ri_if_eq (tgt := 99) hx hb dX5_cutNumber_91 (by decide) ⟨by omega, by omega⟩ (fun c91_ => ?_) (fun c91_ => ?_)
              · skip
                refine lv_bipush (v := Int32.ofInt (-2)) hx hb dX5_cutNumber_99 (by decide) ?_
                refine lv_iload_n hx hb dX5_cutNumber_101 rfl (lv_at hl 4 rfl) ?_
                refine lv_iload hx hb dX5_cutNumber_102 (lv_at hl 1 rfl) ?_
                refine zc_VV (As := [vI k0, vI (-2), vI q0, vI v]) (rest := []) (wc := [(hd, oB 5 [.ref hdt, .ref hdk, .ref hds, .ref hdv, vI n, vI he0, vI fa, vI sr, vI sl, vI st0]), (hdk, aI ca 201 tk), (hds, aI ca 201 sv), (hdv, aI ca 201 va)]) (wr := [(hdt, aI ca 200 t)]) (k_X5_put l g ca hd hdt hdk hds hdv n he0 fa sr sl st0 tk sv va k0 (-2) q0 v (by first | assumption | omega)) dX5_cutNumber_104 (cwV 4 hts gX5_cutNumber_X5_put rfl rfl rfl (by decide +kernel) (by rw [hR]; exact ⟨Nat.le_of_ble_eq_true rfl, Nat.le_of_ble_eq_true rfl⟩)) ⟨hx, hb, hml, hown, hts⟩ hl.1 hK hP hD hS hA 0 rfl rfl rfl [0, 2, 3, 4] [1] rfl (by decide) rfl (by decide) (by decide) rfl rfl (Nat.le_of_ble_eq_true rfl) (by rw [hR]; exact ⟨Nat.le_of_ble_eq_true rfl, Nat.le_of_ble_eq_true rfl⟩) (fun u H locs q104 hP hD hS => ?_)
                have hP : va_P g vwCl [(hd, oB 5 [.ref hdt, .ref hdk, .ref hds, .ref hdv, vI n, vI he0, vI fa, vI sr, vI sl, vI st0]), (hdt, aI ca 200 t), (hdk, aI ca 201 (zu tk k0 (-2))), (hds, aI ca 201 (zu sv k0 q0)), (hdv, aI ca 201 (zu va k0 v))] H := hP.sub [1, 0, 2, 3, 4] rfl
                have hD : va_D A [(hd, oB 5 [.ref hdt, .ref hdk, .ref hds, .ref hdv, vI n, vI he0, vI fa, vI sr, vI sl, vI st0]), (hdt, aI ca 200 t), (hdk, aI ca 201 (zu tk k0 (-2))), (hds, aI ca 201 (zu sv k0 q0)), (hdv, aI ca 201 (zu va k0 v))] := hD.sub [1, 0, 2, 3, 4] (by decide) rfl
                refine lv_iload_n hx hb dX5_cutNumber_107 rfl (lv_at hl 2 rfl) ?_
                have hvl : vl t n q0 = v := by unfold vl; rw [if_pos ⟨hq0.2, hdg⟩]; exact hv2.symm
                have hkd : ∀ x : Int, ((200 < v ∨ (t q0 = 48 ∧ 1 < i - q0)) → x = -3) → (¬ (200 < v ∨ (t q0 = 48 ∧ 1 < i - q0)) → x = -2) → x = kd t n q0 := by
                  intro x h1 h2
                  unfold kd
                  rw [if_neg (by omega), if_pos hdg, ← hv2, ← hi2]
                  split
                  · rename_i q; exact h1 q
                  · rename_i q; exact h2 q
                rw [hkd (-2) (by omega) (by omega), ← hvl] at hP hD
                refine zr_I hx hb hr hlk hQ () hP hD hS dX5_cutNumber_108 (Nat.le_of_ble_eq_true rfl) (Nat.le_of_ble_eq_true rfl) ?_
                show i = en t n q0
                unfold en; rw [if_pos ⟨hq0.2, hdg⟩]; exact hi2
              · exact absurd c91_ (by decide)
          · skip
            refine lv_iconst (v := Int32.ofInt 1) hx hb dX5_cutNumber_72 rfl ?_
            refine lv_goto (tgt := 77) hx hb dX5_cutNumber_73 (by decide) ?_
            refine lv_istore (lv' := [(5, vI 1), (4, vI v), (3, vI i), (0, .ref hd), (1, vI q0), (2, vI k0)]) hx hb dX5_cutNumber_77 hl (by decide) rfl (fun ls hl => ?_)
            refine lv_aload_n hx hb dX5_cutNumber_79 rfl (lv_at hl 3 rfl) ?_
            refine lv_iload_n hx hb dX5_cutNumber_80 rfl (lv_at hl 5 rfl) ?_
            refine lv_iload hx hb dX5_cutNumber_81 (lv_at hl 1 rfl) ?_
            refine lv_sipush (v := Int32.ofInt 200) hx hb dX5_cutNumber_83 (by decide) ?_
            refine ri_icmp_gt (tgt := 94) hx hb dX5_cutNumber_86 (by decide) ⟨by omega, by omega⟩ ⟨by omega, by omega⟩ (fun c86 => ?_) (fun c86 => ?_)
            · skip
              refine lv_bipush (v := Int32.ofInt (-3)) hx hb dX5_cutNumber_94 (by decide) ?_
              refine lv_goto (tgt := 101) hx hb dX5_cutNumber_96 (by decide) ?_
              refine lv_iload_n hx hb dX5_cutNumber_101 rfl (lv_at hl 4 rfl) ?_
              refine lv_iload hx hb dX5_cutNumber_102 (lv_at hl 1 rfl) ?_
              refine zc_VV (As := [vI k0, vI (-3), vI q0, vI v]) (rest := []) (wc := [(hd, oB 5 [.ref hdt, .ref hdk, .ref hds, .ref hdv, vI n, vI he0, vI fa, vI sr, vI sl, vI st0]), (hdk, aI ca 201 tk), (hds, aI ca 201 sv), (hdv, aI ca 201 va)]) (wr := [(hdt, aI ca 200 t)]) (k_X5_put l g ca hd hdt hdk hds hdv n he0 fa sr sl st0 tk sv va k0 (-3) q0 v (by first | assumption | omega)) dX5_cutNumber_104 (cwV 4 hts gX5_cutNumber_X5_put rfl rfl rfl (by decide +kernel) (by rw [hR]; exact ⟨Nat.le_of_ble_eq_true rfl, Nat.le_of_ble_eq_true rfl⟩)) ⟨hx, hb, hml, hown, hts⟩ hl.1 hK hP hD hS hA 0 rfl rfl rfl [0, 2, 3, 4] [1] rfl (by decide) rfl (by decide) (by decide) rfl rfl (Nat.le_of_ble_eq_true rfl) (by rw [hR]; exact ⟨Nat.le_of_ble_eq_true rfl, Nat.le_of_ble_eq_true rfl⟩) (fun u H locs q104 hP hD hS => ?_)
              have hP : va_P g vwCl [(hd, oB 5 [.ref hdt, .ref hdk, .ref hds, .ref hdv, vI n, vI he0, vI fa, vI sr, vI sl, vI st0]), (hdt, aI ca 200 t), (hdk, aI ca 201 (zu tk k0 (-3))), (hds, aI ca 201 (zu sv k0 q0)), (hdv, aI ca 201 (zu va k0 v))] H := hP.sub [1, 0, 2, 3, 4] rfl
              have hD : va_D A [(hd, oB 5 [.ref hdt, .ref hdk, .ref hds, .ref hdv, vI n, vI he0, vI fa, vI sr, vI sl, vI st0]), (hdt, aI ca 200 t), (hdk, aI ca 201 (zu tk k0 (-3))), (hds, aI ca 201 (zu sv k0 q0)), (hdv, aI ca 201 (zu va k0 v))] := hD.sub [1, 0, 2, 3, 4] (by decide) rfl
              refine lv_iload_n hx hb dX5_cutNumber_107 rfl (lv_at hl 2 rfl) ?_
              have hvl : vl t n q0 = v := by unfold vl; rw [if_pos ⟨hq0.2, hdg⟩]; exact hv2.symm
              have hkd : ∀ x : Int, ((200 < v ∨ (t q0 = 48 ∧ 1 < i - q0)) → x = -3) → (¬ (200 < v ∨ (t q0 = 48 ∧ 1 < i - q0)) → x = -2) → x = kd t n q0 := by
                intro x h1 h2
                unfold kd
                rw [if_neg (by omega), if_pos hdg, ← hv2, ← hi2]
                split
                · rename_i q; exact h1 q
                · rename_i q; exact h2 q
              rw [hkd (-3) (by omega) (by omega), ← hvl] at hP hD
              refine zr_I hx hb hr hlk hQ () hP hD hS dX5_cutNumber_108 (Nat.le_of_ble_eq_true rfl) (Nat.le_of_ble_eq_true rfl) ?_
              show i = en t n q0
              unfold en; rw [if_pos ⟨hq0.2, hdg⟩]; exact hi2
            · skip
              refine lv_iload hx hb dX5_cutNumber_89 (lv_at hl 0 rfl) ?_
              refine ri_if_eq (tgt := 99) hx hb dX5_cutNumber_91 (by decide) ⟨by omega, by omega⟩ (fun c91_ => ?_) (fun c91_ => ?_)
              · exact absurd c91_ (by decide)
              · skip
                refine lv_bipush (v := Int32.ofInt (-3)) hx hb dX5_cutNumber_94 (by decide) ?_
                refine lv_goto (tgt := 101) hx hb dX5_cutNumber_96 (by decide) ?_
                refine lv_iload_n hx hb dX5_cutNumber_101 rfl (lv_at hl 4 rfl) ?_
                refine lv_iload hx hb dX5_cutNumber_102 (lv_at hl 1 rfl) ?_
                refine zc_VV (As := [vI k0, vI (-3), vI q0, vI v]) (rest := []) (wc := [(hd, oB 5 [.ref hdt, .ref hdk, .ref hds, .ref hdv, vI n, vI he0, vI fa, vI sr, vI sl, vI st0]), (hdk, aI ca 201 tk), (hds, aI ca 201 sv), (hdv, aI ca 201 va)]) (wr := [(hdt, aI ca 200 t)]) (k_X5_put l g ca hd hdt hdk hds hdv n he0 fa sr sl st0 tk sv va k0 (-3) q0 v (by first | assumption | omega)) dX5_cutNumber_104 (cwV 4 hts gX5_cutNumber_X5_put rfl rfl rfl (by decide +kernel) (by rw [hR]; exact ⟨Nat.le_of_ble_eq_true rfl, Nat.le_of_ble_eq_true rfl⟩)) ⟨hx, hb, hml, hown, hts⟩ hl.1 hK hP hD hS hA 0 rfl rfl rfl [0, 2, 3, 4] [1] rfl (by decide) rfl (by decide) (by decide) rfl rfl (Nat.le_of_ble_eq_true rfl) (by rw [hR]; exact ⟨Nat.le_of_ble_eq_true rfl, Nat.le_of_ble_eq_true rfl⟩) (fun u H locs q104 hP hD hS => ?_)
                have hP : va_P g vwCl [(hd, oB 5 [.ref hdt, .ref hdk, .ref hds, .ref hdv, vI n, vI he0, vI fa, vI sr, vI sl, vI st0]), (hdt, aI ca 200 t), (hdk, aI ca 201 (zu tk k0 (-3))), (hds, aI ca 201 (zu sv k0 q0)), (hdv, aI ca 201 (zu va k0 v))] H := hP.sub [1, 0, 2, 3, 4] rfl
                have hD : va_D A [(hd, oB 5 [.ref hdt, .ref hdk, .ref hds, .ref hdv, vI n, vI he0, vI fa, vI sr, vI sl, vI st0]), (hdt, aI ca 200 t), (hdk, aI ca 201 (zu tk k0 (-3))), (hds, aI ca 201 (zu sv k0 q0)), (hdv, aI ca 201 (zu va k0 v))] := hD.sub [1, 0, 2, 3, 4] (by decide) rfl
                refine lv_iload_n hx hb dX5_cutNumber_107 rfl (lv_at hl 2 rfl) ?_
                have hvl : vl t n q0 = v := by unfold vl; rw [if_pos ⟨hq0.2, hdg⟩]; exact hv2.symm
                have hkd : ∀ x : Int, ((200 < v ∨ (t q0 = 48 ∧ 1 < i - q0)) → x = -3) → (¬ (200 < v ∨ (t q0 = 48 ∧ 1 < i - q0)) → x = -2) → x = kd t n q0 := by
                  intro x h1 h2
                  unfold kd
                  rw [if_neg (by omega), if_pos hdg, ← hv2, ← hi2]
                  split
                  · rename_i q; exact h1 q
                  · rename_i q; exact h2 q
                rw [hkd (-3) (by omega) (by omega), ← hvl] at hP hD
                refine zr_I hx hb hr hlk hQ () hP hD hS dX5_cutNumber_108 (Nat.le_of_ble_eq_true rfl) (Nat.le_of_ble_eq_true rfl) ?_
                show i = en t n q0
                unfold en; rw [if_pos ⟨hq0.2, hdg⟩]; exact hi2
      · skip
        refine lv_aload_n hx hb dX5_cutNumber_13 rfl (lv_at hl 2 rfl) ?_
        refine va_get (D := g) (ci := 5) (v := .ref hdt) (C := RX5) (T := TX5) (N := 10) hx hb hts inF_X5 hown hK.1 hP 0 rfl rfl 0 (by decide) lk_f11 (fun _ h9 => h9) rfl dX5_cutNumber_14 ?_
        refine lv_iload_n hx hb dX5_cutNumber_17 rfl (lv_at hl 1 rfl) ?_
        refine ra_ild hx hb hK hP 1 rfl dX5_cutNumber_18 ⟨by omega, by omega⟩ (by omega) ?_
        have ht19 := hT.2 i (by omega) (by omega)
        refine zc_SI (As := [vI (t i)]) (rest := []) (wc := []) (wr := [(hd, oB 5 [.ref hdt, .ref hdk, .ref hds, .ref hdv, vI n, vI he0, vI fa, vI sr, vI sl, vI st0]), (hdt, aI ca 200 t), (hdk, aI ca 201 tk), (hds, aI ca 201 sv), (hdv, aI ca 201 va)]) (k_X5_isDigit l g ca (t i) (by first | assumption | omega)) dX5_cutNumber_19 (va_cwS 1 hts gX5_cutNumber_X5_isDigit rfl rfl rfl (by decide +kernel) (by rw [hR]; exact ⟨Nat.le_of_ble_eq_true rfl, Nat.le_of_ble_eq_true rfl⟩)) ⟨hx, hb, hml, hown, hts⟩ hl.1 hK hP hD hS hA [] [0, 1, 2, 3, 4] rfl (by decide) rfl (by decide) (by decide) rfl rfl (Nat.le_of_ble_eq_true rfl) (by rw [hR]; exact ⟨Nat.le_of_ble_eq_true rfl, Nat.le_of_ble_eq_true rfl⟩) (fun z19 u H locs q19 hP hD hS => ?_)
        have q19 : (z19 = 1 ∧ 48 ≤ (t i) ∧ (t i) ≤ 57) ∨ (z19 = 0 ∧ ¬ (48 ≤ (t i) ∧ (t i) ≤ 57)) := q19
        have hP : va_P g vwCl [(hd, oB 5 [.ref hdt, .ref hdk, .ref hds, .ref hdv, vI n, vI he0, vI fa, vI sr, vI sl, vI st0]), (hdt, aI ca 200 t), (hdk, aI ca 201 tk), (hds, aI ca 201 sv), (hdv, aI ca 201 va)] H := hP.sub [0, 1, 2, 3, 4] rfl
        have hD : va_D A [(hd, oB 5 [.ref hdt, .ref hdk, .ref hds, .ref hdv, vI n, vI he0, vI fa, vI sr, vI sl, vI st0]), (hdt, aI ca 200 t), (hdk, aI ca 201 tk), (hds, aI ca 201 sv), (hdv, aI ca 201 va)] := hD.sub [0, 1, 2, 3, 4] (by decide) rfl
        refine ri_if_eq (tgt := 54) hx hb dX5_cutNumber_22 (by decide) ⟨by omega, by omega⟩ (fun c22 => ?_) (fun c22 => ?_)
        · skip
          refine lv_aload_n hx hb dX5_cutNumber_54 rfl (lv_at hl 2 rfl) ?_
          refine va_get (D := g) (ci := 5) (v := .ref hdt) (C := RX5) (T := TX5) (N := 10) hx hb hts inF_X5 hown hK.1 hP 0 rfl rfl 0 (by decide) lk_f11 (fun _ h9 => h9) rfl dX5_cutNumber_55 ?_
          refine lv_iload_n hx hb dX5_cutNumber_58 rfl (lv_at hl 3 rfl) ?_
          refine ra_ild hx hb hK hP 1 rfl dX5_cutNumber_59 ⟨by omega, by omega⟩ (by omega) ?_
          refine lv_bipush (v := Int32.ofInt 48) hx hb dX5_cutNumber_60 (by decide) ?_
          have hend : ¬ (i < n ∧ 48 ≤ t i ∧ t i ≤ 57) := by omega
          have hi2 : i = dep t n q0 := by rw [← hde, dep_e hend]
          have hv2 : v = dvp t n q0 0 := by rw [← hdv0, dvp_e hend]
          refine ri_icmp_ne (tgt := 76) hx hb dX5_cutNumber_62 (by decide) ⟨by omega, by omega⟩ ⟨by omega, by omega⟩ (fun c62 => ?_) (fun c62 => ?_)
          · skip
            refine lv_iconst (v := Int32.ofInt 0) hx hb dX5_cutNumber_76 rfl ?_
            refine lv_istore (lv' := [(5, vI 0), (4, vI v), (3, vI i), (0, .ref hd), (1, vI q0), (2, vI k0)]) hx hb dX5_cutNumber_77 hl (by decide) rfl (fun ls hl => ?_)
            refine lv_aload_n hx hb dX5_cutNumber_79 rfl (lv_at hl 3 rfl) ?_
            refine lv_iload_n hx hb dX5_cutNumber_80 rfl (lv_at hl 5 rfl) ?_
            refine lv_iload hx hb dX5_cutNumber_81 (lv_at hl 1 rfl) ?_
            refine lv_sipush (v := Int32.ofInt 200) hx hb dX5_cutNumber_83 (by decide) ?_
            refine ri_icmp_gt (tgt := 94) hx hb dX5_cutNumber_86 (by decide) ⟨by omega, by omega⟩ ⟨by omega, by omega⟩ (fun c86 => ?_) (fun c86 => ?_)
            · skip
              refine lv_bipush (v := Int32.ofInt (-3)) hx hb dX5_cutNumber_94 (by decide) ?_
              refine lv_goto (tgt := 101) hx hb dX5_cutNumber_96 (by decide) ?_
              refine lv_iload_n hx hb dX5_cutNumber_101 rfl (lv_at hl 4 rfl) ?_
              refine lv_iload hx hb dX5_cutNumber_102 (lv_at hl 1 rfl) ?_
              refine zc_VV (As := [vI k0, vI (-3), vI q0, vI v]) (rest := []) (wc := [(hd, oB 5 [.ref hdt, .ref hdk, .ref hds, .ref hdv, vI n, vI he0, vI fa, vI sr, vI sl, vI st0]), (hdk, aI ca 201 tk), (hds, aI ca 201 sv), (hdv, aI ca 201 va)]) (wr := [(hdt, aI ca 200 t)]) (k_X5_put l g ca hd hdt hdk hds hdv n he0 fa sr sl st0 tk sv va k0 (-3) q0 v (by first | assumption | omega)) dX5_cutNumber_104 (cwV 4 hts gX5_cutNumber_X5_put rfl rfl rfl (by decide +kernel) (by rw [hR]; exact ⟨Nat.le_of_ble_eq_true rfl, Nat.le_of_ble_eq_true rfl⟩)) ⟨hx, hb, hml, hown, hts⟩ hl.1 hK hP hD hS hA 0 rfl rfl rfl [0, 2, 3, 4] [1] rfl (by decide) rfl (by decide) (by decide) rfl rfl (Nat.le_of_ble_eq_true rfl) (by rw [hR]; exact ⟨Nat.le_of_ble_eq_true rfl, Nat.le_of_ble_eq_true rfl⟩) (fun u H locs q104 hP hD hS => ?_)
              have hP : va_P g vwCl [(hd, oB 5 [.ref hdt, .ref hdk, .ref hds, .ref hdv, vI n, vI he0, vI fa, vI sr, vI sl, vI st0]), (hdt, aI ca 200 t), (hdk, aI ca 201 (zu tk k0 (-3))), (hds, aI ca 201 (zu sv k0 q0)), (hdv, aI ca 201 (zu va k0 v))] H := hP.sub [1, 0, 2, 3, 4] rfl
              have hD : va_D A [(hd, oB 5 [.ref hdt, .ref hdk, .ref hds, .ref hdv, vI n, vI he0, vI fa, vI sr, vI sl, vI st0]), (hdt, aI ca 200 t), (hdk, aI ca 201 (zu tk k0 (-3))), (hds, aI ca 201 (zu sv k0 q0)), (hdv, aI ca 201 (zu va k0 v))] := hD.sub [1, 0, 2, 3, 4] (by decide) rfl
              refine lv_iload_n hx hb dX5_cutNumber_107 rfl (lv_at hl 2 rfl) ?_
              have hvl : vl t n q0 = v := by unfold vl; rw [if_pos ⟨hq0.2, hdg⟩]; exact hv2.symm
              have hkd : ∀ x : Int, ((200 < v ∨ (t q0 = 48 ∧ 1 < i - q0)) → x = -3) → (¬ (200 < v ∨ (t q0 = 48 ∧ 1 < i - q0)) → x = -2) → x = kd t n q0 := by
                intro x h1 h2
                unfold kd
                rw [if_neg (by omega), if_pos hdg, ← hv2, ← hi2]
                split
                · rename_i q; exact h1 q
                · rename_i q; exact h2 q
              rw [hkd (-3) (by omega) (by omega), ← hvl] at hP hD
              refine zr_I hx hb hr hlk hQ () hP hD hS dX5_cutNumber_108 (Nat.le_of_ble_eq_true rfl) (Nat.le_of_ble_eq_true rfl) ?_
              show i = en t n q0
              unfold en; rw [if_pos ⟨hq0.2, hdg⟩]; exact hi2
            · skip
              refine lv_iload hx hb dX5_cutNumber_89 (lv_at hl 0 rfl) ?_
              refine ri_if_eq (tgt := 99) hx hb dX5_cutNumber_91 (by decide) ⟨by omega, by omega⟩ (fun c91_ => ?_) (fun c91_ => ?_)
              · skip
                refine lv_bipush (v := Int32.ofInt (-2)) hx hb dX5_cutNumber_99 (by decide) ?_
                refine lv_iload_n hx hb dX5_cutNumber_101 rfl (lv_at hl 4 rfl) ?_
                refine lv_iload hx hb dX5_cutNumber_102 (lv_at hl 1 rfl) ?_
                refine zc_VV (As := [vI k0, vI (-2), vI q0, vI v]) (rest := []) (wc := [(hd, oB 5 [.ref hdt, .ref hdk, .ref hds, .ref hdv, vI n, vI he0, vI fa, vI sr, vI sl, vI st0]), (hdk, aI ca 201 tk), (hds, aI ca 201 sv), (hdv, aI ca 201 va)]) (wr := [(hdt, aI ca 200 t)]) (k_X5_put l g ca hd hdt hdk hds hdv n he0 fa sr sl st0 tk sv va k0 (-2) q0 v (by first | assumption | omega)) dX5_cutNumber_104 (cwV 4 hts gX5_cutNumber_X5_put rfl rfl rfl (by decide +kernel) (by rw [hR]; exact ⟨Nat.le_of_ble_eq_true rfl, Nat.le_of_ble_eq_true rfl⟩)) ⟨hx, hb, hml, hown, hts⟩ hl.1 hK hP hD hS hA 0 rfl rfl rfl [0, 2, 3, 4] [1] rfl (by decide) rfl (by decide) (by decide) rfl rfl (Nat.le_of_ble_eq_true rfl) (by rw [hR]; exact ⟨Nat.le_of_ble_eq_true rfl, Nat.le_of_ble_eq_true rfl⟩) (fun u H locs q104 hP hD hS => ?_)
                have hP : va_P g vwCl [(hd, oB 5 [.ref hdt, .ref hdk, .ref hds, .ref hdv, vI n, vI he0, vI fa, vI sr, vI sl, vI st0]), (hdt, aI ca 200 t), (hdk, aI ca 201 (zu tk k0 (-2))), (hds, aI ca 201 (zu sv k0 q0)), (hdv, aI ca 201 (zu va k0 v))] H := hP.sub [1, 0, 2, 3, 4] rfl
                have hD : va_D A [(hd, oB 5 [.ref hdt, .ref hdk, .ref hds, .ref hdv, vI n, vI he0, vI fa, vI sr, vI sl, vI st0]), (hdt, aI ca 200 t), (hdk, aI ca 201 (zu tk k0 (-2))), (hds, aI ca 201 (zu sv k0 q0)), (hdv, aI ca 201 (zu va k0 v))] := hD.sub [1, 0, 2, 3, 4] (by decide) rfl
                refine lv_iload_n hx hb dX5_cutNumber_107 rfl (lv_at hl 2 rfl) ?_
                have hvl : vl t n q0 = v := by unfold vl; rw [if_pos ⟨hq0.2, hdg⟩]; exact hv2.symm
                have hkd : ∀ x : Int, ((200 < v ∨ (t q0 = 48 ∧ 1 < i - q0)) → x = -3) → (¬ (200 < v ∨ (t q0 = 48 ∧ 1 < i - q0)) → x = -2) → x = kd t n q0 := by
                  intro x h1 h2
                  unfold kd
                  rw [if_neg (by omega), if_pos hdg, ← hv2, ← hi2]
                  split
                  · rename_i q; exact h1 q
                  · rename_i q; exact h2 q
                rw [hkd (-2) (by omega) (by omega), ← hvl] at hP hD
                refine zr_I hx hb hr hlk hQ () hP hD hS dX5_cutNumber_108 (Nat.le_of_ble_eq_true rfl) (Nat.le_of_ble_eq_true rfl) ?_
                show i = en t n q0
                unfold en; rw [if_pos ⟨hq0.2, hdg⟩]; exact hi2
              · exact absurd c91_ (by decide)
          · skip
            refine lv_iload_n hx hb dX5_cutNumber_65 rfl (lv_at hl 1 rfl) ?_
            refine lv_iload_n hx hb dX5_cutNumber_66 rfl (lv_at hl 3 rfl) ?_
            refine ri_sub hx hb dX5_cutNumber_67 (fun z67 e67 => ?_)
            refine lv_iconst (v := Int32.ofInt 1) hx hb dX5_cutNumber_68 rfl ?_
            refine ri_icmp_le (tgt := 76) hx hb dX5_cutNumber_69 (by decide) ⟨by omega, by omega⟩ ⟨by omega, by omega⟩ (fun c69 => ?_) (fun c69 => ?_)
            · skip
              refine lv_iconst (v := Int32.ofInt 0) hx hb dX5_cutNumber_76 rfl ?_
              refine lv_istore (lv' := [(5, vI 0), (4, vI v), (3, vI i), (0, .ref hd), (1, vI q0), (2, vI k0)]) hx hb dX5_cutNumber_77 hl (by decide) rfl (fun ls hl => ?_)
              refine lv_aload_n hx hb dX5_cutNumber_79 rfl (lv_at hl 3 rfl) ?_
              refine lv_iload_n hx hb dX5_cutNumber_80 rfl (lv_at hl 5 rfl) ?_
              refine lv_iload hx hb dX5_cutNumber_81 (lv_at hl 1 rfl) ?_
              refine lv_sipush (v := Int32.ofInt 200) hx hb dX5_cutNumber_83 (by decide) ?_
              refine ri_icmp_gt (tgt := 94) hx hb dX5_cutNumber_86 (by decide) ⟨by omega, by omega⟩ ⟨by omega, by omega⟩ (fun c86 => ?_) (fun c86 => ?_)
              · skip
                refine lv_bipush (v := Int32.ofInt (-3)) hx hb dX5_cutNumber_94 (by decide) ?_
                refine lv_goto (tgt := 101) hx hb dX5_cutNumber_96 (by decide) ?_
                refine lv_iload_n hx hb dX5_cutNumber_101 rfl (lv_at hl 4 rfl) ?_
                refine lv_iload hx hb dX5_cutNumber_102 (lv_at hl 1 rfl) ?_
                refine zc_VV (As := [vI k0, vI (-3), vI q0, vI v]) (rest := []) (wc := [(hd, oB 5 [.ref hdt, .ref hdk, .ref hds, .ref hdv, vI n, vI he0, vI fa, vI sr, vI sl, vI st0]), (hdk, aI ca 201 tk), (hds, aI ca 201 sv), (hdv, aI ca 201 va)]) (wr := [(hdt, aI ca 200 t)]) (k_X5_put l g ca hd hdt hdk hds hdv n he0 fa sr sl st0 tk sv va k0 (-3) q0 v (by first | assumption | omega)) dX5_cutNumber_104 (cwV 4 hts gX5_cutNumber_X5_put rfl rfl rfl (by decide +kernel) (by rw [hR]; exact ⟨Nat.le_of_ble_eq_true rfl, Nat.le_of_ble_eq_true rfl⟩)) ⟨hx, hb, hml, hown, hts⟩ hl.1 hK hP hD hS hA 0 rfl rfl rfl [0, 2, 3, 4] [1] rfl (by decide) rfl (by decide) (by decide) rfl rfl (Nat.le_of_ble_eq_true rfl) (by rw [hR]; exact ⟨Nat.le_of_ble_eq_true rfl, Nat.le_of_ble_eq_true rfl⟩) (fun u H locs q104 hP hD hS => ?_)
                have hP : va_P g vwCl [(hd, oB 5 [.ref hdt, .ref hdk, .ref hds, .ref hdv, vI n, vI he0, vI fa, vI sr, vI sl, vI st0]), (hdt, aI ca 200 t), (hdk, aI ca 201 (zu tk k0 (-3))), (hds, aI ca 201 (zu sv k0 q0)), (hdv, aI ca 201 (zu va k0 v))] H := hP.sub [1, 0, 2, 3, 4] rfl
                have hD : va_D A [(hd, oB 5 [.ref hdt, .ref hdk, .ref hds, .ref hdv, vI n, vI he0, vI fa, vI sr, vI sl, vI st0]), (hdt, aI ca 200 t), (hdk, aI ca 201 (zu tk k0 (-3))), (hds, aI ca 201 (zu sv k0 q0)), (hdv, aI ca 201 (zu va k0 v))] := hD.sub [1, 0, 2, 3, 4] (by decide) rfl
                refine lv_iload_n hx hb dX5_cutNumber_107 rfl (lv_at hl 2 rfl) ?_
                have hvl : vl t n q0 = v := by unfold vl; rw [if_pos ⟨hq0.2, hdg⟩]; exact hv2.symm
                have hkd : ∀ x : Int, ((200 < v ∨ (t q0 = 48 ∧ 1 < i - q0)) → x = -3) → (¬ (200 < v ∨ (t q0 = 48 ∧ 1 < i - q0)) → x = -2) → x = kd t n q0 := by
                  intro x h1 h2
                  unfold kd
                  rw [if_neg (by omega), if_pos hdg, ← hv2, ← hi2]
                  split
                  · rename_i q; exact h1 q
                  · rename_i q; exact h2 q
                rw [hkd (-3) (by omega) (by omega), ← hvl] at hP hD
                refine zr_I hx hb hr hlk hQ () hP hD hS dX5_cutNumber_108 (Nat.le_of_ble_eq_true rfl) (Nat.le_of_ble_eq_true rfl) ?_
                show i = en t n q0
                unfold en; rw [if_pos ⟨hq0.2, hdg⟩]; exact hi2
              · skip
                refine lv_iload hx hb dX5_cutNumber_89 (lv_at hl 0 rfl) ?_
                refine ri_if_eq (tgt := 99) hx hb dX5_cutNumber_91 (by decide) ⟨by omega, by omega⟩ (fun c91_ => ?_) (fun c91_ => ?_)
                · skip
                  refine lv_bipush (v := Int32.ofInt (-2)) hx hb dX5_cutNumber_99 (by decide) ?_
                  refine lv_iload_n hx hb dX5_cutNumber_101 rfl (lv_at hl 4 rfl) ?_
                  refine lv_iload hx hb dX5_cutNumber_102 (lv_at hl 1 rfl) ?_
                  refine zc_VV (As := [vI k0, vI (-2), vI q0, vI v]) (rest := []) (wc := [(hd, oB 5 [.ref hdt, .ref hdk, .ref hds, .ref hdv, vI n, vI he0, vI fa, vI sr, vI sl, vI st0]), (hdk, aI ca 201 tk), (hds, aI ca 201 sv), (hdv, aI ca 201 va)]) (wr := [(hdt, aI ca 200 t)]) (k_X5_put l g ca hd hdt hdk hds hdv n he0 fa sr sl st0 tk sv va k0 (-2) q0 v (by first | assumption | omega)) dX5_cutNumber_104 (cwV 4 hts gX5_cutNumber_X5_put rfl rfl rfl (by decide +kernel) (by rw [hR]; exact ⟨Nat.le_of_ble_eq_true rfl, Nat.le_of_ble_eq_true rfl⟩)) ⟨hx, hb, hml, hown, hts⟩ hl.1 hK hP hD hS hA 0 rfl rfl rfl [0, 2, 3, 4] [1] rfl (by decide) rfl (by decide) (by decide) rfl rfl (Nat.le_of_ble_eq_true rfl) (by rw [hR]; exact ⟨Nat.le_of_ble_eq_true rfl, Nat.le_of_ble_eq_true rfl⟩) (fun u H locs q104 hP hD hS => ?_)
                  have hP : va_P g vwCl [(hd, oB 5 [.ref hdt, .ref hdk, .ref hds, .ref hdv, vI n, vI he0, vI fa, vI sr, vI sl, vI st0]), (hdt, aI ca 200 t), (hdk, aI ca 201 (zu tk k0 (-2))), (hds, aI ca 201 (zu sv k0 q0)), (hdv, aI ca 201 (zu va k0 v))] H := hP.sub [1, 0, 2, 3, 4] rfl
                  have hD : va_D A [(hd, oB 5 [.ref hdt, .ref hdk, .ref hds, .ref hdv, vI n, vI he0, vI fa, vI sr, vI sl, vI st0]), (hdt, aI ca 200 t), (hdk, aI ca 201 (zu tk k0 (-2))), (hds, aI ca 201 (zu sv k0 q0)), (hdv, aI ca 201 (zu va k0 v))] := hD.sub [1, 0, 2, 3, 4] (by decide) rfl
                  refine lv_iload_n hx hb dX5_cutNumber_107 rfl (lv_at hl 2 rfl) ?_
                  have hvl : vl t n q0 = v := by unfold vl; rw [if_pos ⟨hq0.2, hdg⟩]; exact hv2.symm
                  have hkd : ∀ x : Int, ((200 < v ∨ (t q0 = 48 ∧ 1 < i - q0)) → x = -3) → (¬ (200 < v ∨ (t q0 = 48 ∧ 1 < i - q0)) → x = -2) → x = kd t n q0 := by
                    intro x h1 h2
                    unfold kd
                    rw [if_neg (by omega), if_pos hdg, ← hv2, ← hi2]
                    split
                    · rename_i q; exact h1 q
                    · rename_i q; exact h2 q
                  rw [hkd (-2) (by omega) (by omega), ← hvl] at hP hD
                  refine zr_I hx hb hr hlk hQ () hP hD hS dX5_cutNumber_108 (Nat.le_of_ble_eq_true rfl) (Nat.le_of_ble_eq_true rfl) ?_
                  show i = en t n q0
                  unfold en; rw [if_pos ⟨hq0.2, hdg⟩]; exact hi2
                · exact absurd c91_ (by decide)
            · skip
              refine lv_iconst (v := Int32.ofInt 1) hx hb dX5_cutNumber_72 rfl ?_
              refine lv_goto (tgt := 77) hx hb dX5_cutNumber_73 (by decide) ?_
              refine lv_istore (lv' := [(5, vI 1), (4, vI v), (3, vI i), (0, .ref hd), (1, vI q0), (2, vI k0)]) hx hb dX5_cutNumber_77 hl (by decide) rfl (fun ls hl => ?_)
              refine lv_aload_n hx hb dX5_cutNumber_79 rfl (lv_at hl 3 rfl) ?_
              refine lv_iload_n hx hb dX5_cutNumber_80 rfl (lv_at hl 5 rfl) ?_
              refine lv_iload hx hb dX5_cutNumber_81 (lv_at hl 1 rfl) ?_
              refine lv_sipush (v := Int32.ofInt 200) hx hb dX5_cutNumber_83 (by decide) ?_
              refine ri_icmp_gt (tgt := 94) hx hb dX5_cutNumber_86 (by decide) ⟨by omega, by omega⟩ ⟨by omega, by omega⟩ (fun c86 => ?_) (fun c86 => ?_)
              · skip
                refine lv_bipush (v := Int32.ofInt (-3)) hx hb dX5_cutNumber_94 (by decide) ?_
                refine lv_goto (tgt := 101) hx hb dX5_cutNumber_96 (by decide) ?_
                refine lv_iload_n hx hb dX5_cutNumber_101 rfl (lv_at hl 4 rfl) ?_
                refine lv_iload hx hb dX5_cutNumber_102 (lv_at hl 1 rfl) ?_
                refine zc_VV (As := [vI k0, vI (-3), vI q0, vI v]) (rest := []) (wc := [(hd, oB 5 [.ref hdt, .ref hdk, .ref hds, .ref hdv, vI n, vI he0, vI fa, vI sr, vI sl, vI st0]), (hdk, aI ca 201 tk), (hds, aI ca 201 sv), (hdv, aI ca 201 va)]) (wr := [(hdt, aI ca 200 t)]) (k_X5_put l g ca hd hdt hdk hds hdv n he0 fa sr sl st0 tk sv va k0 (-3) q0 v (by first | assumption | omega)) dX5_cutNumber_104 (cwV 4 hts gX5_cutNumber_X5_put rfl rfl rfl (by decide +kernel) (by rw [hR]; exact ⟨Nat.le_of_ble_eq_true rfl, Nat.le_of_ble_eq_true rfl⟩)) ⟨hx, hb, hml, hown, hts⟩ hl.1 hK hP hD hS hA 0 rfl rfl rfl [0, 2, 3, 4] [1] rfl (by decide) rfl (by decide) (by decide) rfl rfl (Nat.le_of_ble_eq_true rfl) (by rw [hR]; exact ⟨Nat.le_of_ble_eq_true rfl, Nat.le_of_ble_eq_true rfl⟩) (fun u H locs q104 hP hD hS => ?_)
                have hP : va_P g vwCl [(hd, oB 5 [.ref hdt, .ref hdk, .ref hds, .ref hdv, vI n, vI he0, vI fa, vI sr, vI sl, vI st0]), (hdt, aI ca 200 t), (hdk, aI ca 201 (zu tk k0 (-3))), (hds, aI ca 201 (zu sv k0 q0)), (hdv, aI ca 201 (zu va k0 v))] H := hP.sub [1, 0, 2, 3, 4] rfl
                have hD : va_D A [(hd, oB 5 [.ref hdt, .ref hdk, .ref hds, .ref hdv, vI n, vI he0, vI fa, vI sr, vI sl, vI st0]), (hdt, aI ca 200 t), (hdk, aI ca 201 (zu tk k0 (-3))), (hds, aI ca 201 (zu sv k0 q0)), (hdv, aI ca 201 (zu va k0 v))] := hD.sub [1, 0, 2, 3, 4] (by decide) rfl
                refine lv_iload_n hx hb dX5_cutNumber_107 rfl (lv_at hl 2 rfl) ?_
                have hvl : vl t n q0 = v := by unfold vl; rw [if_pos ⟨hq0.2, hdg⟩]; exact hv2.symm
                have hkd : ∀ x : Int, ((200 < v ∨ (t q0 = 48 ∧ 1 < i - q0)) → x = -3) → (¬ (200 < v ∨ (t q0 = 48 ∧ 1 < i - q0)) → x = -2) → x = kd t n q0 := by
                  intro x h1 h2
                  unfold kd
                  rw [if_neg (by omega), if_pos hdg, ← hv2, ← hi2]
                  split
                  · rename_i q; exact h1 q
                  · rename_i q; exact h2 q
                rw [hkd (-3) (by omega) (by omega), ← hvl] at hP hD
                refine zr_I hx hb hr hlk hQ () hP hD hS dX5_cutNumber_108 (Nat.le_of_ble_eq_true rfl) (Nat.le_of_ble_eq_true rfl) ?_
                show i = en t n q0
                unfold en; rw [if_pos ⟨hq0.2, hdg⟩]; exact hi2
              · skip
                refine lv_iload hx hb dX5_cutNumber_89 (lv_at hl 0 rfl) ?_
                refine ri_if_eq (tgt := 99) hx hb dX5_cutNumber_91 (by decide) ⟨by omega, by omega⟩ (fun c91_ => ?_) (fun c91_ => ?_)
                · exact absurd c91_ (by decide)
                · skip
                  refine lv_bipush (v := Int32.ofInt (-3)) hx hb dX5_cutNumber_94 (by decide) ?_
                  refine lv_goto (tgt := 101) hx hb dX5_cutNumber_96 (by decide) ?_
                  refine lv_iload_n hx hb dX5_cutNumber_101 rfl (lv_at hl 4 rfl) ?_
                  refine lv_iload hx hb dX5_cutNumber_102 (lv_at hl 1 rfl) ?_
                  refine zc_VV (As := [vI k0, vI (-3), vI q0, vI v]) (rest := []) (wc := [(hd, oB 5 [.ref hdt, .ref hdk, .ref hds, .ref hdv, vI n, vI he0, vI fa, vI sr, vI sl, vI st0]), (hdk, aI ca 201 tk), (hds, aI ca 201 sv), (hdv, aI ca 201 va)]) (wr := [(hdt, aI ca 200 t)]) (k_X5_put l g ca hd hdt hdk hds hdv n he0 fa sr sl st0 tk sv va k0 (-3) q0 v (by first | assumption | omega)) dX5_cutNumber_104 (cwV 4 hts gX5_cutNumber_X5_put rfl rfl rfl (by decide +kernel) (by rw [hR]; exact ⟨Nat.le_of_ble_eq_true rfl, Nat.le_of_ble_eq_true rfl⟩)) ⟨hx, hb, hml, hown, hts⟩ hl.1 hK hP hD hS hA 0 rfl rfl rfl [0, 2, 3, 4] [1] rfl (by decide) rfl (by decide) (by decide) rfl rfl (Nat.le_of_ble_eq_true rfl) (by rw [hR]; exact ⟨Nat.le_of_ble_eq_true rfl, Nat.le_of_ble_eq_true rfl⟩) (fun u H locs q104 hP hD hS => ?_)
                  have hP : va_P g vwCl [(hd, oB 5 [.ref hdt, .ref hdk, .ref hds, .ref hdv, vI n, vI he0, vI fa, vI sr, vI sl, vI st0]), (hdt, aI ca 200 t), (hdk, aI ca 201 (zu tk k0 (-3))), (hds, aI ca 201 (zu sv k0 q0)), (hdv, aI ca 201 (zu va k0 v))] H := hP.sub [1, 0, 2, 3, 4] rfl
                  have hD : va_D A [(hd, oB 5 [.ref hdt, .ref hdk, .ref hds, .ref hdv, vI n, vI he0, vI fa, vI sr, vI sl, vI st0]), (hdt, aI ca 200 t), (hdk, aI ca 201 (zu tk k0 (-3))), (hds, aI ca 201 (zu sv k0 q0)), (hdv, aI ca 201 (zu va k0 v))] := hD.sub [1, 0, 2, 3, 4] (by decide) rfl
                  refine lv_iload_n hx hb dX5_cutNumber_107 rfl (lv_at hl 2 rfl) ?_
                  have hvl : vl t n q0 = v := by unfold vl; rw [if_pos ⟨hq0.2, hdg⟩]; exact hv2.symm
                  have hkd : ∀ x : Int, ((200 < v ∨ (t q0 = 48 ∧ 1 < i - q0)) → x = -3) → (¬ (200 < v ∨ (t q0 = 48 ∧ 1 < i - q0)) → x = -2) → x = kd t n q0 := by
                    intro x h1 h2
                    unfold kd
                    rw [if_neg (by omega), if_pos hdg, ← hv2, ← hi2]
                    split
                    · rename_i q; exact h1 q
                    · rename_i q; exact h2 q
                  rw [hkd (-3) (by omega) (by omega), ← hvl] at hP hD
                  refine zr_I hx hb hr hlk hQ () hP hD hS dX5_cutNumber_108 (Nat.le_of_ble_eq_true rfl) (Nat.le_of_ble_eq_true rfl) ?_
                  show i = en t n q0
                  unfold en; rw [if_pos ⟨hq0.2, hdg⟩]; exact hi2
        · skip
          refine lv_iload hx hb dX5_cutNumber_25 (lv_at hl 0 rfl) ?_
          refine lv_bipush (v := Int32.ofInt 10) hx hb dX5_cutNumber_27 (by decide) ?_
          refine ri_mul hx hb dX5_cutNumber_29 (fun z29 e29 => ?_)
          refine lv_aload_n hx hb dX5_cutNumber_30 rfl (lv_at hl 2 rfl) ?_
          refine va_get (D := g) (ci := 5) (v := .ref hdt) (C := RX5) (T := TX5) (N := 10) hx hb hts inF_X5 hown hK.1 hP 0 rfl rfl 0 (by decide) lk_f11 (fun _ h9 => h9) rfl dX5_cutNumber_31 ?_
          refine lv_iload_n hx hb dX5_cutNumber_34 rfl (lv_at hl 1 rfl) ?_
          refine ra_ild hx hb hK hP 1 rfl dX5_cutNumber_35 ⟨by omega, by omega⟩ (by omega) ?_
          refine ri_add hx hb dX5_cutNumber_36 (fun z36 e36 => ?_)
          refine lv_bipush (v := Int32.ofInt 48) hx hb dX5_cutNumber_37 (by decide) ?_
          refine ri_sub hx hb dX5_cutNumber_39 (fun z39 e39 => ?_)
          refine lv_sipush (v := Int32.ofInt 201) hx hb dX5_cutNumber_40 (by decide) ?_
          refine ri_min hx hb (by rw [hml]; exact hl.1.symm) hown lk_min122 lk_mins lk_mathz lk_minc (by rw [hR]; exact Nat.le_of_ble_eq_true rfl) (by rw [hR]; exact Nat.le_of_ble_eq_true rfl) (by rw [hR]; exact Nat.le_of_ble_eq_true rfl) (by rw [hR]; exact Nat.le_of_ble_eq_true rfl) ⟨by omega, by omega⟩ ⟨by omega, by omega⟩ dX5_cutNumber_43 (fun z43 e43 => ?_)
          refine lv_istore (lv' := [(4, vI z43), (3, vI i), (0, .ref hd), (1, vI q0), (2, vI k0)]) hx hb dX5_cutNumber_46 hl (by decide) rfl (fun ls hl => ?_)
          obtain ⟨z48, e48⟩ : ∃ q : Int, q = i + 1 := ⟨_, rfl⟩
          refine ri_inc (lv' := [(3, vI z48), (4, vI z43), (0, .ref hd), (1, vI q0), (2, vI k0)]) hx hb dX5_cutNumber_48 hl (k := 1) rfl (by decide) z48 e48 rfl (fun ls hl => ?_)
          refine lv_goto (tgt := 5) hx hb dX5_cutNumber_51 (by decide) ?_
          exact ih5 z48 z43 (by first | assumption | omega) (by rw [← hde, dep_s (p := i) (by omega) (by omega), e48]) (by rw [← hdv0, dvp_s (p := i) (by omega) (by omega), e48, e43, e39, e36, e29]) (by rw [e43]; split <;> omega) (by omega) _ _ hP hD hS ls (lv_sub hl [1, 0, 2, 3, 4] rfl)
  exact L5 _ q0 0 (by first | assumption | omega) (by rfl) (by rfl) (by first | assumption | omega) (Nat.lt_succ_self _) _ _ hP hD hS ls (lv_sub hl [0, 1, 2, 3, 4] rfl)
set_option maxHeartbeats 4000000 in
set_option maxRecDepth 100000 in
theorem k_X5_cut (l : Launch) (g : va_G) (ca : Nat → ClassId) (hd : Nat) (hdt : Nat) (hdk : Nat) (hds : Nat) (hdv : Nat) (n : Int) (he0 : Int) (fa : Int) (sr : Int) (sl : Int) (st0 : Int) (t : Int → Int) (tk : Int → Int) (sv : Int → Int) (va : Int → Int) (hT : TXok t n) : zV (S := (Int → Int) × (Int → Int) × (Int → Int)) l yX5_cut wsX5_cut ({ frames := 2, cells := 0, slots := 0, locals := 49 } : Room) g ca [.ref hd] [(hd, oB 5 [.ref hdt, .ref hdk, .ref hds, .ref hdv, vI n, vI he0, vI fa, vI sr, vI sl, vI st0]), (hdt, aI ca 200 t), (hdk, aI ca 201 tk), (hds, aI ca 201 sv), (hdv, aI ca 201 va)] (fun (u : (Int → Int) × (Int → Int) × (Int → Int)) => ∃ m9 : Int, TOK t n u.1 u.2.1 u.2.2 m9) (fun (u : (Int → Int) × (Int → Int) × (Int → Int)) => [(hd, oB 5 [.ref hdt, .ref hdk, .ref hds, .ref hdv, vI n, vI he0, vI fa, vI sr, vI sl, vI st0]), (hdt, aI ca 200 t), (hdk, aI ca 201 u.1), (hds, aI ca 201 u.2.1), (hdv, aI ca 201 u.2.2)]) 0 0 := by
  refine zm_V (cc := cX5_cut) (maxL := 4) (ret := none) (by decide) rfl (Nat.le_of_ble_eq_true rfl) ?_
  intro p e s m below meth c A ls R args Q hR hargs hQ hx hb hml hr hts hown hlk hnm hK hP hD hA hS hl
  have hown : s.vm.findClass RX5 = some m.cls := hown
  have hl : lv_has ls 4 [(0, .ref hd)] := hl
  have lk_f24 : (Cond.fieldLink RX5 24 "DripRings$Reader" "length" "I").before args s = true := hts _ (by decide +kernel)
  have inF_X5 : ∀ w ∈ wsX50, w ∈ wsX5_cut := by decide +kernel
  have lk_f11 : (Cond.fieldLink RX5 11 "DripRings$Reader" "text" "[I").before args s = true := hts _ (by decide +kernel)
  have hn := hT.1
  refine lv_iconst (v := Int32.ofInt 0) hx hb dX5_cut_0 rfl ?_
  refine lv_istore_n (lv' := [(1, vI 0), (0, .ref hd)]) hx hb dX5_cut_1 rfl hl (by decide) rfl (fun ls hl => ?_)
  refine lv_iconst (v := Int32.ofInt 0) hx hb dX5_cut_2 rfl ?_
  refine lv_istore_n (lv' := [(2, vI 0), (1, vI 0), (0, .ref hd)]) hx hb dX5_cut_3 rfl hl (by decide) rfl (fun ls hl => ?_)
  have L4 : ∀ (N4 : Nat) (mm : Int) (a : Int) (f1 : Int → Int) (f2 : Int → Int) (f3 : Int → Int) (hC : CUT t n f1 f2 f3 mm a) (hμ : (n - a).toNat < N4) (H : Heap) (locs : List Loc) (hP : va_P g vwCl [(hd, oB 5 [.ref hdt, .ref hdk, .ref hds, .ref hdv, vI n, vI he0, vI fa, vI sr, vI sl, vI st0]), (hdt, aI ca 200 t), (hdk, aI ca 201 f1), (hds, aI ca 201 f2), (hdv, aI ca 201 f3)] H) (hD : va_D A [(hd, oB 5 [.ref hdt, .ref hdk, .ref hds, .ref hdv, vI n, vI he0, vI fa, vI sr, vI sl, vI st0]), (hdt, aI ca 200 t), (hdk, aI ca 201 f1), (hds, aI ca 201 f2), (hdv, aI ca 201 f3)]) (hS : va_S A s.heap H locs) (ls : Array Slot) (hl : lv_has ls 4 [(2, vI a), (1, vI mm), (0, .ref hd)]), W p l e R s m args below meth c H locs 0 0 Q (F0 m 4 ls []) := by
    intro N4; induction N4 with
    | zero => intro mm a f1 f2 f3 hC hμ; exact absurd hμ (Nat.not_lt_zero _)
    | succ N4 ih4 =>
      intro mm a f1 f2 f3 hC hμ H locs hP hD hS ls hl
      have hC1 := hC.1
      refine lv_iload_n hx hb dX5_cut_4 rfl (lv_at hl 0 rfl) ?_
      refine lv_aload_n hx hb dX5_cut_5 rfl (lv_at hl 2 rfl) ?_
      refine va_get (D := g) (ci := 5) (v := vI n) (C := RX5) (T := TX5) (N := 10) hx hb hts inF_X5 hown hK.1 hP 0 rfl rfl 4 (by decide) lk_f24 (fun _ h9 => h9) rfl dX5_cut_6 ?_
      refine ri_icmp_ge (tgt := 90) hx hb dX5_cut_9 (by decide) ⟨by omega, by omega⟩ ⟨by omega, by omega⟩ (fun c9 => ?_) (fun c9 => ?_)
      · skip
        refine lv_aload_n hx hb dX5_cut_90 rfl (lv_at hl 2 rfl) ?_
        refine lv_iload_n hx hb dX5_cut_91 rfl (lv_at hl 1 rfl) ?_
        refine lv_iconst (v := Int32.ofInt (-1)) hx hb dX5_cut_92 rfl ?_
        refine lv_aload_n hx hb dX5_cut_93 rfl (lv_at hl 2 rfl) ?_
        refine va_get (D := g) (ci := 5) (v := vI n) (C := RX5) (T := TX5) (N := 10) hx hb hts inF_X5 hown hK.1 hP 0 rfl rfl 4 (by decide) lk_f24 (fun _ h9 => h9) rfl dX5_cut_94 ?_
        refine lv_iconst (v := Int32.ofInt 0) hx hb dX5_cut_97 rfl ?_
        refine zc_VV (As := [vI mm, vI (-1), vI n, vI 0]) (rest := []) (wc := [(hd, oB 5 [.ref hdt, .ref hdk, .ref hds, .ref hdv, vI n, vI he0, vI fa, vI sr, vI sl, vI st0]), (hdk, aI ca 201 f1), (hds, aI ca 201 f2), (hdv, aI ca 201 f3)]) (wr := [(hdt, aI ca 200 t)]) (k_X5_put l g ca hd hdt hdk hds hdv n he0 fa sr sl st0 f1 f2 f3 mm (-1) n 0 (by first | assumption | omega)) dX5_cut_98 (cwV 4 hts gX5_cut_X5_put rfl rfl rfl (by decide +kernel) (by rw [hR]; exact ⟨Nat.le_of_ble_eq_true rfl, Nat.le_of_ble_eq_true rfl⟩)) ⟨hx, hb, hml, hown, hts⟩ hl.1 hK hP hD hS hA 0 rfl rfl rfl [0, 2, 3, 4] [1] rfl (by decide) rfl (by decide) (by decide) rfl rfl (Nat.le_of_ble_eq_true rfl) (by rw [hR]; exact ⟨Nat.le_of_ble_eq_true rfl, Nat.le_of_ble_eq_true rfl⟩) (fun u H locs q98 hP hD hS => ?_)
        have hP : va_P g vwCl [(hd, oB 5 [.ref hdt, .ref hdk, .ref hds, .ref hdv, vI n, vI he0, vI fa, vI sr, vI sl, vI st0]), (hdt, aI ca 200 t), (hdk, aI ca 201 (zu f1 mm (-1))), (hds, aI ca 201 (zu f2 mm n)), (hdv, aI ca 201 (zu f3 mm 0))] H := hP.sub [1, 0, 2, 3, 4] rfl
        have hD : va_D A [(hd, oB 5 [.ref hdt, .ref hdk, .ref hds, .ref hdv, vI n, vI he0, vI fa, vI sr, vI sl, vI st0]), (hdt, aI ca 200 t), (hdk, aI ca 201 (zu f1 mm (-1))), (hds, aI ca 201 (zu f2 mm n)), (hdv, aI ca 201 (zu f3 mm 0))] := hD.sub [1, 0, 2, 3, 4] (by decide) rfl
        refine zr_V hx hb hr hlk hQ (zu f1 mm (-1), zu f2 mm n, zu f3 mm 0) hP hD hS dX5_cut_101 (Nat.le_of_ble_eq_true rfl) (Nat.le_of_ble_eq_true rfl) ?_
        show ∃ m9 : Int, TOK t n (zu f1 mm (-1)) (zu f2 mm n) (zu f3 mm 0) m9
        exact ⟨mm, CUT_e hC hn.2 (by omega)⟩
      · skip
        have ht12 := hT.2 a (by omega) (by omega)
        refine lv_iload_n hx hb dX5_cut_12 rfl (lv_at hl 0 rfl) ?_
        refine lv_iconst (v := Int32.ofInt 1) hx hb dX5_cut_13 rfl ?_
        refine ri_add hx hb dX5_cut_14 (fun z14 e14 => ?_)
        refine lv_istore_n (lv' := [(3, vI z14), (2, vI a), (1, vI mm), (0, .ref hd)]) hx hb dX5_cut_15 rfl hl (by decide) rfl (fun ls hl => ?_)
        refine lv_aload_n hx hb dX5_cut_16 rfl (lv_at hl 3 rfl) ?_
        refine va_get (D := g) (ci := 5) (v := .ref hdt) (C := RX5) (T := TX5) (N := 10) hx hb hts inF_X5 hown hK.1 hP 0 rfl rfl 0 (by decide) lk_f11 (fun _ h9 => h9) rfl dX5_cut_17 ?_
        refine lv_iload_n hx hb dX5_cut_20 rfl (lv_at hl 1 rfl) ?_
        refine ra_ild hx hb hK hP 1 rfl dX5_cut_21 ⟨by omega, by omega⟩ (by omega) ?_
        refine zc_SI (As := [vI (t a)]) (rest := []) (wc := []) (wr := [(hd, oB 5 [.ref hdt, .ref hdk, .ref hds, .ref hdv, vI n, vI he0, vI fa, vI sr, vI sl, vI st0]), (hdt, aI ca 200 t), (hdk, aI ca 201 f1), (hds, aI ca 201 f2), (hdv, aI ca 201 f3)]) (k_X5_isDigit l g ca (t a) (by first | assumption | omega)) dX5_cut_22 (va_cwS 1 hts gX5_cut_X5_isDigit rfl rfl rfl (by decide +kernel) (by rw [hR]; exact ⟨Nat.le_of_ble_eq_true rfl, Nat.le_of_ble_eq_true rfl⟩)) ⟨hx, hb, hml, hown, hts⟩ hl.1 hK hP hD hS hA [] [0, 1, 2, 3, 4] rfl (by decide) rfl (by decide) (by decide) rfl rfl (Nat.le_of_ble_eq_true rfl) (by rw [hR]; exact ⟨Nat.le_of_ble_eq_true rfl, Nat.le_of_ble_eq_true rfl⟩) (fun z22 u H locs q22 hP hD hS => ?_)
        have q22 : (z22 = 1 ∧ 48 ≤ (t a) ∧ (t a) ≤ 57) ∨ (z22 = 0 ∧ ¬ (48 ≤ (t a) ∧ (t a) ≤ 57)) := q22
        have hP : va_P g vwCl [(hd, oB 5 [.ref hdt, .ref hdk, .ref hds, .ref hdv, vI n, vI he0, vI fa, vI sr, vI sl, vI st0]), (hdt, aI ca 200 t), (hdk, aI ca 201 f1), (hds, aI ca 201 f2), (hdv, aI ca 201 f3)] H := hP.sub [0, 1, 2, 3, 4] rfl
        have hD : va_D A [(hd, oB 5 [.ref hdt, .ref hdk, .ref hds, .ref hdv, vI n, vI he0, vI fa, vI sr, vI sl, vI st0]), (hdt, aI ca 200 t), (hdk, aI ca 201 f1), (hds, aI ca 201 f2), (hdv, aI ca 201 f3)] := hD.sub [0, 1, 2, 3, 4] (by decide) rfl
        refine ri_if_eq (tgt := 41) hx hb dX5_cut_25 (by decide) ⟨by omega, by omega⟩ (fun c25 => ?_) (fun c25 => ?_)
        · skip
          refine lv_aload_n hx hb dX5_cut_41 rfl (lv_at hl 3 rfl) ?_
          refine va_get (D := g) (ci := 5) (v := .ref hdt) (C := RX5) (T := TX5) (N := 10) hx hb hts inF_X5 hown hK.1 hP 0 rfl rfl 0 (by decide) lk_f11 (fun _ h9 => h9) rfl dX5_cut_42 ?_
          refine lv_iload_n hx hb dX5_cut_45 rfl (lv_at hl 1 rfl) ?_
          refine ra_ild hx hb hK hP 1 rfl dX5_cut_46 ⟨by omega, by omega⟩ (by omega) ?_
          refine lv_bipush (v := Int32.ofInt 32) hx hb dX5_cut_47 (by decide) ?_
          refine ri_icmp_eq (tgt := 85) hx hb dX5_cut_49 (by decide) ⟨by omega, by omega⟩ ⟨by omega, by omega⟩ (fun c49 => ?_) (fun c49 => ?_)
          · skip
            refine lv_iload_n hx hb dX5_cut_85 rfl (lv_at hl 0 rfl) ?_
            refine lv_istore_n (lv' := [(2, vI z14), (3, vI z14), (1, vI mm), (0, .ref hd)]) hx hb dX5_cut_86 rfl hl (by decide) rfl (fun ls hl => ?_)
            refine lv_goto (tgt := 4) hx hb dX5_cut_87 (by decide) ?_
            exact ih4 mm z14 f1 f2 f3 (by first | (rw [show z14 = a + 1 by omega]; exact CUT_b hC (by omega) (by omega)) | (rw [q31, e35]; exact CUT_t hC (by omega) (by omega) rfl rfl) | (rw [show z14 = en t n a by unfold en; rw [if_neg (by omega)]; omega, e82]; exact CUT_t hC (by omega) (by omega) (by unfold kd; rw [if_neg (by omega), if_neg (by omega)]; first | rw [if_pos (by omega)] | rw [if_neg (by omega)]) (by unfold vl; rw [if_neg (by omega)]))) (by first | omega | (have := en_bd t (show a < n by omega); omega)) _ _ hP hD hS ls (lv_sub hl [0, 2, 3] rfl)
          · skip
            refine lv_aload_n hx hb dX5_cut_52 rfl (lv_at hl 3 rfl) ?_
            refine lv_iload_n hx hb dX5_cut_53 rfl (lv_at hl 2 rfl) ?_
            refine lv_aload_n hx hb dX5_cut_54 rfl (lv_at hl 3 rfl) ?_
            refine va_get (D := g) (ci := 5) (v := .ref hdt) (C := RX5) (T := TX5) (N := 10) hx hb hts inF_X5 hown hK.1 hP 0 rfl rfl 0 (by decide) lk_f11 (fun _ h9 => h9) rfl dX5_cut_55 ?_
            refine lv_iload_n hx hb dX5_cut_58 rfl (lv_at hl 1 rfl) ?_
            refine ra_ild hx hb hK hP 1 rfl dX5_cut_59 ⟨by omega, by omega⟩ (by omega) ?_
            refine zc_SI (As := [vI (t a)]) (rest := [vI mm, .ref hd]) (wc := []) (wr := [(hd, oB 5 [.ref hdt, .ref hdk, .ref hds, .ref hdv, vI n, vI he0, vI fa, vI sr, vI sl, vI st0]), (hdt, aI ca 200 t), (hdk, aI ca 201 f1), (hds, aI ca 201 f2), (hdv, aI ca 201 f3)]) (k_X5_isSign l g ca (t a) (by first | assumption | omega)) dX5_cut_60 (va_cwS 1 hts gX5_cut_X5_isSign rfl rfl rfl (by decide +kernel) (by rw [hR]; exact ⟨Nat.le_of_ble_eq_true rfl, Nat.le_of_ble_eq_true rfl⟩)) ⟨hx, hb, hml, hown, hts⟩ hl.1 hK hP hD hS hA [] [0, 1, 2, 3, 4] rfl (by decide) rfl (by decide) (by decide) rfl rfl (Nat.le_of_ble_eq_true rfl) (by rw [hR]; exact ⟨Nat.le_of_ble_eq_true rfl, Nat.le_of_ble_eq_true rfl⟩) (fun z60 u H locs q60 hP hD hS => ?_)
            have q60 : (z60 = 1 ∧ ((t a) = 114 ∨ (t a) = 108 ∨ (t a) = 116 ∨ (t a) = 112 ∨ (t a) = 59)) ∨ (z60 = 0 ∧ ¬ ((t a) = 114 ∨ (t a) = 108 ∨ (t a) = 116 ∨ (t a) = 112 ∨ (t a) = 59)) := q60
            have hP : va_P g vwCl [(hd, oB 5 [.ref hdt, .ref hdk, .ref hds, .ref hdv, vI n, vI he0, vI fa, vI sr, vI sl, vI st0]), (hdt, aI ca 200 t), (hdk, aI ca 201 f1), (hds, aI ca 201 f2), (hdv, aI ca 201 f3)] H := hP.sub [0, 1, 2, 3, 4] rfl
            have hD : va_D A [(hd, oB 5 [.ref hdt, .ref hdk, .ref hds, .ref hdv, vI n, vI he0, vI fa, vI sr, vI sl, vI st0]), (hdt, aI ca 200 t), (hdk, aI ca 201 f1), (hds, aI ca 201 f2), (hdv, aI ca 201 f3)] := hD.sub [0, 1, 2, 3, 4] (by decide) rfl
            refine ri_if_eq (tgt := 75) hx hb dX5_cut_63 (by decide) ⟨by omega, by omega⟩ (fun c63 => ?_) (fun c63 => ?_)
            · skip
              refine lv_bipush (v := Int32.ofInt (-3)) hx hb dX5_cut_75 (by decide) ?_
              refine lv_iload_n hx hb dX5_cut_77 rfl (lv_at hl 1 rfl) ?_
              refine lv_iconst (v := Int32.ofInt 0) hx hb dX5_cut_78 rfl ?_
              refine zc_VV (As := [vI mm, vI (-3), vI a, vI 0]) (rest := []) (wc := [(hd, oB 5 [.ref hdt, .ref hdk, .ref hds, .ref hdv, vI n, vI he0, vI fa, vI sr, vI sl, vI st0]), (hdk, aI ca 201 f1), (hds, aI ca 201 f2), (hdv, aI ca 201 f3)]) (wr := [(hdt, aI ca 200 t)]) (k_X5_put l g ca hd hdt hdk hds hdv n he0 fa sr sl st0 f1 f2 f3 mm (-3) a 0 (by first | assumption | omega)) dX5_cut_79 (cwV 4 hts gX5_cut_X5_put rfl rfl rfl (by decide +kernel) (by rw [hR]; exact ⟨Nat.le_of_ble_eq_true rfl, Nat.le_of_ble_eq_true rfl⟩)) ⟨hx, hb, hml, hown, hts⟩ hl.1 hK hP hD hS hA 0 rfl rfl rfl [0, 2, 3, 4] [1] rfl (by decide) rfl (by decide) (by decide) rfl rfl (Nat.le_of_ble_eq_true rfl) (by rw [hR]; exact ⟨Nat.le_of_ble_eq_true rfl, Nat.le_of_ble_eq_true rfl⟩) (fun u H locs q79 hP hD hS => ?_)
              have hP : va_P g vwCl [(hd, oB 5 [.ref hdt, .ref hdk, .ref hds, .ref hdv, vI n, vI he0, vI fa, vI sr, vI sl, vI st0]), (hdt, aI ca 200 t), (hdk, aI ca 201 (zu f1 mm (-3))), (hds, aI ca 201 (zu f2 mm a)), (hdv, aI ca 201 (zu f3 mm 0))] H := hP.sub [1, 0, 2, 3, 4] rfl
              have hD : va_D A [(hd, oB 5 [.ref hdt, .ref hdk, .ref hds, .ref hdv, vI n, vI he0, vI fa, vI sr, vI sl, vI st0]), (hdt, aI ca 200 t), (hdk, aI ca 201 (zu f1 mm (-3))), (hds, aI ca 201 (zu f2 mm a)), (hdv, aI ca 201 (zu f3 mm 0))] := hD.sub [1, 0, 2, 3, 4] (by decide) rfl
              obtain ⟨z82, e82⟩ : ∃ q : Int, q = mm + 1 := ⟨_, rfl⟩
              refine ri_inc (lv' := [(1, vI z82), (3, vI z14), (2, vI a), (0, .ref hd)]) hx hb dX5_cut_82 hl (k := 2) rfl (by decide) z82 e82 rfl (fun ls hl => ?_)
              refine lv_iload_n hx hb dX5_cut_85 rfl (lv_at hl 1 rfl) ?_
              refine lv_istore_n (lv' := [(2, vI z14), (1, vI z82), (3, vI z14), (0, .ref hd)]) hx hb dX5_cut_86 rfl hl (by decide) rfl (fun ls hl => ?_)
              refine lv_goto (tgt := 4) hx hb dX5_cut_87 (by decide) ?_
              exact ih4 z82 z14 (zu f1 mm (-3)) (zu f2 mm a) (zu f3 mm 0) (by first | (rw [show z14 = a + 1 by omega]; exact CUT_b hC (by omega) (by omega)) | (rw [q31, e35]; exact CUT_t hC (by omega) (by omega) rfl rfl) | (rw [show z14 = en t n a by unfold en; rw [if_neg (by omega)]; omega, e82]; exact CUT_t hC (by omega) (by omega) (by unfold kd; rw [if_neg (by omega), if_neg (by omega)]; first | rw [if_pos (by omega)] | rw [if_neg (by omega)]) (by unfold vl; rw [if_neg (by omega)]))) (by first | omega | (have := en_bd t (show a < n by omega); omega)) _ _ hP hD hS ls (lv_sub hl [0, 1, 3] rfl)
            · skip
              refine lv_aload_n hx hb dX5_cut_66 rfl (lv_at hl 3 rfl) ?_
              refine va_get (D := g) (ci := 5) (v := .ref hdt) (C := RX5) (T := TX5) (N := 10) hx hb hts inF_X5 hown hK.1 hP 0 rfl rfl 0 (by decide) lk_f11 (fun _ h9 => h9) rfl dX5_cut_67 ?_
              refine lv_iload_n hx hb dX5_cut_70 rfl (lv_at hl 1 rfl) ?_
              refine ra_ild hx hb hK hP 1 rfl dX5_cut_71 ⟨by omega, by omega⟩ (by omega) ?_
              refine lv_goto (tgt := 77) hx hb dX5_cut_72 (by decide) ?_
              refine lv_iload_n hx hb dX5_cut_77 rfl (lv_at hl 1 rfl) ?_
              refine lv_iconst (v := Int32.ofInt 0) hx hb dX5_cut_78 rfl ?_
              refine zc_VV (As := [vI mm, vI (t a), vI a, vI 0]) (rest := []) (wc := [(hd, oB 5 [.ref hdt, .ref hdk, .ref hds, .ref hdv, vI n, vI he0, vI fa, vI sr, vI sl, vI st0]), (hdk, aI ca 201 f1), (hds, aI ca 201 f2), (hdv, aI ca 201 f3)]) (wr := [(hdt, aI ca 200 t)]) (k_X5_put l g ca hd hdt hdk hds hdv n he0 fa sr sl st0 f1 f2 f3 mm (t a) a 0 (by first | assumption | omega)) dX5_cut_79 (cwV 4 hts gX5_cut_X5_put rfl rfl rfl (by decide +kernel) (by rw [hR]; exact ⟨Nat.le_of_ble_eq_true rfl, Nat.le_of_ble_eq_true rfl⟩)) ⟨hx, hb, hml, hown, hts⟩ hl.1 hK hP hD hS hA 0 rfl rfl rfl [0, 2, 3, 4] [1] rfl (by decide) rfl (by decide) (by decide) rfl rfl (Nat.le_of_ble_eq_true rfl) (by rw [hR]; exact ⟨Nat.le_of_ble_eq_true rfl, Nat.le_of_ble_eq_true rfl⟩) (fun u H locs q79 hP hD hS => ?_)
              have hP : va_P g vwCl [(hd, oB 5 [.ref hdt, .ref hdk, .ref hds, .ref hdv, vI n, vI he0, vI fa, vI sr, vI sl, vI st0]), (hdt, aI ca 200 t), (hdk, aI ca 201 (zu f1 mm (t a))), (hds, aI ca 201 (zu f2 mm a)), (hdv, aI ca 201 (zu f3 mm 0))] H := hP.sub [1, 0, 2, 3, 4] rfl
              have hD : va_D A [(hd, oB 5 [.ref hdt, .ref hdk, .ref hds, .ref hdv, vI n, vI he0, vI fa, vI sr, vI sl, vI st0]), (hdt, aI ca 200 t), (hdk, aI ca 201 (zu f1 mm (t a))), (hds, aI ca 201 (zu f2 mm a)), (hdv, aI ca 201 (zu f3 mm 0))] := hD.sub [1, 0, 2, 3, 4] (by decide) rfl
              obtain ⟨z82, e82⟩ : ∃ q : Int, q = mm + 1 := ⟨_, rfl⟩
              refine ri_inc (lv' := [(1, vI z82), (3, vI z14), (2, vI a), (0, .ref hd)]) hx hb dX5_cut_82 hl (k := 2) rfl (by decide) z82 e82 rfl (fun ls hl => ?_)
              refine lv_iload_n hx hb dX5_cut_85 rfl (lv_at hl 1 rfl) ?_
              refine lv_istore_n (lv' := [(2, vI z14), (1, vI z82), (3, vI z14), (0, .ref hd)]) hx hb dX5_cut_86 rfl hl (by decide) rfl (fun ls hl => ?_)
              refine lv_goto (tgt := 4) hx hb dX5_cut_87 (by decide) ?_
              exact ih4 z82 z14 (zu f1 mm (t a)) (zu f2 mm a) (zu f3 mm 0) (by first | (rw [show z14 = a + 1 by omega]; exact CUT_b hC (by omega) (by omega)) | (rw [q31, e35]; exact CUT_t hC (by omega) (by omega) rfl rfl) | (rw [show z14 = en t n a by unfold en; rw [if_neg (by omega)]; omega, e82]; exact CUT_t hC (by omega) (by omega) (by unfold kd; rw [if_neg (by omega), if_neg (by omega)]; first | rw [if_pos (by omega)] | rw [if_neg (by omega)]) (by unfold vl; rw [if_neg (by omega)]))) (by first | omega | (have := en_bd t (show a < n by omega); omega)) _ _ hP hD hS ls (lv_sub hl [0, 1, 3] rfl)
        · skip
          refine lv_aload_n hx hb dX5_cut_28 rfl (lv_at hl 3 rfl) ?_
          refine lv_iload_n hx hb dX5_cut_29 rfl (lv_at hl 1 rfl) ?_
          refine lv_iload_n hx hb dX5_cut_30 rfl (lv_at hl 2 rfl) ?_
          refine zc_VI (As := [vI a, vI mm]) (rest := []) (wc := [(hd, oB 5 [.ref hdt, .ref hdk, .ref hds, .ref hdv, vI n, vI he0, vI fa, vI sr, vI sl, vI st0]), (hdt, aI ca 200 t), (hdk, aI ca 201 f1), (hds, aI ca 201 f2), (hdv, aI ca 201 f3)]) (wr := []) (k_X5_cutNumber l g ca hd hdt hdk hds hdv n he0 fa sr sl st0 t f1 f2 f3 a mm (by first | assumption | omega) (by first | assumption | omega) (by first | assumption | omega) (by first | assumption | omega)) dX5_cut_31 (cwV 2 hts gX5_cut_X5_cutNumber rfl rfl rfl (by decide +kernel) (by rw [hR]; exact ⟨Nat.le_of_ble_eq_true rfl, Nat.le_of_ble_eq_true rfl⟩)) ⟨hx, hb, hml, hown, hts⟩ hl.1 hK hP hD hS hA 0 rfl rfl rfl [0, 1, 2, 3, 4] [] rfl (by decide) rfl (by decide) (by decide) rfl rfl (Nat.le_of_ble_eq_true rfl) (by rw [hR]; exact ⟨Nat.le_of_ble_eq_true rfl, Nat.le_of_ble_eq_true rfl⟩) (fun z31 u H locs q31 hP hD hS => ?_)
          have q31 : z31 = en t n a := q31
          have hP : va_P g vwCl [(hd, oB 5 [.ref hdt, .ref hdk, .ref hds, .ref hdv, vI n, vI he0, vI fa, vI sr, vI sl, vI st0]), (hdt, aI ca 200 t), (hdk, aI ca 201 (zu f1 mm (kd t n a))), (hds, aI ca 201 (zu f2 mm a)), (hdv, aI ca 201 (zu f3 mm (vl t n a)))] H := hP.sub [0, 1, 2, 3, 4] rfl
          have hD : va_D A [(hd, oB 5 [.ref hdt, .ref hdk, .ref hds, .ref hdv, vI n, vI he0, vI fa, vI sr, vI sl, vI st0]), (hdt, aI ca 200 t), (hdk, aI ca 201 (zu f1 mm (kd t n a))), (hds, aI ca 201 (zu f2 mm a)), (hdv, aI ca 201 (zu f3 mm (vl t n a)))] := hD.sub [0, 1, 2, 3, 4] (by decide) rfl
          refine lv_istore_n (lv' := [(3, vI z31), (2, vI a), (1, vI mm), (0, .ref hd)]) hx hb dX5_cut_34 rfl hl (by decide) rfl (fun ls hl => ?_)
          obtain ⟨z35, e35⟩ : ∃ q : Int, q = mm + 1 := ⟨_, rfl⟩
          refine ri_inc (lv' := [(1, vI z35), (3, vI z31), (2, vI a), (0, .ref hd)]) hx hb dX5_cut_35 hl (k := 2) rfl (by decide) z35 e35 rfl (fun ls hl => ?_)
          refine lv_goto (tgt := 85) hx hb dX5_cut_38 (by decide) ?_
          refine lv_iload_n hx hb dX5_cut_85 rfl (lv_at hl 1 rfl) ?_
          refine lv_istore_n (lv' := [(2, vI z31), (1, vI z35), (3, vI z31), (0, .ref hd)]) hx hb dX5_cut_86 rfl hl (by decide) rfl (fun ls hl => ?_)
          refine lv_goto (tgt := 4) hx hb dX5_cut_87 (by decide) ?_
          exact ih4 z35 z31 (zu f1 mm (kd t n a)) (zu f2 mm a) (zu f3 mm (vl t n a)) (by first | (rw [show z14 = a + 1 by omega]; exact CUT_b hC (by omega) (by omega)) | (rw [q31, e35]; exact CUT_t hC (by omega) (by omega) rfl rfl) | (rw [show z14 = en t n a by unfold en; rw [if_neg (by omega)]; omega, e82]; exact CUT_t hC (by omega) (by omega) (by unfold kd; rw [if_neg (by omega), if_neg (by omega)]; first | rw [if_pos (by omega)] | rw [if_neg (by omega)]) (by unfold vl; rw [if_neg (by omega)]))) (by first | omega | (have := en_bd t (show a < n by omega); omega)) _ _ hP hD hS ls (lv_sub hl [0, 1, 3] rfl)
  exact L4 _ 0 0 tk sv va (by exact CUT_0 hn.1) (Nat.lt_succ_self _) _ _ hP hD hS ls (lv_sub hl [0, 1, 2] rfl)
set_option maxHeartbeats 4000000 in
set_option maxRecDepth 100000 in
theorem k_X5_pass (l : Launch) (g : va_G) (ca : Nat → ClassId) (hd : Nat) (hdt : Nat) (hdk : Nat) (hds : Nat) (hdv : Nat) (n : Int) (he0 : Int) (fa : Int) (sr : Int) (sl : Int) (st0 : Int) (t : Int → Int) (tk : Int → Int) (sv : Int → Int) (va : Int → Int) (mm : Int) (d0 : Int) (hT : TXok t n) (hTK : TOK t n tk sv va mm) (hhe : 0 ≤ he0 ∧ he0 ≤ mm) (hfa : fa = 0 ∨ fa = 1) (hd0 : d0 ≠ -1 ∧ -100 ≤ d0 ∧ d0 ≤ 1000) : zV (S := Int × Int) l yX5_pass wsX5_pass ({ frames := 0, cells := 0, slots := 0, locals := 0 } : Room) g ca [.ref hd, vI d0] [(hd, oB 5 [.ref hdt, .ref hdk, .ref hds, .ref hdv, vI n, vI he0, vI fa, vI sr, vI sl, vI st0]), (hdk, aI ca 201 tk)] (fun (u : Int × Int) => (u.1, sv u.2) = ps t n d0 (fa, sv he0) ∧ (he0 ≤ u.2 ∧ u.2 ≤ mm) ∧ (u.1 = 0 ∨ u.1 = 1)) (fun (u : Int × Int) => [(hd, oB 5 [.ref hdt, .ref hdk, .ref hds, .ref hdv, vI n, vI u.2, vI u.1, vI sr, vI sl, vI st0]), (hdk, aI ca 201 tk)]) 0 0 := by
  refine zm_V (cc := cX5_pass) (maxL := 2) (ret := none) (by decide) rfl (Nat.le_of_ble_eq_true rfl) ?_
  intro p e s m below meth c A ls R args Q hR hargs hQ hx hb hml hr hts hown hlk hnm hK hP hD hA hS hl
  have hown : s.vm.findClass RX5 = some m.cls := hown
  have hl : lv_has ls 2 [(0, .ref hd), (1, vI d0)] := hl
  have lk_f53 : (Cond.fieldLink RX5 53 "DripRings$Reader" "faulty" "Z").before args s = true := hts _ (by decide +kernel)
  have inF_X5 : ∀ w ∈ wsX50, w ∈ wsX5_pass := by decide +kernel
  have lk_f15 : (Cond.fieldLink RX5 15 "DripRings$Reader" "tokens" "[I").before args s = true := hts _ (by decide +kernel)
  have lk_f36 : (Cond.fieldLink RX5 36 "DripRings$Reader" "here" "I").before args s = true := hts _ (by decide +kernel)
  have hmm := hTK.1
  have hrng := TOK_rng hT hTK hhe.1 hhe.2
  have htk := (hTK.2.1 he0 hhe.1 hhe.2).2.2.1
  refine lv_aload_n hx hb dX5_pass_0 rfl (lv_at hl 0 rfl) ?_
  refine lv_aload_n hx hb dX5_pass_1 rfl (lv_at hl 0 rfl) ?_
  refine va_get (D := g) (ci := 5) (v := vI fa) (C := RX5) (T := TX5) (N := 10) hx hb hts inF_X5 hown hK.1 hP 0 rfl rfl 6 (by decide) lk_f53 (fun _ h9 => h9) rfl dX5_pass_2 ?_
  refine ri_if_ne (tgt := 21) hx hb dX5_pass_5 (by decide) ⟨by omega, by omega⟩ (fun c5 => ?_) (fun c5 => ?_)
  · skip
    refine lv_iconst (v := Int32.ofInt 1) hx hb dX5_pass_21 rfl ?_
    refine lv_goto (tgt := 26) hx hb dX5_pass_22 (by decide) ?_
    refine va_put (D := g) (ci := 5) (v := vI 1) (ty := .boolean) (C := RX5) (T := TX5) (N := 10) hx hb hts inF_X5 tyX5 tyX5_ok nmX5 hown hK.1 hP hD hS 0 rfl rfl 6 (by decide) lk_f53 (fun _ h9 => h9) rfl (by decide +kernel) (zb_nar (Or.inr rfl)) (zb_fit (Or.inr rfl)) (Nat.le_of_ble_eq_true rfl) dX5_pass_26 (fun H locs hP hD hS => ?_)
    have hP : va_P g vwCl [(hd, oB 5 [.ref hdt, .ref hdk, .ref hds, .ref hdv, vI n, vI he0, vI 1, vI sr, vI sl, vI st0]), (hdk, aI ca 201 tk)] H := hP
    have hD : va_D A [(hd, oB 5 [.ref hdt, .ref hdk, .ref hds, .ref hdv, vI n, vI he0, vI 1, vI sr, vI sl, vI st0]), (hdk, aI ca 201 tk)] := hD
    refine lv_aload_n hx hb dX5_pass_29 rfl (lv_at hl 0 rfl) ?_
    refine va_get (D := g) (ci := 5) (v := vI 1) (C := RX5) (T := TX5) (N := 10) hx hb hts inF_X5 hown hK.1 hP 0 rfl rfl 6 (by decide) lk_f53 (fun _ h9 => h9) rfl dX5_pass_30 ?_
    refine ri_if_ne (tgt := 56) hx hb dX5_pass_33 (by decide) ⟨by omega, by omega⟩ (fun c33_ => ?_) (fun c33_ => ?_)
    · skip
      refine zr_V hx hb hr hlk hQ (1, he0) hP hD hS dX5_pass_56 (Nat.le_of_ble_eq_true rfl) (Nat.le_of_ble_eq_true rfl) ?_
      show (1, sv he0) = ps t n d0 (fa, sv he0) ∧ (he0 ≤ he0 ∧ he0 ≤ mm) ∧ (1 = 0 ∨ 1 = 1)
      first
      | exact ⟨by rw [show fa = 1 by omega, ps_bad], by omega, by omega⟩
      | (have hq := TOK_tk hTK hhe.1 hhe.2 (by omega)
         exact ⟨by rw [show fa = 0 by omega, ps_ok (by rw [← htk]; omega), ← hq.2.2, e52], by omega, by omega⟩)
      | (have hq := TOK_tk hTK hhe.1 hhe.2 (by omega)
         exact ⟨by rw [show fa = 0 by omega, ps_ok (by rw [← htk]; omega)]; omega, by omega, by omega⟩)
      | exact ⟨by rw [show fa = 0 by omega, ps_no (by rw [← htk]; omega)], by omega, by omega⟩
    · exact absurd c33_ (by decide)
  · skip
    refine lv_aload_n hx hb dX5_pass_8 rfl (lv_at hl 0 rfl) ?_
    refine va_get (D := g) (ci := 5) (v := .ref hdk) (C := RX5) (T := TX5) (N := 10) hx hb hts inF_X5 hown hK.1 hP 0 rfl rfl 1 (by decide) lk_f15 (fun _ h9 => h9) rfl dX5_pass_9 ?_
    refine lv_aload_n hx hb dX5_pass_12 rfl (lv_at hl 0 rfl) ?_
    refine va_get (D := g) (ci := 5) (v := vI he0) (C := RX5) (T := TX5) (N := 10) hx hb hts inF_X5 hown hK.1 hP 0 rfl rfl 5 (by decide) lk_f36 (fun _ h9 => h9) rfl dX5_pass_13 ?_
    refine ra_ild hx hb hK hP 1 rfl dX5_pass_16 ⟨by omega, by omega⟩ (by omega) ?_
    refine lv_iload_n hx hb dX5_pass_17 rfl (lv_at hl 1 rfl) ?_
    refine ri_icmp_eq (tgt := 25) hx hb dX5_pass_18 (by decide) ⟨by omega, by omega⟩ ⟨by omega, by omega⟩ (fun c18 => ?_) (fun c18 => ?_)
    · skip
      refine lv_iconst (v := Int32.ofInt 0) hx hb dX5_pass_25 rfl ?_
      refine va_put (D := g) (ci := 5) (v := vI 0) (ty := .boolean) (C := RX5) (T := TX5) (N := 10) hx hb hts inF_X5 tyX5 tyX5_ok nmX5 hown hK.1 hP hD hS 0 rfl rfl 6 (by decide) lk_f53 (fun _ h9 => h9) rfl (by decide +kernel) (zb_nar (Or.inl rfl)) (zb_fit (Or.inl rfl)) (Nat.le_of_ble_eq_true rfl) dX5_pass_26 (fun H locs hP hD hS => ?_)
      have hP : va_P g vwCl [(hd, oB 5 [.ref hdt, .ref hdk, .ref hds, .ref hdv, vI n, vI he0, vI 0, vI sr, vI sl, vI st0]), (hdk, aI ca 201 tk)] H := hP
      have hD : va_D A [(hd, oB 5 [.ref hdt, .ref hdk, .ref hds, .ref hdv, vI n, vI he0, vI 0, vI sr, vI sl, vI st0]), (hdk, aI ca 201 tk)] := hD
      refine lv_aload_n hx hb dX5_pass_29 rfl (lv_at hl 0 rfl) ?_
      refine va_get (D := g) (ci := 5) (v := vI 0) (C := RX5) (T := TX5) (N := 10) hx hb hts inF_X5 hown hK.1 hP 0 rfl rfl 6 (by decide) lk_f53 (fun _ h9 => h9) rfl dX5_pass_30 ?_
      refine ri_if_ne (tgt := 56) hx hb dX5_pass_33 (by decide) ⟨by omega, by omega⟩ (fun c33_ => ?_) (fun c33_ => ?_)
      · exact absurd c33_ (by decide)
      · skip
        refine lv_aload_n hx hb dX5_pass_36 rfl (lv_at hl 0 rfl) ?_
        refine va_get (D := g) (ci := 5) (v := vI he0) (C := RX5) (T := TX5) (N := 10) hx hb hts inF_X5 hown hK.1 hP 0 rfl rfl 5 (by decide) lk_f36 (fun _ h9 => h9) rfl dX5_pass_37 ?_
        refine lv_sipush (v := Int32.ofInt 200) hx hb dX5_pass_40 (by decide) ?_
        refine ri_icmp_ge (tgt := 56) hx hb dX5_pass_43 (by decide) ⟨by omega, by omega⟩ ⟨by omega, by omega⟩ (fun c43 => ?_) (fun c43 => ?_)
        · skip
          refine zr_V hx hb hr hlk hQ (0, he0) hP hD hS dX5_pass_56 (Nat.le_of_ble_eq_true rfl) (Nat.le_of_ble_eq_true rfl) ?_
          show (0, sv he0) = ps t n d0 (fa, sv he0) ∧ (he0 ≤ he0 ∧ he0 ≤ mm) ∧ (0 = 0 ∨ 0 = 1)
          first
          | exact ⟨by rw [show fa = 1 by omega, ps_bad], by omega, by omega⟩
          | (have hq := TOK_tk hTK hhe.1 hhe.2 (by omega)
             exact ⟨by rw [show fa = 0 by omega, ps_ok (by rw [← htk]; omega), ← hq.2.2, e52], by omega, by omega⟩)
          | (have hq := TOK_tk hTK hhe.1 hhe.2 (by omega)
             exact ⟨by rw [show fa = 0 by omega, ps_ok (by rw [← htk]; omega)]; omega, by omega, by omega⟩)
          | exact ⟨by rw [show fa = 0 by omega, ps_no (by rw [← htk]; omega)], by omega, by omega⟩
        · skip
          refine lv_aload_n hx hb dX5_pass_46 rfl (lv_at hl 0 rfl) ?_
          refine lv_dup hx hb dX5_pass_47 rfl ?_
          refine va_get (D := g) (ci := 5) (v := vI he0) (C := RX5) (T := TX5) (N := 10) hx hb hts inF_X5 hown hK.1 hP 0 rfl rfl 5 (by decide) lk_f36 (fun _ h9 => h9) rfl dX5_pass_48 ?_
          refine lv_iconst (v := Int32.ofInt 1) hx hb dX5_pass_51 rfl ?_
          refine ri_add hx hb dX5_pass_52 (fun z52 e52 => ?_)
          refine va_put (D := g) (ci := 5) (v := vI z52) (ty := .int) (C := RX5) (T := TX5) (N := 10) hx hb hts inF_X5 tyX5 tyX5_ok nmX5 hown hK.1 hP hD hS 0 rfl rfl 5 (by decide) lk_f36 (fun _ h9 => h9) rfl (by decide +kernel) rfl rfl (Nat.le_of_ble_eq_true rfl) dX5_pass_53 (fun H locs hP hD hS => ?_)
          have hP : va_P g vwCl [(hd, oB 5 [.ref hdt, .ref hdk, .ref hds, .ref hdv, vI n, vI z52, vI 0, vI sr, vI sl, vI st0]), (hdk, aI ca 201 tk)] H := hP
          have hD : va_D A [(hd, oB 5 [.ref hdt, .ref hdk, .ref hds, .ref hdv, vI n, vI z52, vI 0, vI sr, vI sl, vI st0]), (hdk, aI ca 201 tk)] := hD
          refine zr_V hx hb hr hlk hQ (0, z52) hP hD hS dX5_pass_56 (Nat.le_of_ble_eq_true rfl) (Nat.le_of_ble_eq_true rfl) ?_
          show (0, sv z52) = ps t n d0 (fa, sv he0) ∧ (he0 ≤ z52 ∧ z52 ≤ mm) ∧ (0 = 0 ∨ 0 = 1)
          first
          | exact ⟨by rw [show fa = 1 by omega, ps_bad], by omega, by omega⟩
          | (have hq := TOK_tk hTK hhe.1 hhe.2 (by omega)
             exact ⟨by rw [show fa = 0 by omega, ps_ok (by rw [← htk]; omega), ← hq.2.2, e52], by omega, by omega⟩)
          | (have hq := TOK_tk hTK hhe.1 hhe.2 (by omega)
             exact ⟨by rw [show fa = 0 by omega, ps_ok (by rw [← htk]; omega)]; omega, by omega, by omega⟩)
          | exact ⟨by rw [show fa = 0 by omega, ps_no (by rw [← htk]; omega)], by omega, by omega⟩
    · skip
      refine lv_iconst (v := Int32.ofInt 1) hx hb dX5_pass_21 rfl ?_
      refine lv_goto (tgt := 26) hx hb dX5_pass_22 (by decide) ?_
      refine va_put (D := g) (ci := 5) (v := vI 1) (ty := .boolean) (C := RX5) (T := TX5) (N := 10) hx hb hts inF_X5 tyX5 tyX5_ok nmX5 hown hK.1 hP hD hS 0 rfl rfl 6 (by decide) lk_f53 (fun _ h9 => h9) rfl (by decide +kernel) (zb_nar (Or.inr rfl)) (zb_fit (Or.inr rfl)) (Nat.le_of_ble_eq_true rfl) dX5_pass_26 (fun H locs hP hD hS => ?_)
      have hP : va_P g vwCl [(hd, oB 5 [.ref hdt, .ref hdk, .ref hds, .ref hdv, vI n, vI he0, vI 1, vI sr, vI sl, vI st0]), (hdk, aI ca 201 tk)] H := hP
      have hD : va_D A [(hd, oB 5 [.ref hdt, .ref hdk, .ref hds, .ref hdv, vI n, vI he0, vI 1, vI sr, vI sl, vI st0]), (hdk, aI ca 201 tk)] := hD
      refine lv_aload_n hx hb dX5_pass_29 rfl (lv_at hl 0 rfl) ?_
      refine va_get (D := g) (ci := 5) (v := vI 1) (C := RX5) (T := TX5) (N := 10) hx hb hts inF_X5 hown hK.1 hP 0 rfl rfl 6 (by decide) lk_f53 (fun _ h9 => h9) rfl dX5_pass_30 ?_
      refine ri_if_ne (tgt := 56) hx hb dX5_pass_33 (by decide) ⟨by omega, by omega⟩ (fun c33_ => ?_) (fun c33_ => ?_)
      · skip
        refine zr_V hx hb hr hlk hQ (1, he0) hP hD hS dX5_pass_56 (Nat.le_of_ble_eq_true rfl) (Nat.le_of_ble_eq_true rfl) ?_
        show (1, sv he0) = ps t n d0 (fa, sv he0) ∧ (he0 ≤ he0 ∧ he0 ≤ mm) ∧ (1 = 0 ∨ 1 = 1)
        first
        | exact ⟨by rw [show fa = 1 by omega, ps_bad], by omega, by omega⟩
        | (have hq := TOK_tk hTK hhe.1 hhe.2 (by omega)
           exact ⟨by rw [show fa = 0 by omega, ps_ok (by rw [← htk]; omega), ← hq.2.2, e52], by omega, by omega⟩)
        | (have hq := TOK_tk hTK hhe.1 hhe.2 (by omega)
           exact ⟨by rw [show fa = 0 by omega, ps_ok (by rw [← htk]; omega)]; omega, by omega, by omega⟩)
        | exact ⟨by rw [show fa = 0 by omega, ps_no (by rw [← htk]; omega)], by omega, by omega⟩
      · exact absurd c33_ (by decide)
set_option maxHeartbeats 4000000 in
set_option maxRecDepth 100000 in
theorem k_X5_readNumber (l : Launch) (g : va_G) (ca : Nat → ClassId) (hd : Nat) (hdt : Nat) (hdk : Nat) (hds : Nat) (hdv : Nat) (n : Int) (he0 : Int) (fa : Int) (sr : Int) (sl : Int) (st0 : Int) (t : Int → Int) (tk : Int → Int) (sv : Int → Int) (va : Int → Int) (mm : Int) (lo : Int) (hi : Int) (hT : TXok t n) (hTK : TOK t n tk sv va mm) (hhe : 0 ≤ he0 ∧ he0 ≤ mm) (hfa : fa = 0 ∨ fa = 1) (hlo : 0 ≤ lo ∧ lo ≤ 1000 ∧ 0 ≤ hi ∧ hi ≤ 1000) : zI (S := Int × Int) l yX5_readNumber wsX5_readNumber ({ frames := 1, cells := 0, slots := 0, locals := 22 } : Room) g ca [.ref hd, vI lo, vI hi] [(hd, oB 5 [.ref hdt, .ref hdk, .ref hds, .ref hdv, vI n, vI he0, vI fa, vI sr, vI sl, vI st0]), (hdk, aI ca 201 tk), (hdv, aI ca 201 va)] (fun (z : Int) (u : Int × Int) => z = vl t n (sv he0) ∧ (u.1, sv u.2) = pn t n lo hi (fa, sv he0) ∧ (he0 ≤ u.2 ∧ u.2 ≤ mm) ∧ (u.1 = 0 ∨ u.1 = 1)) (fun (u : Int × Int) => [(hd, oB 5 [.ref hdt, .ref hdk, .ref hds, .ref hdv, vI n, vI u.2, vI u.1, vI sr, vI sl, vI st0]), (hdk, aI ca 201 tk), (hdv, aI ca 201 va)]) 0 0 := by
  refine zm_I (cc := cX5_readNumber) (maxL := 4) (ret := some .int) (by decide) rfl (Nat.le_of_ble_eq_true rfl) ?_
  intro p e s m below meth c A ls R args Q hR hargs hQ hx hb hml hr hts hown hlk hnm hK hP hD hA hS hl
  have hown : s.vm.findClass RX5 = some m.cls := hown
  have hl : lv_has ls 4 [(0, .ref hd), (1, vI lo), (2, vI hi)] := hl
  have lk_f21 : (Cond.fieldLink RX5 21 "DripRings$Reader" "values" "[I").before args s = true := hts _ (by decide +kernel)
  have inF_X5 : ∀ w ∈ wsX50, w ∈ wsX5_readNumber := by decide +kernel
  have lk_f36 : (Cond.fieldLink RX5 36 "DripRings$Reader" "here" "I").before args s = true := hts _ (by decide +kernel)
  have lk_f53 : (Cond.fieldLink RX5 53 "DripRings$Reader" "faulty" "Z").before args s = true := hts _ (by decide +kernel)
  have lk_zX7 : (Cond.initialized RX7).before args s = true := hts _ (by decide +kernel)
  have lk_stX7_isOutside : (Cond.static yX7_isOutside).before args s = true := hts _ (by decide +kernel)
  have hmm := hTK.1
  have hrng := TOK_rng hT hTK hhe.1 hhe.2
  have hva := (hTK.2.1 he0 hhe.1 hhe.2).2.2.2
  refine lv_aload_n hx hb dX5_readNumber_0 rfl (lv_at hl 0 rfl) ?_
  refine va_get (D := g) (ci := 5) (v := .ref hdv) (C := RX5) (T := TX5) (N := 10) hx hb hts inF_X5 hown hK.1 hP 0 rfl rfl 3 (by decide) lk_f21 (fun _ h9 => h9) rfl dX5_readNumber_1 ?_
  refine lv_aload_n hx hb dX5_readNumber_4 rfl (lv_at hl 0 rfl) ?_
  refine va_get (D := g) (ci := 5) (v := vI he0) (C := RX5) (T := TX5) (N := 10) hx hb hts inF_X5 hown hK.1 hP 0 rfl rfl 5 (by decide) lk_f36 (fun _ h9 => h9) rfl dX5_readNumber_5 ?_
  refine ra_ild hx hb hK hP 2 rfl dX5_readNumber_8 ⟨by omega, by omega⟩ (by omega) ?_
  refine lv_istore_n (lv' := [(3, vI (va he0)), (0, .ref hd), (1, vI lo), (2, vI hi)]) hx hb dX5_readNumber_9 rfl hl (by decide) rfl (fun ls hl => ?_)
  refine lv_aload_n hx hb dX5_readNumber_10 rfl (lv_at hl 1 rfl) ?_
  refine lv_aload_n hx hb dX5_readNumber_11 rfl (lv_at hl 1 rfl) ?_
  refine va_get (D := g) (ci := 5) (v := vI fa) (C := RX5) (T := TX5) (N := 10) hx hb hts inF_X5 hown hK.1 hP 0 rfl rfl 6 (by decide) lk_f53 (fun _ h9 => h9) rfl dX5_readNumber_12 ?_
  refine ri_if_ne (tgt := 27) hx hb dX5_readNumber_15 (by decide) ⟨by omega, by omega⟩ (fun c15 => ?_) (fun c15 => ?_)
  · skip
    refine lv_iconst (v := Int32.ofInt 1) hx hb dX5_readNumber_27 rfl ?_
    refine lv_goto (tgt := 32) hx hb dX5_readNumber_28 (by decide) ?_
    refine va_put (D := g) (ci := 5) (v := vI 1) (ty := .boolean) (C := RX5) (T := TX5) (N := 10) hx hb hts inF_X5 tyX5 tyX5_ok nmX5 hown hK.1 hP hD hS 0 rfl rfl 6 (by decide) lk_f53 (fun _ h9 => h9) rfl (by decide +kernel) (zb_nar (Or.inr rfl)) (zb_fit (Or.inr rfl)) (Nat.le_of_ble_eq_true rfl) dX5_readNumber_32 (fun H locs hP hD hS => ?_)
    have hP : va_P g vwCl [(hd, oB 5 [.ref hdt, .ref hdk, .ref hds, .ref hdv, vI n, vI he0, vI 1, vI sr, vI sl, vI st0]), (hdk, aI ca 201 tk), (hdv, aI ca 201 va)] H := hP
    have hD : va_D A [(hd, oB 5 [.ref hdt, .ref hdk, .ref hds, .ref hdv, vI n, vI he0, vI 1, vI sr, vI sl, vI st0]), (hdk, aI ca 201 tk), (hdv, aI ca 201 va)] := hD
    refine lv_aload_n hx hb dX5_readNumber_35 rfl (lv_at hl 1 rfl) ?_
    refine lv_bipush (v := Int32.ofInt (-2)) hx hb dX5_readNumber_36 (by decide) ?_
    refine zc_VV (As := [vI (-2)]) (rest := []) (wc := [(hd, oB 5 [.ref hdt, .ref hdk, .ref hds, .ref hdv, vI n, vI he0, vI 1, vI sr, vI sl, vI st0]), (hdk, aI ca 201 tk)]) (wr := [(hdv, aI ca 201 va)]) (k_X5_pass l g ca hd hdt hdk hds hdv n he0 1 sr sl st0 t tk sv va mm (-2) (by first | assumption | omega) (by first | assumption | omega) (by first | assumption | omega) (by first | assumption | omega) (by first | assumption | omega)) dX5_readNumber_38 (cwV 1 hts gX5_readNumber_X5_pass rfl rfl rfl (by decide +kernel) (by rw [hR]; exact ⟨Nat.le_of_ble_eq_true rfl, Nat.le_of_ble_eq_true rfl⟩)) ⟨hx, hb, hml, hown, hts⟩ hl.1 hK hP hD hS hA 0 rfl rfl rfl [0, 1] [2] rfl (by decide) rfl (by decide) (by decide) rfl rfl (Nat.le_of_ble_eq_true rfl) (by rw [hR]; exact ⟨Nat.le_of_ble_eq_true rfl, Nat.le_of_ble_eq_true rfl⟩) (fun u H locs q38 hP hD hS => ?_)
    obtain ⟨fa1_38, he1_38⟩ := u
    have q38 : (fa1_38, sv he1_38) = ps t n (-2) (1, sv he0) ∧ (he0 ≤ he1_38 ∧ he1_38 ≤ mm) ∧ (fa1_38 = 0 ∨ fa1_38 = 1) := q38
    obtain ⟨q38_0, q38_1, q38_2⟩ := q38
    have hP : va_P g vwCl [(hd, oB 5 [.ref hdt, .ref hdk, .ref hds, .ref hdv, vI n, vI he1_38, vI fa1_38, vI sr, vI sl, vI st0]), (hdk, aI ca 201 tk), (hdv, aI ca 201 va)] H := hP.sub [1, 2, 0] rfl
    have hD : va_D A [(hd, oB 5 [.ref hdt, .ref hdk, .ref hds, .ref hdv, vI n, vI he1_38, vI fa1_38, vI sr, vI sl, vI st0]), (hdk, aI ca 201 tk), (hdv, aI ca 201 va)] := hD.sub [1, 2, 0] (by decide) rfl
    refine lv_iload_n hx hb dX5_readNumber_41 rfl (lv_at hl 0 rfl) ?_
    refine zr_I hx hb hr hlk hQ (fa1_38, he1_38) hP hD hS dX5_readNumber_42 (Nat.le_of_ble_eq_true rfl) (Nat.le_of_ble_eq_true rfl) ?_
    show (va he0) = vl t n (sv he0) ∧ (fa1_38, sv he1_38) = pn t n lo hi (fa, sv he0) ∧ (he0 ≤ he1_38 ∧ he1_38 ≤ mm) ∧ (fa1_38 = 0 ∨ fa1_38 = 1)
    refine ⟨hva, ?_, q38_1, q38_2⟩
    rw [q38_0]
    first
    | (rw [show fa = 1 by omega, pn_bad]; exact ps_bad)
    | (rw [pn_no (fun q => by omega), ps_bad])
    | (rw [show fa = 0 by omega]
       unfold ps pn numOK
       have h9 : lo ≤ vl t n (sv he0) ∧ vl t n (sv he0) ≤ hi := by omega
       by_cases q9 : kd t n (sv he0) = -2
       · rw [if_pos ⟨rfl, q9⟩, if_pos ⟨rfl, q9, h9⟩]
       · rw [if_neg (fun q => q9 q.2), if_neg (fun q => q9 q.2.1)])
    | (rw [show fa = 0 by omega, pn_no (fun q => by omega)]; exact ps_bad)
  · skip
    refine lv_iload_n hx hb dX5_readNumber_18 rfl (lv_at hl 0 rfl) ?_
    refine lv_iload_n hx hb dX5_readNumber_19 rfl (lv_at hl 2 rfl) ?_
    refine lv_iload_n hx hb dX5_readNumber_20 rfl (lv_at hl 3 rfl) ?_
    refine zc_NSI (As := [vI (va he0), vI lo, vI hi]) (rest := [.ref hd]) (wc := []) (wr := [(hd, oB 5 [.ref hdt, .ref hdk, .ref hds, .ref hdv, vI n, vI he0, vI fa, vI sr, vI sl, vI st0]), (hdk, aI ca 201 tk), (hdv, aI ca 201 va)]) (k_X7_isOutside l g ca (va he0) lo hi (by first | assumption | omega) (by first | assumption | omega) (by first | assumption | omega)) dX5_readNumber_21 ⟨va_cnB 3 hts gX5_readNumber_X7_isOutside_n104 rfl rfl rfl hK.2.2.2.2.2.1 lk_zX7 (by decide +kernel) (by rw [hR]; exact ⟨Nat.le_of_ble_eq_true rfl, Nat.le_of_ble_eq_true rfl⟩), lk_stX7_isOutside, trivial⟩ ⟨hx, hb, hml, hown, hts⟩ hl.1 hK hP hD hS hA [] [0, 1, 2] rfl (by decide) rfl (by decide) (by decide) rfl rfl (Nat.le_of_ble_eq_true rfl) (by rw [hR]; exact ⟨Nat.le_of_ble_eq_true rfl, Nat.le_of_ble_eq_true rfl⟩) (fun z21 u H locs q21 hP hD hS => ?_)
    have q21 : (z21 = 1 ∧ ¬ (lo ≤ (va he0) ∧ (va he0) ≤ hi)) ∨ (z21 = 0 ∧ lo ≤ (va he0) ∧ (va he0) ≤ hi) := q21
    have hP : va_P g vwCl [(hd, oB 5 [.ref hdt, .ref hdk, .ref hds, .ref hdv, vI n, vI he0, vI fa, vI sr, vI sl, vI st0]), (hdk, aI ca 201 tk), (hdv, aI ca 201 va)] H := hP.sub [0, 1, 2] rfl
    have hD : va_D A [(hd, oB 5 [.ref hdt, .ref hdk, .ref hds, .ref hdv, vI n, vI he0, vI fa, vI sr, vI sl, vI st0]), (hdk, aI ca 201 tk), (hdv, aI ca 201 va)] := hD.sub [0, 1, 2] (by decide) rfl
    refine ri_if_eq (tgt := 31) hx hb dX5_readNumber_24 (by decide) ⟨by omega, by omega⟩ (fun c24 => ?_) (fun c24 => ?_)
    · skip
      refine lv_iconst (v := Int32.ofInt 0) hx hb dX5_readNumber_31 rfl ?_
      refine va_put (D := g) (ci := 5) (v := vI 0) (ty := .boolean) (C := RX5) (T := TX5) (N := 10) hx hb hts inF_X5 tyX5 tyX5_ok nmX5 hown hK.1 hP hD hS 0 rfl rfl 6 (by decide) lk_f53 (fun _ h9 => h9) rfl (by decide +kernel) (zb_nar (Or.inl rfl)) (zb_fit (Or.inl rfl)) (Nat.le_of_ble_eq_true rfl) dX5_readNumber_32 (fun H locs hP hD hS => ?_)
      have hP : va_P g vwCl [(hd, oB 5 [.ref hdt, .ref hdk, .ref hds, .ref hdv, vI n, vI he0, vI 0, vI sr, vI sl, vI st0]), (hdk, aI ca 201 tk), (hdv, aI ca 201 va)] H := hP
      have hD : va_D A [(hd, oB 5 [.ref hdt, .ref hdk, .ref hds, .ref hdv, vI n, vI he0, vI 0, vI sr, vI sl, vI st0]), (hdk, aI ca 201 tk), (hdv, aI ca 201 va)] := hD
      refine lv_aload_n hx hb dX5_readNumber_35 rfl (lv_at hl 1 rfl) ?_
      refine lv_bipush (v := Int32.ofInt (-2)) hx hb dX5_readNumber_36 (by decide) ?_
      refine zc_VV (As := [vI (-2)]) (rest := []) (wc := [(hd, oB 5 [.ref hdt, .ref hdk, .ref hds, .ref hdv, vI n, vI he0, vI 0, vI sr, vI sl, vI st0]), (hdk, aI ca 201 tk)]) (wr := [(hdv, aI ca 201 va)]) (k_X5_pass l g ca hd hdt hdk hds hdv n he0 0 sr sl st0 t tk sv va mm (-2) (by first | assumption | omega) (by first | assumption | omega) (by first | assumption | omega) (by first | assumption | omega) (by first | assumption | omega)) dX5_readNumber_38 (cwV 1 hts gX5_readNumber_X5_pass rfl rfl rfl (by decide +kernel) (by rw [hR]; exact ⟨Nat.le_of_ble_eq_true rfl, Nat.le_of_ble_eq_true rfl⟩)) ⟨hx, hb, hml, hown, hts⟩ hl.1 hK hP hD hS hA 0 rfl rfl rfl [0, 1] [2] rfl (by decide) rfl (by decide) (by decide) rfl rfl (Nat.le_of_ble_eq_true rfl) (by rw [hR]; exact ⟨Nat.le_of_ble_eq_true rfl, Nat.le_of_ble_eq_true rfl⟩) (fun u H locs q38 hP hD hS => ?_)
      obtain ⟨fa1_38, he1_38⟩ := u
      have q38 : (fa1_38, sv he1_38) = ps t n (-2) (0, sv he0) ∧ (he0 ≤ he1_38 ∧ he1_38 ≤ mm) ∧ (fa1_38 = 0 ∨ fa1_38 = 1) := q38
      obtain ⟨q38_0, q38_1, q38_2⟩ := q38
      have hP : va_P g vwCl [(hd, oB 5 [.ref hdt, .ref hdk, .ref hds, .ref hdv, vI n, vI he1_38, vI fa1_38, vI sr, vI sl, vI st0]), (hdk, aI ca 201 tk), (hdv, aI ca 201 va)] H := hP.sub [1, 2, 0] rfl
      have hD : va_D A [(hd, oB 5 [.ref hdt, .ref hdk, .ref hds, .ref hdv, vI n, vI he1_38, vI fa1_38, vI sr, vI sl, vI st0]), (hdk, aI ca 201 tk), (hdv, aI ca 201 va)] := hD.sub [1, 2, 0] (by decide) rfl
      refine lv_iload_n hx hb dX5_readNumber_41 rfl (lv_at hl 0 rfl) ?_
      refine zr_I hx hb hr hlk hQ (fa1_38, he1_38) hP hD hS dX5_readNumber_42 (Nat.le_of_ble_eq_true rfl) (Nat.le_of_ble_eq_true rfl) ?_
      show (va he0) = vl t n (sv he0) ∧ (fa1_38, sv he1_38) = pn t n lo hi (fa, sv he0) ∧ (he0 ≤ he1_38 ∧ he1_38 ≤ mm) ∧ (fa1_38 = 0 ∨ fa1_38 = 1)
      refine ⟨hva, ?_, q38_1, q38_2⟩
      rw [q38_0]
      first
      | (rw [show fa = 1 by omega, pn_bad]; exact ps_bad)
      | (rw [pn_no (fun q => by omega), ps_bad])
      | (rw [show fa = 0 by omega]
         unfold ps pn numOK
         have h9 : lo ≤ vl t n (sv he0) ∧ vl t n (sv he0) ≤ hi := by omega
         by_cases q9 : kd t n (sv he0) = -2
         · rw [if_pos ⟨rfl, q9⟩, if_pos ⟨rfl, q9, h9⟩]
         · rw [if_neg (fun q => q9 q.2), if_neg (fun q => q9 q.2.1)])
      | (rw [show fa = 0 by omega, pn_no (fun q => by omega)]; exact ps_bad)
    · skip
      refine lv_iconst (v := Int32.ofInt 1) hx hb dX5_readNumber_27 rfl ?_
      refine lv_goto (tgt := 32) hx hb dX5_readNumber_28 (by decide) ?_
      refine va_put (D := g) (ci := 5) (v := vI 1) (ty := .boolean) (C := RX5) (T := TX5) (N := 10) hx hb hts inF_X5 tyX5 tyX5_ok nmX5 hown hK.1 hP hD hS 0 rfl rfl 6 (by decide) lk_f53 (fun _ h9 => h9) rfl (by decide +kernel) (zb_nar (Or.inr rfl)) (zb_fit (Or.inr rfl)) (Nat.le_of_ble_eq_true rfl) dX5_readNumber_32 (fun H locs hP hD hS => ?_)
      have hP : va_P g vwCl [(hd, oB 5 [.ref hdt, .ref hdk, .ref hds, .ref hdv, vI n, vI he0, vI 1, vI sr, vI sl, vI st0]), (hdk, aI ca 201 tk), (hdv, aI ca 201 va)] H := hP
      have hD : va_D A [(hd, oB 5 [.ref hdt, .ref hdk, .ref hds, .ref hdv, vI n, vI he0, vI 1, vI sr, vI sl, vI st0]), (hdk, aI ca 201 tk), (hdv, aI ca 201 va)] := hD
      refine lv_aload_n hx hb dX5_readNumber_35 rfl (lv_at hl 1 rfl) ?_
      refine lv_bipush (v := Int32.ofInt (-2)) hx hb dX5_readNumber_36 (by decide) ?_
      refine zc_VV (As := [vI (-2)]) (rest := []) (wc := [(hd, oB 5 [.ref hdt, .ref hdk, .ref hds, .ref hdv, vI n, vI he0, vI 1, vI sr, vI sl, vI st0]), (hdk, aI ca 201 tk)]) (wr := [(hdv, aI ca 201 va)]) (k_X5_pass l g ca hd hdt hdk hds hdv n he0 1 sr sl st0 t tk sv va mm (-2) (by first | assumption | omega) (by first | assumption | omega) (by first | assumption | omega) (by first | assumption | omega) (by first | assumption | omega)) dX5_readNumber_38 (cwV 1 hts gX5_readNumber_X5_pass rfl rfl rfl (by decide +kernel) (by rw [hR]; exact ⟨Nat.le_of_ble_eq_true rfl, Nat.le_of_ble_eq_true rfl⟩)) ⟨hx, hb, hml, hown, hts⟩ hl.1 hK hP hD hS hA 0 rfl rfl rfl [0, 1] [2] rfl (by decide) rfl (by decide) (by decide) rfl rfl (Nat.le_of_ble_eq_true rfl) (by rw [hR]; exact ⟨Nat.le_of_ble_eq_true rfl, Nat.le_of_ble_eq_true rfl⟩) (fun u H locs q38 hP hD hS => ?_)
      obtain ⟨fa1_38, he1_38⟩ := u
      have q38 : (fa1_38, sv he1_38) = ps t n (-2) (1, sv he0) ∧ (he0 ≤ he1_38 ∧ he1_38 ≤ mm) ∧ (fa1_38 = 0 ∨ fa1_38 = 1) := q38
      obtain ⟨q38_0, q38_1, q38_2⟩ := q38
      have hP : va_P g vwCl [(hd, oB 5 [.ref hdt, .ref hdk, .ref hds, .ref hdv, vI n, vI he1_38, vI fa1_38, vI sr, vI sl, vI st0]), (hdk, aI ca 201 tk), (hdv, aI ca 201 va)] H := hP.sub [1, 2, 0] rfl
      have hD : va_D A [(hd, oB 5 [.ref hdt, .ref hdk, .ref hds, .ref hdv, vI n, vI he1_38, vI fa1_38, vI sr, vI sl, vI st0]), (hdk, aI ca 201 tk), (hdv, aI ca 201 va)] := hD.sub [1, 2, 0] (by decide) rfl
      refine lv_iload_n hx hb dX5_readNumber_41 rfl (lv_at hl 0 rfl) ?_
      refine zr_I hx hb hr hlk hQ (fa1_38, he1_38) hP hD hS dX5_readNumber_42 (Nat.le_of_ble_eq_true rfl) (Nat.le_of_ble_eq_true rfl) ?_
      show (va he0) = vl t n (sv he0) ∧ (fa1_38, sv he1_38) = pn t n lo hi (fa, sv he0) ∧ (he0 ≤ he1_38 ∧ he1_38 ≤ mm) ∧ (fa1_38 = 0 ∨ fa1_38 = 1)
      refine ⟨hva, ?_, q38_1, q38_2⟩
      rw [q38_0]
      first
      | (rw [show fa = 1 by omega, pn_bad]; exact ps_bad)
      | (rw [pn_no (fun q => by omega), ps_bad])
      | (rw [show fa = 0 by omega]
         unfold ps pn numOK
         have h9 : lo ≤ vl t n (sv he0) ∧ vl t n (sv he0) ≤ hi := by omega
         by_cases q9 : kd t n (sv he0) = -2
         · rw [if_pos ⟨rfl, q9⟩, if_pos ⟨rfl, q9, h9⟩]
         · rw [if_neg (fun q => q9 q.2), if_neg (fun q => q9 q.2.1)])
      | (rw [show fa = 0 by omega, pn_no (fun q => by omega)]; exact ps_bad)
