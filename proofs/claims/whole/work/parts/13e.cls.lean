theorem zlk_2 {a b oa ob d x : Int} (h1 : x ≠ a) (h2 : x ≠ b) : Op.lookupswitch.offset [(a, oa), (b, ob)] d x = d := by
  rw [Op.lookupswitch.offset_cons, if_neg (Ne.symm h1), Op.lookupswitch.offset_cons, if_neg (Ne.symm h2), Op.lookupswitch.offset_nil]
set_option maxHeartbeats 4000000 in
set_option maxRecDepth 100000 in
theorem k_X7_isNoOrder (l : Launch) (g : va_G) (ca : Nat → ClassId) (o : Int) (hx0 : in32 o) : zI (S := Unit) l yX7_isNoOrder wsX7_isNoOrder ({ frames := 1, cells := 0, slots := 0, locals := 22 } : Room) g ca [vI o] [] (fun (z : Int) (u : Unit) => (z = 1 ∧ ¬ (0 ≤ o ∧ o ≤ 4)) ∨ (z = 0 ∧ 0 ≤ o ∧ o ≤ 4)) (fun (u : Unit) => []) 0 0 := by
  refine zm_I (cc := cX7_isNoOrder) (maxL := 1) (ret := some .boolean) (by decide) rfl (Nat.le_of_ble_eq_true rfl) ?_
  intro p e s m below meth c A ls R args Q hR hargs hQ hx hb hml hr hts hown hlk hnm hK hP hD hA hS hl
  have hown : s.vm.findClass RX7 = some m.cls := hown
  have hl : lv_has ls 1 [(0, vI o)] := hl
  refine lv_iload_n hx hb dX7_isNoOrder_0 rfl (lv_at hl 0 rfl) ?_
  refine lv_iconst (v := Int32.ofInt 0) hx hb dX7_isNoOrder_1 rfl ?_
  refine lv_iconst (v := Int32.ofInt 4) hx hb dX7_isNoOrder_2 rfl ?_
  refine zc_SI (As := [vI o, vI 0, vI 4]) (rest := []) (wc := []) (wr := []) (k_X7_isOutside l g ca o 0 4 (by exact hx0) (by exact ⟨by omega, by omega⟩) (by exact ⟨by omega, by omega⟩)) dX7_isNoOrder_3 (va_cwS 3 hts gX7_isNoOrder_X7_isOutside rfl rfl rfl (by decide +kernel) (by rw [hR]; exact ⟨Nat.le_of_ble_eq_true rfl, Nat.le_of_ble_eq_true rfl⟩)) ⟨hx, hb, hml, hown, hts⟩ hl.1 hK hP hD hS hA [] [] rfl (by decide) rfl (by decide) (by decide) rfl rfl (Nat.le_of_ble_eq_true rfl) (by rw [hR]; exact ⟨Nat.le_of_ble_eq_true rfl, Nat.le_of_ble_eq_true rfl⟩) (fun z3 u H locs q3 hP hD hS => ?_)
  have q3 : (z3 = 1 ∧ ¬ (0 ≤ o ∧ o ≤ 4)) ∨ (z3 = 0 ∧ 0 ≤ o ∧ o ≤ 4) := q3
  have hP : va_P g vwCl [] H := hP.sub [] rfl
  have hD : va_D A [] := hD.sub [] (by decide) rfl
  refine zr_Z hx hb hr hlk hQ () hP hD hS dX7_isNoOrder_6 (Nat.le_of_ble_eq_true rfl) (Nat.le_of_ble_eq_true rfl) (show z3 = 0 ∨ z3 = 1 from by omega) ?_
  show (z3 = 1 ∧ ¬ (0 ≤ o ∧ o ≤ 4)) ∨ (z3 = 0 ∧ 0 ≤ o ∧ o ≤ 4)
  omega
set_option maxHeartbeats 4000000 in
set_option maxRecDepth 100000 in
theorem k_X7_isNotToCome (l : Launch) (g : va_G) (ca : Nat → ClassId) (h7 : Nat) (hd : Nat) (h0 : Nat) (s0 : Nat) (hp : Nat) (hi : Nat) (hc : Nat) (hg : Nat) (hq : Nat) (hz : Nat) (hL : Nat) (hy : Nat) (h1 : Nat) (b : Int → Int) (n : Int) (lm : Int) (t0 : Int) (hB : GB b n) (hx0 : in32 t0) : zI (S := Unit) l yX7_isNotToCome wsX7_isNotToCome ({ frames := 1, cells := 0, slots := 0, locals := 22 } : Room) g ca [.ref h7, vI t0] [(h7, oB 7 [.ref hd, .ref h0, .ref s0, .ref hp, .ref hi, .ref hc, .ref hg, .ref hq, .ref hz, .ref hL, .ref hy]), (h0, oB 6 [.ref h1, vI n, vJ lm]), (h1, aJ ca 605 b)] (fun (z : Int) (u : Unit) => (z = 1 ∧ ¬ (n ≤ t0 ∧ t0 ≤ 120)) ∨ (z = 0 ∧ n ≤ t0 ∧ t0 ≤ 120)) (fun (u : Unit) => [(h7, oB 7 [.ref hd, .ref h0, .ref s0, .ref hp, .ref hi, .ref hc, .ref hg, .ref hq, .ref hz, .ref hL, .ref hy]), (h0, oB 6 [.ref h1, vI n, vJ lm]), (h1, aJ ca 605 b)]) 0 0 := by
  refine zm_I (cc := cX7_isNotToCome) (maxL := 2) (ret := some .boolean) (by decide) rfl (Nat.le_of_ble_eq_true rfl) ?_
  intro p e s m below meth c A ls R args Q hR hargs hQ hx hb hml hr hts hown hlk hnm hK hP hD hA hS hl
  have hown : s.vm.findClass RX7 = some m.cls := hown
  have hl : lv_has ls 2 [(0, .ref h7), (1, vI t0)] := hl
  have lk_f19 : (Cond.fieldLink RX7 19 "DripRings" "rings" "LDripRings$Rings;").before args s = true := hts _ (by decide +kernel)
  have inF_X7 : ∀ w ∈ wsX70, w ∈ wsX7_isNotToCome := by decide +kernel
  have lk_f125 : (Cond.fieldLink RX7 125 "DripRings$Rings" "night" "I").before args s = true := hts _ (by decide +kernel)
  have inF_X6 : ∀ w ∈ wsX60, w ∈ wsX7_isNotToCome := by decide +kernel
  have hn0 := hB.1
  refine lv_iload_n hx hb dX7_isNotToCome_0 rfl (lv_at hl 1 rfl) ?_
  refine lv_aload_n hx hb dX7_isNotToCome_1 rfl (lv_at hl 0 rfl) ?_
  refine va_get (D := g) (ci := 7) (v := .ref h0) (C := RX7) (T := TX7) (N := 11) hx hb hts inF_X7 hown hK.1 hP 0 rfl rfl 1 (by decide) lk_f19 (fun _ h9 => h9) rfl dX7_isNotToCome_2 ?_
  refine va_get (D := g) (ci := 6) (v := vI n) (C := RX6) (T := TX6) (N := 3) hx hb hts inF_X6 hown hK.1 hP 1 rfl rfl 1 (by decide) lk_f125 (fun _ h9 => h9) rfl dX7_isNotToCome_5 ?_
  refine lv_bipush (v := Int32.ofInt 120) hx hb dX7_isNotToCome_8 (by decide) ?_
  refine zc_SI (As := [vI t0, vI n, vI 120]) (rest := []) (wc := []) (wr := [(h7, oB 7 [.ref hd, .ref h0, .ref s0, .ref hp, .ref hi, .ref hc, .ref hg, .ref hq, .ref hz, .ref hL, .ref hy]), (h0, oB 6 [.ref h1, vI n, vJ lm]), (h1, aJ ca 605 b)]) (k_X7_isOutside l g ca t0 n 120 (by exact hx0) (by exact ⟨by omega, by omega⟩) (by exact ⟨by omega, by omega⟩)) dX7_isNotToCome_10 (va_cwS 3 hts gX7_isNotToCome_X7_isOutside rfl rfl rfl (by decide +kernel) (by rw [hR]; exact ⟨Nat.le_of_ble_eq_true rfl, Nat.le_of_ble_eq_true rfl⟩)) ⟨hx, hb, hml, hown, hts⟩ hl.1 hK hP hD hS hA [] [0, 1, 2] rfl (by decide) rfl (by decide) (by decide) rfl rfl (Nat.le_of_ble_eq_true rfl) (by rw [hR]; exact ⟨Nat.le_of_ble_eq_true rfl, Nat.le_of_ble_eq_true rfl⟩) (fun z10 u H locs q10 hP hD hS => ?_)
  have q10 : (z10 = 1 ∧ ¬ (n ≤ t0 ∧ t0 ≤ 120)) ∨ (z10 = 0 ∧ n ≤ t0 ∧ t0 ≤ 120) := q10
  have hP : va_P g vwCl [(h7, oB 7 [.ref hd, .ref h0, .ref s0, .ref hp, .ref hi, .ref hc, .ref hg, .ref hq, .ref hz, .ref hL, .ref hy]), (h0, oB 6 [.ref h1, vI n, vJ lm]), (h1, aJ ca 605 b)] H := hP.sub [0, 1, 2] rfl
  have hD : va_D A [(h7, oB 7 [.ref hd, .ref h0, .ref s0, .ref hp, .ref hi, .ref hc, .ref hg, .ref hq, .ref hz, .ref hL, .ref hy]), (h0, oB 6 [.ref h1, vI n, vJ lm]), (h1, aJ ca 605 b)] := hD.sub [0, 1, 2] (by decide) rfl
  refine zr_Z hx hb hr hlk hQ () hP hD hS dX7_isNotToCome_13 (Nat.le_of_ble_eq_true rfl) (Nat.le_of_ble_eq_true rfl) (show z10 = 0 ∨ z10 = 1 from by omega) ?_
  show (z10 = 1 ∧ ¬ (n ≤ t0 ∧ t0 ≤ 120)) ∨ (z10 = 0 ∧ n ≤ t0 ∧ t0 ≤ 120)
  omega
set_option maxHeartbeats 4000000 in
set_option maxRecDepth 100000 in
theorem k_X7_type (l : Launch) (g : va_G) (ca : Nat → ClassId) (h7 : Nat) (hd : Nat) (h0 : Nat) (s0 : Nat) (hp : Nat) (hi : Nat) (hc : Nat) (hg : Nat) (hq : Nat) (hz : Nat) (hL : Nat) (hy : Nat) (hdt : Nat) (hdk : Nat) (hds : Nat) (hdv : Nat) (tx : Int) (hh : Int) (fa : Int) (sr : Int) (sl : Int) (st0 : Int) (t : Int → Int) (x : Int) (hT : TXok t tx) (hx0 : in32 x) : zI (S := Int × (Int → Int)) l yX7_type wsX7_type ({ frames := 1, cells := 0, slots := 0, locals := 22 } : Room) g ca [.ref h7, vI x] [(h7, oB 7 [.ref hd, .ref h0, .ref s0, .ref hp, .ref hi, .ref hc, .ref hg, .ref hq, .ref hz, .ref hL, .ref hy]), (hd, oB 5 [.ref hdt, .ref hdk, .ref hds, .ref hdv, vI tx, vI hh, vI fa, vI sr, vI sl, vI st0]), (hdt, aI ca 200 t)] (fun (z : Int) (u : Int × (Int → Int)) => (¬ (0 ≤ x ∧ x ≤ 255) ∧ z = -1 ∧ u.1 = tx ∧ u.2 = t) ∨ ((0 ≤ x ∧ x ≤ 255) ∧ tx = 200 ∧ z = -3 ∧ u.1 = tx ∧ u.2 = t) ∨ ((0 ≤ x ∧ x ≤ 255) ∧ tx < 200 ∧ z = tx + 1 ∧ u.1 = tx + 1 ∧ u.2 = zu t tx x)) (fun (u : Int × (Int → Int)) => [(h7, oB 7 [.ref hd, .ref h0, .ref s0, .ref hp, .ref hi, .ref hc, .ref hg, .ref hq, .ref hz, .ref hL, .ref hy]), (hd, oB 5 [.ref hdt, .ref hdk, .ref hds, .ref hdv, vI u.1, vI hh, vI fa, vI sr, vI sl, vI st0]), (hdt, aI ca 200 u.2)]) 0 0 := by
  refine zm_I (cc := cX7_type) (maxL := 2) (ret := some .int) (by decide) rfl (Nat.le_of_ble_eq_true rfl) ?_
  intro p e s m below meth c A ls R args Q hR hargs hQ hx hb hml hr hts hown hlk hnm hK hP hD hA hS hl
  have hown : s.vm.findClass RX7 = some m.cls := hown
  have hl : lv_has ls 2 [(0, .ref h7), (1, vI x)] := hl
  have lk_f12 : (Cond.fieldLink RX7 12 "DripRings" "reader" "LDripRings$Reader;").before args s = true := hts _ (by decide +kernel)
  have inF_X7 : ∀ w ∈ wsX70, w ∈ wsX7_type := by decide +kernel
  have hn := hT.1
  refine lv_iload_n hx hb dX7_type_0 rfl (lv_at hl 1 rfl) ?_
  refine lv_iconst (v := Int32.ofInt 0) hx hb dX7_type_1 rfl ?_
  refine lv_sipush (v := Int32.ofInt 255) hx hb dX7_type_2 (by decide) ?_
  refine zc_SI (As := [vI x, vI 0, vI 255]) (rest := []) (wc := []) (wr := [(h7, oB 7 [.ref hd, .ref h0, .ref s0, .ref hp, .ref hi, .ref hc, .ref hg, .ref hq, .ref hz, .ref hL, .ref hy]), (hd, oB 5 [.ref hdt, .ref hdk, .ref hds, .ref hdv, vI tx, vI hh, vI fa, vI sr, vI sl, vI st0]), (hdt, aI ca 200 t)]) (k_X7_isOutside l g ca x 0 255 (by exact hx0) (by exact ⟨by omega, by omega⟩) (by exact ⟨by omega, by omega⟩)) dX7_type_5 (va_cwS 3 hts gX7_type_X7_isOutside rfl rfl rfl (by decide +kernel) (by rw [hR]; exact ⟨Nat.le_of_ble_eq_true rfl, Nat.le_of_ble_eq_true rfl⟩)) ⟨hx, hb, hml, hown, hts⟩ hl.1 hK hP hD hS hA [] [0, 1, 2] rfl (by decide) rfl (by decide) (by decide) rfl rfl (Nat.le_of_ble_eq_true rfl) (by rw [hR]; exact ⟨Nat.le_of_ble_eq_true rfl, Nat.le_of_ble_eq_true rfl⟩) (fun z5 u H locs q5 hP hD hS => ?_)
  have q5 : (z5 = 1 ∧ ¬ (0 ≤ x ∧ x ≤ 255)) ∨ (z5 = 0 ∧ 0 ≤ x ∧ x ≤ 255) := q5
  have hP : va_P g vwCl [(h7, oB 7 [.ref hd, .ref h0, .ref s0, .ref hp, .ref hi, .ref hc, .ref hg, .ref hq, .ref hz, .ref hL, .ref hy]), (hd, oB 5 [.ref hdt, .ref hdk, .ref hds, .ref hdv, vI tx, vI hh, vI fa, vI sr, vI sl, vI st0]), (hdt, aI ca 200 t)] H := hP.sub [0, 1, 2] rfl
  have hD : va_D A [(h7, oB 7 [.ref hd, .ref h0, .ref s0, .ref hp, .ref hi, .ref hc, .ref hg, .ref hq, .ref hz, .ref hL, .ref hy]), (hd, oB 5 [.ref hdt, .ref hdk, .ref hds, .ref hdv, vI tx, vI hh, vI fa, vI sr, vI sl, vI st0]), (hdt, aI ca 200 t)] := hD.sub [0, 1, 2] (by decide) rfl
  refine ri_if_eq (tgt := 13) hx hb dX7_type_8 (by decide) ⟨by omega, by omega⟩ (fun c8 => ?_) (fun c8 => ?_)
  · skip
    refine lv_aload_n hx hb dX7_type_13 rfl (lv_at hl 0 rfl) ?_
    refine va_get (D := g) (ci := 7) (v := .ref hd) (C := RX7) (T := TX7) (N := 11) hx hb hts inF_X7 hown hK.1 hP 0 rfl rfl 0 (by decide) lk_f12 (fun _ h9 => h9) rfl dX7_type_14 ?_
    refine lv_iload_n hx hb dX7_type_17 rfl (lv_at hl 1 rfl) ?_
    refine zc_VI (As := [vI x]) (rest := []) (wc := [(hd, oB 5 [.ref hdt, .ref hdk, .ref hds, .ref hdv, vI tx, vI hh, vI fa, vI sr, vI sl, vI st0]), (hdt, aI ca 200 t)]) (wr := [(h7, oB 7 [.ref hd, .ref h0, .ref s0, .ref hp, .ref hi, .ref hc, .ref hg, .ref hq, .ref hz, .ref hL, .ref hy])]) (k_X5_add l g ca hd hdt hdk hds hdv tx hh fa sr sl st0 t x (by first | assumption | omega)) dX7_type_18 (cwV 1 hts gX7_type_X5_add rfl rfl rfl (by decide +kernel) (by rw [hR]; exact ⟨Nat.le_of_ble_eq_true rfl, Nat.le_of_ble_eq_true rfl⟩)) ⟨hx, hb, hml, hown, hts⟩ hl.1 hK hP hD hS hA 1 rfl rfl rfl [1, 2] [0] rfl (by decide) rfl (by decide) (by decide) rfl rfl (Nat.le_of_ble_eq_true rfl) (by rw [hR]; exact ⟨Nat.le_of_ble_eq_true rfl, Nat.le_of_ble_eq_true rfl⟩) (fun z18 u H locs q18 hP hD hS => ?_)
    obtain ⟨n1_18, t1_18⟩ := u
    have q18 : (tx < 200 ∧ z18 = 1 ∧ n1_18 = tx + 1 ∧ t1_18 = zu t tx x) ∨ (tx = 200 ∧ z18 = 0 ∧ n1_18 = tx ∧ t1_18 = t) := q18
    have hP : va_P g vwCl [(h7, oB 7 [.ref hd, .ref h0, .ref s0, .ref hp, .ref hi, .ref hc, .ref hg, .ref hq, .ref hz, .ref hL, .ref hy]), (hd, oB 5 [.ref hdt, .ref hdk, .ref hds, .ref hdv, vI n1_18, vI hh, vI fa, vI sr, vI sl, vI st0]), (hdt, aI ca 200 t1_18)] H := hP.sub [0, 1, 2] rfl
    have hD : va_D A [(h7, oB 7 [.ref hd, .ref h0, .ref s0, .ref hp, .ref hi, .ref hc, .ref hg, .ref hq, .ref hz, .ref hL, .ref hy]), (hd, oB 5 [.ref hdt, .ref hdk, .ref hds, .ref hdv, vI n1_18, vI hh, vI fa, vI sr, vI sl, vI st0]), (hdt, aI ca 200 t1_18)] := hD.sub [0, 1, 2] (by decide) rfl
    refine ri_if_eq (tgt := 34) hx hb dX7_type_21 (by decide) ⟨by omega, by omega⟩ (fun c21 => ?_) (fun c21 => ?_)
    · skip
      refine lv_bipush (v := Int32.ofInt (-3)) hx hb dX7_type_34 (by decide) ?_
      refine zr_I hx hb hr hlk hQ (n1_18, t1_18) hP hD hS dX7_type_36 (Nat.le_of_ble_eq_true rfl) (Nat.le_of_ble_eq_true rfl) ?_
      show (¬ (0 ≤ x ∧ x ≤ 255) ∧ (-3) = -1 ∧ n1_18 = tx ∧ t1_18 = t) ∨ ((0 ≤ x ∧ x ≤ 255) ∧ tx = 200 ∧ (-3) = -3 ∧ n1_18 = tx ∧ t1_18 = t) ∨ ((0 ≤ x ∧ x ≤ 255) ∧ tx < 200 ∧ (-3) = tx + 1 ∧ n1_18 = tx + 1 ∧ t1_18 = zu t tx x)
      first
      | exact Or.inl ⟨by omega, rfl, rfl, rfl⟩
      | (rcases q18 with q9 | q9
         · first
           | exact Or.inr (Or.inr ⟨by omega, by omega, by omega, by omega, q9.2.2.2⟩)
           | (exfalso; omega)
         · first
           | exact Or.inr (Or.inl ⟨by omega, by omega, rfl, by omega, q9.2.2.2⟩)
           | (exfalso; omega))
    · skip
      refine lv_aload_n hx hb dX7_type_24 rfl (lv_at hl 0 rfl) ?_
      refine va_get (D := g) (ci := 7) (v := .ref hd) (C := RX7) (T := TX7) (N := 11) hx hb hts inF_X7 hown hK.1 hP 0 rfl rfl 0 (by decide) lk_f12 (fun _ h9 => h9) rfl dX7_type_25 ?_
      refine zc_VI (As := []) (rest := []) (wc := [(hd, oB 5 [.ref hdt, .ref hdk, .ref hds, .ref hdv, vI n1_18, vI hh, vI fa, vI sr, vI sl, vI st0])]) (wr := [(h7, oB 7 [.ref hd, .ref h0, .ref s0, .ref hp, .ref hi, .ref hc, .ref hg, .ref hq, .ref hz, .ref hL, .ref hy]), (hdt, aI ca 200 t1_18)]) (k_X5_letters l g ca hd hdt hdk hds hdv n1_18 hh fa sr sl st0 ) dX7_type_28 (cwV 0 hts gX7_type_X5_letters rfl rfl rfl (by decide +kernel) (by rw [hR]; exact ⟨Nat.le_of_ble_eq_true rfl, Nat.le_of_ble_eq_true rfl⟩)) ⟨hx, hb, hml, hown, hts⟩ hl.1 hK hP hD hS hA 1 rfl rfl rfl [1] [0, 2] rfl (by decide) rfl (by decide) (by decide) rfl rfl (Nat.le_of_ble_eq_true rfl) (by rw [hR]; exact ⟨Nat.le_of_ble_eq_true rfl, Nat.le_of_ble_eq_true rfl⟩) (fun z28 u H locs q28 hP hD hS => ?_)
      have q28 : z28 = n1_18 := q28
      have hP : va_P g vwCl [(h7, oB 7 [.ref hd, .ref h0, .ref s0, .ref hp, .ref hi, .ref hc, .ref hg, .ref hq, .ref hz, .ref hL, .ref hy]), (hd, oB 5 [.ref hdt, .ref hdk, .ref hds, .ref hdv, vI n1_18, vI hh, vI fa, vI sr, vI sl, vI st0]), (hdt, aI ca 200 t1_18)] H := hP.sub [0, 2, 1] rfl
      have hD : va_D A [(h7, oB 7 [.ref hd, .ref h0, .ref s0, .ref hp, .ref hi, .ref hc, .ref hg, .ref hq, .ref hz, .ref hL, .ref hy]), (hd, oB 5 [.ref hdt, .ref hdk, .ref hds, .ref hdv, vI n1_18, vI hh, vI fa, vI sr, vI sl, vI st0]), (hdt, aI ca 200 t1_18)] := hD.sub [0, 2, 1] (by decide) rfl
      refine lv_goto (tgt := 36) hx hb dX7_type_31 (by decide) ?_
      refine zr_I hx hb hr hlk hQ (n1_18, t1_18) hP hD hS dX7_type_36 (Nat.le_of_ble_eq_true rfl) (Nat.le_of_ble_eq_true rfl) ?_
      show (¬ (0 ≤ x ∧ x ≤ 255) ∧ z28 = -1 ∧ n1_18 = tx ∧ t1_18 = t) ∨ ((0 ≤ x ∧ x ≤ 255) ∧ tx = 200 ∧ z28 = -3 ∧ n1_18 = tx ∧ t1_18 = t) ∨ ((0 ≤ x ∧ x ≤ 255) ∧ tx < 200 ∧ z28 = tx + 1 ∧ n1_18 = tx + 1 ∧ t1_18 = zu t tx x)
      first
      | exact Or.inl ⟨by omega, rfl, rfl, rfl⟩
      | (rcases q18 with q9 | q9
         · first
           | exact Or.inr (Or.inr ⟨by omega, by omega, by omega, by omega, q9.2.2.2⟩)
           | (exfalso; omega)
         · first
           | exact Or.inr (Or.inl ⟨by omega, by omega, rfl, by omega, q9.2.2.2⟩)
           | (exfalso; omega))
  · skip
    refine lv_iconst (v := Int32.ofInt (-1)) hx hb dX7_type_11 rfl ?_
    refine zr_I hx hb hr hlk hQ (tx, t) hP hD hS dX7_type_12 (Nat.le_of_ble_eq_true rfl) (Nat.le_of_ble_eq_true rfl) ?_
    show (¬ (0 ≤ x ∧ x ≤ 255) ∧ (-1) = -1 ∧ tx = tx ∧ t = t) ∨ ((0 ≤ x ∧ x ≤ 255) ∧ tx = 200 ∧ (-1) = -3 ∧ tx = tx ∧ t = t) ∨ ((0 ≤ x ∧ x ≤ 255) ∧ tx < 200 ∧ (-1) = tx + 1 ∧ tx = tx + 1 ∧ t = zu t tx x)
    first
    | exact Or.inl ⟨by omega, rfl, rfl, rfl⟩
    | (rcases q18 with q9 | q9
       · first
         | exact Or.inr (Or.inr ⟨by omega, by omega, by omega, by omega, q9.2.2.2⟩)
         | (exfalso; omega)
       · first
         | exact Or.inr (Or.inl ⟨by omega, by omega, rfl, by omega, q9.2.2.2⟩)
         | (exfalso; omega))
set_option maxHeartbeats 4000000 in
set_option maxRecDepth 100000 in
theorem k_X7_clear (l : Launch) (g : va_G) (ca : Nat → ClassId) (h7 : Nat) (hd : Nat) (h0 : Nat) (s0 : Nat) (hp : Nat) (hi : Nat) (hc : Nat) (hg : Nat) (hq : Nat) (hz : Nat) (hL : Nat) (hy : Nat) (hdt : Nat) (hdk : Nat) (hds : Nat) (hdv : Nat) (tx : Int) (hh : Int) (fa : Int) (sr : Int) (sl : Int) (st0 : Int)  : zI (S := Unit) l yX7_clear wsX7_clear ({ frames := 1, cells := 0, slots := 0, locals := 21 } : Room) g ca [.ref h7] [(h7, oB 7 [.ref hd, .ref h0, .ref s0, .ref hp, .ref hi, .ref hc, .ref hg, .ref hq, .ref hz, .ref hL, .ref hy]), (hd, oB 5 [.ref hdt, .ref hdk, .ref hds, .ref hdv, vI tx, vI hh, vI fa, vI sr, vI sl, vI st0])] (fun (z : Int) (u : Unit) => z = tx) (fun (u : Unit) => [(h7, oB 7 [.ref hd, .ref h0, .ref s0, .ref hp, .ref hi, .ref hc, .ref hg, .ref hq, .ref hz, .ref hL, .ref hy]), (hd, oB 5 [.ref hdt, .ref hdk, .ref hds, .ref hdv, vI 0, vI hh, vI fa, vI sr, vI sl, vI st0])]) 0 0 := by
  refine zm_I (cc := cX7_clear) (maxL := 1) (ret := some .int) (by decide) rfl (Nat.le_of_ble_eq_true rfl) ?_
  intro p e s m below meth c A ls R args Q hR hargs hQ hx hb hml hr hts hown hlk hnm hK hP hD hA hS hl
  have hown : s.vm.findClass RX7 = some m.cls := hown
  have hl : lv_has ls 1 [(0, .ref h7)] := hl
  have lk_f12 : (Cond.fieldLink RX7 12 "DripRings" "reader" "LDripRings$Reader;").before args s = true := hts _ (by decide +kernel)
  have inF_X7 : ∀ w ∈ wsX70, w ∈ wsX7_clear := by decide +kernel
  refine lv_aload_n hx hb dX7_clear_0 rfl (lv_at hl 0 rfl) ?_
  refine va_get (D := g) (ci := 7) (v := .ref hd) (C := RX7) (T := TX7) (N := 11) hx hb hts inF_X7 hown hK.1 hP 0 rfl rfl 0 (by decide) lk_f12 (fun _ h9 => h9) rfl dX7_clear_1 ?_
  refine zc_VI (As := []) (rest := []) (wc := [(hd, oB 5 [.ref hdt, .ref hdk, .ref hds, .ref hdv, vI tx, vI hh, vI fa, vI sr, vI sl, vI st0])]) (wr := [(h7, oB 7 [.ref hd, .ref h0, .ref s0, .ref hp, .ref hi, .ref hc, .ref hg, .ref hq, .ref hz, .ref hL, .ref hy])]) (k_X5_wipe l g ca hd hdt hdk hds hdv tx hh fa sr sl st0 ) dX7_clear_4 (cwV 0 hts gX7_clear_X5_wipe rfl rfl rfl (by decide +kernel) (by rw [hR]; exact ⟨Nat.le_of_ble_eq_true rfl, Nat.le_of_ble_eq_true rfl⟩)) ⟨hx, hb, hml, hown, hts⟩ hl.1 hK hP hD hS hA 1 rfl rfl rfl [1] [0] rfl (by decide) rfl (by decide) (by decide) rfl rfl (Nat.le_of_ble_eq_true rfl) (by rw [hR]; exact ⟨Nat.le_of_ble_eq_true rfl, Nat.le_of_ble_eq_true rfl⟩) (fun z4 u H locs q4 hP hD hS => ?_)
  have q4 : z4 = tx := q4
  have hP : va_P g vwCl [(h7, oB 7 [.ref hd, .ref h0, .ref s0, .ref hp, .ref hi, .ref hc, .ref hg, .ref hq, .ref hz, .ref hL, .ref hy]), (hd, oB 5 [.ref hdt, .ref hdk, .ref hds, .ref hdv, vI 0, vI hh, vI fa, vI sr, vI sl, vI st0])] H := hP.sub [0, 1] rfl
  have hD : va_D A [(h7, oB 7 [.ref hd, .ref h0, .ref s0, .ref hp, .ref hi, .ref hc, .ref hg, .ref hq, .ref hz, .ref hL, .ref hy]), (hd, oB 5 [.ref hdt, .ref hdk, .ref hds, .ref hdv, vI 0, vI hh, vI fa, vI sr, vI sl, vI st0])] := hD.sub [0, 1] (by decide) rfl
  refine zr_I hx hb hr hlk hQ () hP hD hS dX7_clear_7 (Nat.le_of_ble_eq_true rfl) (Nat.le_of_ble_eq_true rfl) ?_
  show z4 = tx
  exact q4
set_option maxHeartbeats 4000000 in
set_option maxRecDepth 100000 in
theorem k_X7_order (l : Launch) (g : va_G) (ca : Nat → ClassId) (h7 : Nat) (hd : Nat) (h0 : Nat) (s0 : Nat) (hp : Nat) (hi : Nat) (hc : Nat) (hg : Nat) (hq : Nat) (hz : Nat) (hL : Nat) (hy : Nat) (h1 : Nat) (b : Int → Int) (n : Int) (lm : Int) (hw : Nat) (he : Nat) (hdn : Nat) (hdw : Nat) (w : Int → Int) (ea : Int → Int) (du : Int) (hv : Int) (mo : Int) (oft : Int) (la : Int) (pA : Int) (pB : Int) (o : Int) (x : Int) (hB : GB b n) (hW : GW w) (hx0 : in32 o) (hx1 : in32 x) : zI (S := Unit) l yX7_order wsX7_order ({ frames := 2, cells := 0, slots := 0, locals := 42 } : Room) g ca [.ref h7, vI o, vI x] [(h7, oB 7 [.ref hd, .ref h0, .ref s0, .ref hp, .ref hi, .ref hc, .ref hg, .ref hq, .ref hz, .ref hL, .ref hy]), (h0, oB 6 [.ref h1, vI n, vJ lm]), (h1, aJ ca 605 b), (hL, oB 2 [.ref hw, .ref he, .ref hdn, .ref hdw, vI du, vI hv, vI mo, vI oft, vI la, vI pA, vI pB]), (hw, aI ca 5 w), (he, aI ca 5 ea)] (fun (z : Int) (u : Unit) => z = orv w ea b n o x) (fun (u : Unit) => [(h7, oB 7 [.ref hd, .ref h0, .ref s0, .ref hp, .ref hi, .ref hc, .ref hg, .ref hq, .ref hz, .ref hL, .ref hy]), (h0, oB 6 [.ref h1, vI n, vJ lm]), (h1, aJ ca 605 b), (hL, oB 2 [.ref hw, .ref he, .ref hdn, .ref hdw, vI du, vI hv, vI mo, vI oft, vI la, vI pA, vI pB]), (hw, aI ca 5 w), (he, aI ca 5 ea)]) 0 0 := by
  refine zm_I (cc := cX7_order) (maxL := 3) (ret := some .int) (by decide) rfl (Nat.le_of_ble_eq_true rfl) ?_
  intro p e s m below meth c A ls R args Q hR hargs hQ hx hb hml hr hts hown hlk hnm hK hP hD hA hS hl
  have hown : s.vm.findClass RX7 = some m.cls := hown
  have hl : lv_has ls 3 [(0, .ref h7), (1, vI o), (2, vI x)] := hl
  have lk_f65 : (Cond.fieldLink RX7 65 "DripRings" "law" "LDripRings$Law;").before args s = true := hts _ (by decide +kernel)
  have inF_X7 : ∀ w ∈ wsX70, w ∈ wsX7_order := by decide +kernel
  have lk_f101 : (Cond.fieldLink RX7 101 "DripRings$Law" "weights" "[I").before args s = true := hts _ (by decide +kernel)
  have inF_X2 : ∀ w ∈ wsX20, w ∈ wsX7_order := by decide +kernel
  have lk_f105 : (Cond.fieldLink RX7 105 "DripRings$Law" "each" "[I").before args s = true := hts _ (by decide +kernel)
  have lk_f19 : (Cond.fieldLink RX7 19 "DripRings" "rings" "LDripRings$Rings;").before args s = true := hts _ (by decide +kernel)
  refine lv_iload_n hx hb dX7_order_0 rfl (lv_at hl 1 rfl) ?_
  refine zc_SI (As := [vI o]) (rest := []) (wc := []) (wr := [(h7, oB 7 [.ref hd, .ref h0, .ref s0, .ref hp, .ref hi, .ref hc, .ref hg, .ref hq, .ref hz, .ref hL, .ref hy]), (h0, oB 6 [.ref h1, vI n, vJ lm]), (h1, aJ ca 605 b), (hL, oB 2 [.ref hw, .ref he, .ref hdn, .ref hdw, vI du, vI hv, vI mo, vI oft, vI la, vI pA, vI pB]), (hw, aI ca 5 w), (he, aI ca 5 ea)]) (k_X7_isNoOrder l g ca o (by exact hx0)) dX7_order_1 (va_cwS 1 hts gX7_order_X7_isNoOrder rfl rfl rfl (by decide +kernel) (by rw [hR]; exact ⟨Nat.le_of_ble_eq_true rfl, Nat.le_of_ble_eq_true rfl⟩)) ⟨hx, hb, hml, hown, hts⟩ hl.1 hK hP hD hS hA [] [0, 1, 2, 3, 4, 5] rfl (by decide) rfl (by decide) (by decide) rfl rfl (Nat.le_of_ble_eq_true rfl) (by rw [hR]; exact ⟨Nat.le_of_ble_eq_true rfl, Nat.le_of_ble_eq_true rfl⟩) (fun z1 u H locs q1 hP hD hS => ?_)
  have q1 : (z1 = 1 ∧ ¬ (0 ≤ o ∧ o ≤ 4)) ∨ (z1 = 0 ∧ 0 ≤ o ∧ o ≤ 4) := q1
  have hP : va_P g vwCl [(h7, oB 7 [.ref hd, .ref h0, .ref s0, .ref hp, .ref hi, .ref hc, .ref hg, .ref hq, .ref hz, .ref hL, .ref hy]), (h0, oB 6 [.ref h1, vI n, vJ lm]), (h1, aJ ca 605 b), (hL, oB 2 [.ref hw, .ref he, .ref hdn, .ref hdw, vI du, vI hv, vI mo, vI oft, vI la, vI pA, vI pB]), (hw, aI ca 5 w), (he, aI ca 5 ea)] H := hP.sub [0, 1, 2, 3, 4, 5] rfl
  have hD : va_D A [(h7, oB 7 [.ref hd, .ref h0, .ref s0, .ref hp, .ref hi, .ref hc, .ref hg, .ref hq, .ref hz, .ref hL, .ref hy]), (h0, oB 6 [.ref h1, vI n, vJ lm]), (h1, aJ ca 605 b), (hL, oB 2 [.ref hw, .ref he, .ref hdn, .ref hdw, vI du, vI hv, vI mo, vI oft, vI la, vI pA, vI pB]), (hw, aI ca 5 w), (he, aI ca 5 ea)] := hD.sub [0, 1, 2, 3, 4, 5] (by decide) rfl
  refine ri_if_eq (tgt := 9) hx hb dX7_order_4 (by decide) ⟨by omega, by omega⟩ (fun c4 => ?_) (fun c4 => ?_)
  · skip
    refine lv_iload_n hx hb dX7_order_9 rfl (lv_at hl 2 rfl) ?_
    by_cases c10 : x = 0
    · skip
      refine ri_to c10 ?_
      refine lv_tableIn (tgt := 40) hx hb dX7_order_10 (by rw [xi_to ⟨by omega, by omega⟩]; omega) (by rw [xi_to ⟨by omega, by omega⟩]; omega) (off := 30) (by rw [xi_to ⟨by omega, by omega⟩]; rfl) (by decide) ?_
      refine lv_aload_n hx hb dX7_order_40 rfl (lv_at hl 0 rfl) ?_
      refine va_get (D := g) (ci := 7) (v := .ref hL) (C := RX7) (T := TX7) (N := 11) hx hb hts inF_X7 hown hK.1 hP 0 rfl rfl 9 (by decide) lk_f65 (fun _ h9 => h9) rfl dX7_order_41 ?_
      refine va_get (D := g) (ci := 2) (v := .ref hw) (C := RX2) (T := TX2) (N := 11) hx hb hts inF_X2 hown hK.1 hP 3 rfl rfl 0 (by decide) lk_f101 (fun _ h9 => h9) rfl dX7_order_44 ?_
      refine lv_iload_n hx hb dX7_order_47 rfl (lv_at hl 1 rfl) ?_
      refine ra_ild hx hb hK hP 4 rfl dX7_order_48 ⟨by omega, by omega⟩ (by omega) ?_
      refine zr_I hx hb hr hlk hQ () hP hD hS dX7_order_49 (Nat.le_of_ble_eq_true rfl) (Nat.le_of_ble_eq_true rfl) ?_
      show (w o) = orv w ea b n o x
      unfold orv
      first
      | (rw [if_neg (fun q => by omega)])
      | (by_cases ho9 : 0 ≤ o ∧ o ≤ 4
         · rw [if_pos ho9, if_neg (by omega), if_neg (by omega), if_neg (by omega), if_neg (by omega)]
         · rw [if_neg ho9])
      | (rw [if_pos (by omega), if_pos (by omega)])
      | (rw [if_pos (by omega), if_neg (by omega), if_pos (by omega)])
      | (rw [if_pos (by omega), if_neg (by omega), if_neg (by omega), if_pos (by omega)]
         rcases q65 with q9 | q9 <;> split <;> omega)
      | (rw [if_pos (by omega), if_neg (by omega), if_neg (by omega), if_neg (by omega), if_pos (by omega), q82])
    by_cases c10_2 : x = 1
    · skip
      refine ri_to c10_2 ?_
      refine lv_tableIn (tgt := 50) hx hb dX7_order_10 (by rw [xi_to ⟨by omega, by omega⟩]; omega) (by rw [xi_to ⟨by omega, by omega⟩]; omega) (off := 40) (by rw [xi_to ⟨by omega, by omega⟩]; rfl) (by decide) ?_
      refine lv_aload_n hx hb dX7_order_50 rfl (lv_at hl 0 rfl) ?_
      refine va_get (D := g) (ci := 7) (v := .ref hL) (C := RX7) (T := TX7) (N := 11) hx hb hts inF_X7 hown hK.1 hP 0 rfl rfl 9 (by decide) lk_f65 (fun _ h9 => h9) rfl dX7_order_51 ?_
      refine va_get (D := g) (ci := 2) (v := .ref he) (C := RX2) (T := TX2) (N := 11) hx hb hts inF_X2 hown hK.1 hP 3 rfl rfl 1 (by decide) lk_f105 (fun _ h9 => h9) rfl dX7_order_54 ?_
      refine lv_iload_n hx hb dX7_order_57 rfl (lv_at hl 1 rfl) ?_
      refine ra_ild hx hb hK hP 5 rfl dX7_order_58 ⟨by omega, by omega⟩ (by omega) ?_
      refine zr_I hx hb hr hlk hQ () hP hD hS dX7_order_59 (Nat.le_of_ble_eq_true rfl) (Nat.le_of_ble_eq_true rfl) ?_
      show (ea o) = orv w ea b n o x
      unfold orv
      first
      | (rw [if_neg (fun q => by omega)])
      | (by_cases ho9 : 0 ≤ o ∧ o ≤ 4
         · rw [if_pos ho9, if_neg (by omega), if_neg (by omega), if_neg (by omega), if_neg (by omega)]
         · rw [if_neg ho9])
      | (rw [if_pos (by omega), if_pos (by omega)])
      | (rw [if_pos (by omega), if_neg (by omega), if_pos (by omega)])
      | (rw [if_pos (by omega), if_neg (by omega), if_neg (by omega), if_pos (by omega)]
         rcases q65 with q9 | q9 <;> split <;> omega)
      | (rw [if_pos (by omega), if_neg (by omega), if_neg (by omega), if_neg (by omega), if_pos (by omega), q82])
    by_cases c10_3 : x = 2
    · skip
      refine ri_to c10_3 ?_
      refine lv_tableIn (tgt := 60) hx hb dX7_order_10 (by rw [xi_to ⟨by omega, by omega⟩]; omega) (by rw [xi_to ⟨by omega, by omega⟩]; omega) (off := 50) (by rw [xi_to ⟨by omega, by omega⟩]; rfl) (by decide) ?_
      refine lv_aload_n hx hb dX7_order_60 rfl (lv_at hl 0 rfl) ?_
      refine va_get (D := g) (ci := 7) (v := .ref hL) (C := RX7) (T := TX7) (N := 11) hx hb hts inF_X7 hown hK.1 hP 0 rfl rfl 9 (by decide) lk_f65 (fun _ h9 => h9) rfl dX7_order_61 ?_
      refine lv_iload_n hx hb dX7_order_64 rfl (lv_at hl 1 rfl) ?_
      refine zc_VI (As := [vI o]) (rest := []) (wc := [(hL, oB 2 [.ref hw, .ref he, .ref hdn, .ref hdw, vI du, vI hv, vI mo, vI oft, vI la, vI pA, vI pB]), (hw, aI ca 5 w)]) (wr := [(h7, oB 7 [.ref hd, .ref h0, .ref s0, .ref hp, .ref hi, .ref hc, .ref hg, .ref hq, .ref hz, .ref hL, .ref hy]), (h0, oB 6 [.ref h1, vI n, vJ lm]), (h1, aJ ca 605 b), (he, aI ca 5 ea)]) (k_X2_drips l g ca hL hw he hdn hdw w du hv mo oft la pA pB o (by first | assumption | omega) (by first | assumption | omega)) dX7_order_65 (cwV 1 hts gX7_order_X2_drips rfl rfl rfl (by decide +kernel) (by rw [hR]; exact ⟨Nat.le_of_ble_eq_true rfl, Nat.le_of_ble_eq_true rfl⟩)) ⟨hx, hb, hml, hown, hts⟩ hl.1 hK hP hD hS hA 3 rfl rfl rfl [3, 4] [0, 1, 2, 5] rfl (by decide) rfl (by decide) (by decide) rfl rfl (Nat.le_of_ble_eq_true rfl) (by rw [hR]; exact ⟨Nat.le_of_ble_eq_true rfl, Nat.le_of_ble_eq_true rfl⟩) (fun z65 u H locs q65 hP hD hS => ?_)
      have q65 : (z65 = 1 ∧ o ≤ 3 ∧ 0 < w (o + 1)) ∨ (z65 = 0 ∧ ¬ (o ≤ 3 ∧ 0 < w (o + 1))) := q65
      have hP : va_P g vwCl [(h7, oB 7 [.ref hd, .ref h0, .ref s0, .ref hp, .ref hi, .ref hc, .ref hg, .ref hq, .ref hz, .ref hL, .ref hy]), (h0, oB 6 [.ref h1, vI n, vJ lm]), (h1, aJ ca 605 b), (hL, oB 2 [.ref hw, .ref he, .ref hdn, .ref hdw, vI du, vI hv, vI mo, vI oft, vI la, vI pA, vI pB]), (hw, aI ca 5 w), (he, aI ca 5 ea)] H := hP.sub [0, 1, 2, 4, 5, 3] rfl
      have hD : va_D A [(h7, oB 7 [.ref hd, .ref h0, .ref s0, .ref hp, .ref hi, .ref hc, .ref hg, .ref hq, .ref hz, .ref hL, .ref hy]), (h0, oB 6 [.ref h1, vI n, vJ lm]), (h1, aJ ca 605 b), (hL, oB 2 [.ref hw, .ref he, .ref hdn, .ref hdw, vI du, vI hv, vI mo, vI oft, vI la, vI pA, vI pB]), (hw, aI ca 5 w), (he, aI ca 5 ea)] := hD.sub [0, 1, 2, 4, 5, 3] (by decide) rfl
      refine ri_if_eq (tgt := 75) hx hb dX7_order_68 (by decide) ⟨by omega, by omega⟩ (fun c68 => ?_) (fun c68 => ?_)
      · skip
        refine lv_iconst (v := Int32.ofInt 0) hx hb dX7_order_75 rfl ?_
        refine zr_I hx hb hr hlk hQ () hP hD hS dX7_order_76 (Nat.le_of_ble_eq_true rfl) (Nat.le_of_ble_eq_true rfl) ?_
        show 0 = orv w ea b n o x
        unfold orv
        first
        | (rw [if_neg (fun q => by omega)])
        | (by_cases ho9 : 0 ≤ o ∧ o ≤ 4
           · rw [if_pos ho9, if_neg (by omega), if_neg (by omega), if_neg (by omega), if_neg (by omega)]
           · rw [if_neg ho9])
        | (rw [if_pos (by omega), if_pos (by omega)])
        | (rw [if_pos (by omega), if_neg (by omega), if_pos (by omega)])
        | (rw [if_pos (by omega), if_neg (by omega), if_neg (by omega), if_pos (by omega)]
           rcases q65 with q9 | q9 <;> split <;> omega)
        | (rw [if_pos (by omega), if_neg (by omega), if_neg (by omega), if_neg (by omega), if_pos (by omega), q82])
      · skip
        refine lv_iconst (v := Int32.ofInt 1) hx hb dX7_order_71 rfl ?_
        refine lv_goto (tgt := 76) hx hb dX7_order_72 (by decide) ?_
        refine zr_I hx hb hr hlk hQ () hP hD hS dX7_order_76 (Nat.le_of_ble_eq_true rfl) (Nat.le_of_ble_eq_true rfl) ?_
        show 1 = orv w ea b n o x
        unfold orv
        first
        | (rw [if_neg (fun q => by omega)])
        | (by_cases ho9 : 0 ≤ o ∧ o ≤ 4
           · rw [if_pos ho9, if_neg (by omega), if_neg (by omega), if_neg (by omega), if_neg (by omega)]
           · rw [if_neg ho9])
        | (rw [if_pos (by omega), if_pos (by omega)])
        | (rw [if_pos (by omega), if_neg (by omega), if_pos (by omega)])
        | (rw [if_pos (by omega), if_neg (by omega), if_neg (by omega), if_pos (by omega)]
           rcases q65 with q9 | q9 <;> split <;> omega)
        | (rw [if_pos (by omega), if_neg (by omega), if_neg (by omega), if_neg (by omega), if_pos (by omega), q82])
    by_cases c10_4 : x = 3
    · skip
      refine ri_to c10_4 ?_
      refine lv_tableIn (tgt := 77) hx hb dX7_order_10 (by rw [xi_to ⟨by omega, by omega⟩]; omega) (by rw [xi_to ⟨by omega, by omega⟩]; omega) (off := 67) (by rw [xi_to ⟨by omega, by omega⟩]; rfl) (by decide) ?_
      refine lv_aload_n hx hb dX7_order_77 rfl (lv_at hl 0 rfl) ?_
      refine va_get (D := g) (ci := 7) (v := .ref h0) (C := RX7) (T := TX7) (N := 11) hx hb hts inF_X7 hown hK.1 hP 0 rfl rfl 1 (by decide) lk_f19 (fun _ h9 => h9) rfl dX7_order_78 ?_
      refine lv_iload_n hx hb dX7_order_81 rfl (lv_at hl 1 rfl) ?_
      refine zc_VI (As := [vI o]) (rest := []) (wc := [(h0, oB 6 [.ref h1, vI n, vJ lm]), (h1, aJ ca 605 b)]) (wr := [(h7, oB 7 [.ref hd, .ref h0, .ref s0, .ref hp, .ref hi, .ref hc, .ref hg, .ref hq, .ref hz, .ref hL, .ref hy]), (hL, oB 2 [.ref hw, .ref he, .ref hdn, .ref hdw, vI du, vI hv, vI mo, vI oft, vI la, vI pA, vI pB]), (hw, aI ca 5 w), (he, aI ca 5 ea)]) (k_X6_greatestAge l g ca h0 h1 b n lm o (by first | assumption | omega) (by first | assumption | omega)) dX7_order_82 (cwV 1 hts gX7_order_X6_greatestAge rfl rfl rfl (by decide +kernel) (by rw [hR]; exact ⟨Nat.le_of_ble_eq_true rfl, Nat.le_of_ble_eq_true rfl⟩)) ⟨hx, hb, hml, hown, hts⟩ hl.1 hK hP hD hS hA 1 rfl rfl rfl [1, 2] [0, 3, 4, 5] rfl (by decide) rfl (by decide) (by decide) rfl rfl (Nat.le_of_ble_eq_true rfl) (by rw [hR]; exact ⟨Nat.le_of_ble_eq_true rfl, Nat.le_of_ble_eq_true rfl⟩) (fun z82 u H locs q82 hP hD hS => ?_)
      have q82 : z82 = og b (121 * o) n 121 0 := q82
      have hP : va_P g vwCl [(h7, oB 7 [.ref hd, .ref h0, .ref s0, .ref hp, .ref hi, .ref hc, .ref hg, .ref hq, .ref hz, .ref hL, .ref hy]), (h0, oB 6 [.ref h1, vI n, vJ lm]), (h1, aJ ca 605 b), (hL, oB 2 [.ref hw, .ref he, .ref hdn, .ref hdw, vI du, vI hv, vI mo, vI oft, vI la, vI pA, vI pB]), (hw, aI ca 5 w), (he, aI ca 5 ea)] H := hP.sub [0, 4, 5, 1, 2, 3] rfl
      have hD : va_D A [(h7, oB 7 [.ref hd, .ref h0, .ref s0, .ref hp, .ref hi, .ref hc, .ref hg, .ref hq, .ref hz, .ref hL, .ref hy]), (h0, oB 6 [.ref h1, vI n, vJ lm]), (h1, aJ ca 605 b), (hL, oB 2 [.ref hw, .ref he, .ref hdn, .ref hdw, vI du, vI hv, vI mo, vI oft, vI la, vI pA, vI pB]), (hw, aI ca 5 w), (he, aI ca 5 ea)] := hD.sub [0, 4, 5, 1, 2, 3] (by decide) rfl
      refine zr_I hx hb hr hlk hQ () hP hD hS dX7_order_85 (Nat.le_of_ble_eq_true rfl) (Nat.le_of_ble_eq_true rfl) ?_
      show z82 = orv w ea b n o x
      unfold orv
      first
      | (rw [if_neg (fun q => by omega)])
      | (by_cases ho9 : 0 ≤ o ∧ o ≤ 4
         · rw [if_pos ho9, if_neg (by omega), if_neg (by omega), if_neg (by omega), if_neg (by omega)]
         · rw [if_neg ho9])
      | (rw [if_pos (by omega), if_pos (by omega)])
      | (rw [if_pos (by omega), if_neg (by omega), if_pos (by omega)])
      | (rw [if_pos (by omega), if_neg (by omega), if_neg (by omega), if_pos (by omega)]
         rcases q65 with q9 | q9 <;> split <;> omega)
      | (rw [if_pos (by omega), if_neg (by omega), if_neg (by omega), if_neg (by omega), if_pos (by omega), q82])
    refine lv_tableOut (tgt := 86) hx hb dX7_order_10 (by rw [xi_to hx1]; omega) (by decide) ?_
    refine lv_iconst (v := Int32.ofInt (-1)) hx hb dX7_order_86 rfl ?_
    refine zr_I hx hb hr hlk hQ () hP hD hS dX7_order_87 (Nat.le_of_ble_eq_true rfl) (Nat.le_of_ble_eq_true rfl) ?_
    show (-1) = orv w ea b n o x
    unfold orv
    first
    | (rw [if_neg (fun q => by omega)])
    | (by_cases ho9 : 0 ≤ o ∧ o ≤ 4
       · rw [if_pos ho9, if_neg (by omega), if_neg (by omega), if_neg (by omega), if_neg (by omega)]
       · rw [if_neg ho9])
    | (rw [if_pos (by omega), if_pos (by omega)])
    | (rw [if_pos (by omega), if_neg (by omega), if_pos (by omega)])
    | (rw [if_pos (by omega), if_neg (by omega), if_neg (by omega), if_pos (by omega)]
       rcases q65 with q9 | q9 <;> split <;> omega)
    | (rw [if_pos (by omega), if_neg (by omega), if_neg (by omega), if_neg (by omega), if_pos (by omega), q82])
  · skip
    refine lv_iconst (v := Int32.ofInt (-1)) hx hb dX7_order_7 rfl ?_
    refine zr_I hx hb hr hlk hQ () hP hD hS dX7_order_8 (Nat.le_of_ble_eq_true rfl) (Nat.le_of_ble_eq_true rfl) ?_
    show (-1) = orv w ea b n o x
    unfold orv
    first
    | (rw [if_neg (fun q => by omega)])
    | (by_cases ho9 : 0 ≤ o ∧ o ≤ 4
       · rw [if_pos ho9, if_neg (by omega), if_neg (by omega), if_neg (by omega), if_neg (by omega)]
       · rw [if_neg ho9])
    | (rw [if_pos (by omega), if_pos (by omega)])
    | (rw [if_pos (by omega), if_neg (by omega), if_pos (by omega)])
    | (rw [if_pos (by omega), if_neg (by omega), if_neg (by omega), if_pos (by omega)]
       rcases q65 with q9 | q9 <;> split <;> omega)
    | (rw [if_pos (by omega), if_neg (by omega), if_neg (by omega), if_neg (by omega), if_pos (by omega), q82])
set_option maxHeartbeats 4000000 in
set_option maxRecDepth 100000 in
theorem k_X7_due (l : Launch) (g : va_G) (ca : Nat → ClassId) (h7 : Nat) (hd : Nat) (h0 : Nat) (s0 : Nat) (hp : Nat) (hi : Nat) (hc : Nat) (hg : Nat) (hq : Nat) (hz : Nat) (hL : Nat) (hy : Nat) (hw : Nat) (he : Nat) (hdn : Nat) (hdw : Nat) (du : Int) (hv : Int) (mo : Int) (oft : Int) (la : Int) (pA : Int) (pB : Int) (dn : Int → Int) (dw : Int → Int) (i : Int) (x : Int) (hDU : DUok dn dw du) (hx0 : in32 i) (hx1 : in32 x) : zI (S := Unit) l yX7_due wsX7_due ({ frames := 1, cells := 0, slots := 0, locals := 22 } : Room) g ca [.ref h7, vI i, vI x] [(h7, oB 7 [.ref hd, .ref h0, .ref s0, .ref hp, .ref hi, .ref hc, .ref hg, .ref hq, .ref hz, .ref hL, .ref hy]), (hL, oB 2 [.ref hw, .ref he, .ref hdn, .ref hdw, vI du, vI hv, vI mo, vI oft, vI la, vI pA, vI pB]), (hdn, aI ca 6 dn), (hdw, aI ca 6 dw)] (fun (z : Int) (u : Unit) => z = duv dn dw du i x) (fun (u : Unit) => [(h7, oB 7 [.ref hd, .ref h0, .ref s0, .ref hp, .ref hi, .ref hc, .ref hg, .ref hq, .ref hz, .ref hL, .ref hy]), (hL, oB 2 [.ref hw, .ref he, .ref hdn, .ref hdw, vI du, vI hv, vI mo, vI oft, vI la, vI pA, vI pB]), (hdn, aI ca 6 dn), (hdw, aI ca 6 dw)]) 0 0 := by
  refine zm_I (cc := cX7_due) (maxL := 3) (ret := some .int) (by decide) rfl (Nat.le_of_ble_eq_true rfl) ?_
  intro p e s m below meth c A ls R args Q hR hargs hQ hx hb hml hr hts hown hlk hnm hK hP hD hA hS hl
  have hown : s.vm.findClass RX7 = some m.cls := hown
  have hl : lv_has ls 3 [(0, .ref h7), (1, vI i), (2, vI x)] := hl
  have lk_f65 : (Cond.fieldLink RX7 65 "DripRings" "law" "LDripRings$Law;").before args s = true := hts _ (by decide +kernel)
  have inF_X7 : ∀ w ∈ wsX70, w ∈ wsX7_due := by decide +kernel
  have lk_f115 : (Cond.fieldLink RX7 115 "DripRings$Law" "dues" "I").before args s = true := hts _ (by decide +kernel)
  have inF_X2 : ∀ w ∈ wsX20, w ∈ wsX7_due := by decide +kernel
  have lk_f119 : (Cond.fieldLink RX7 119 "DripRings$Law" "dueNights" "[I").before args s = true := hts _ (by decide +kernel)
  have lk_f122 : (Cond.fieldLink RX7 122 "DripRings$Law" "dueWeights" "[I").before args s = true := hts _ (by decide +kernel)
  have hdu := hDU.1
  refine lv_iload_n hx hb dX7_due_0 rfl (lv_at hl 1 rfl) ?_
  refine lv_iconst (v := Int32.ofInt 0) hx hb dX7_due_1 rfl ?_
  refine lv_aload_n hx hb dX7_due_2 rfl (lv_at hl 0 rfl) ?_
  refine va_get (D := g) (ci := 7) (v := .ref hL) (C := RX7) (T := TX7) (N := 11) hx hb hts inF_X7 hown hK.1 hP 0 rfl rfl 9 (by decide) lk_f65 (fun _ h9 => h9) rfl dX7_due_3 ?_
  refine va_get (D := g) (ci := 2) (v := vI du) (C := RX2) (T := TX2) (N := 11) hx hb hts inF_X2 hown hK.1 hP 1 rfl rfl 4 (by decide) lk_f115 (fun _ h9 => h9) rfl dX7_due_6 ?_
  refine lv_iconst (v := Int32.ofInt 1) hx hb dX7_due_9 rfl ?_
  refine ri_sub hx hb dX7_due_10 (fun z10 e10 => ?_)
  refine zc_SI (As := [vI i, vI 0, vI z10]) (rest := []) (wc := []) (wr := [(h7, oB 7 [.ref hd, .ref h0, .ref s0, .ref hp, .ref hi, .ref hc, .ref hg, .ref hq, .ref hz, .ref hL, .ref hy]), (hL, oB 2 [.ref hw, .ref he, .ref hdn, .ref hdw, vI du, vI hv, vI mo, vI oft, vI la, vI pA, vI pB]), (hdn, aI ca 6 dn), (hdw, aI ca 6 dw)]) (k_X7_isOutside l g ca i 0 z10 (by exact hx0) (by exact ⟨by omega, by omega⟩) (by exact ⟨by omega, by omega⟩)) dX7_due_11 (va_cwS 3 hts gX7_due_X7_isOutside rfl rfl rfl (by decide +kernel) (by rw [hR]; exact ⟨Nat.le_of_ble_eq_true rfl, Nat.le_of_ble_eq_true rfl⟩)) ⟨hx, hb, hml, hown, hts⟩ hl.1 hK hP hD hS hA [] [0, 1, 2, 3] rfl (by decide) rfl (by decide) (by decide) rfl rfl (Nat.le_of_ble_eq_true rfl) (by rw [hR]; exact ⟨Nat.le_of_ble_eq_true rfl, Nat.le_of_ble_eq_true rfl⟩) (fun z11 u H locs q11 hP hD hS => ?_)
  have q11 : (z11 = 1 ∧ ¬ (0 ≤ i ∧ i ≤ z10)) ∨ (z11 = 0 ∧ 0 ≤ i ∧ i ≤ z10) := q11
  have hP : va_P g vwCl [(h7, oB 7 [.ref hd, .ref h0, .ref s0, .ref hp, .ref hi, .ref hc, .ref hg, .ref hq, .ref hz, .ref hL, .ref hy]), (hL, oB 2 [.ref hw, .ref he, .ref hdn, .ref hdw, vI du, vI hv, vI mo, vI oft, vI la, vI pA, vI pB]), (hdn, aI ca 6 dn), (hdw, aI ca 6 dw)] H := hP.sub [0, 1, 2, 3] rfl
  have hD : va_D A [(h7, oB 7 [.ref hd, .ref h0, .ref s0, .ref hp, .ref hi, .ref hc, .ref hg, .ref hq, .ref hz, .ref hL, .ref hy]), (hL, oB 2 [.ref hw, .ref he, .ref hdn, .ref hdw, vI du, vI hv, vI mo, vI oft, vI la, vI pA, vI pB]), (hdn, aI ca 6 dn), (hdw, aI ca 6 dw)] := hD.sub [0, 1, 2, 3] (by decide) rfl
  refine ri_if_eq (tgt := 19) hx hb dX7_due_14 (by decide) ⟨by omega, by omega⟩ (fun c14 => ?_) (fun c14 => ?_)
  · skip
    refine lv_iload_n hx hb dX7_due_19 rfl (lv_at hl 2 rfl) ?_
    by_cases c20 : x = 0
    · skip
      refine ri_to c20 ?_
      refine lv_lookup (tgt := 48) hx hb dX7_due_20 (by decide) (off := 28) (by rw [xi_to ⟨by omega, by omega⟩]; rfl) (by decide) ?_
      refine lv_aload_n hx hb dX7_due_48 rfl (lv_at hl 0 rfl) ?_
      refine va_get (D := g) (ci := 7) (v := .ref hL) (C := RX7) (T := TX7) (N := 11) hx hb hts inF_X7 hown hK.1 hP 0 rfl rfl 9 (by decide) lk_f65 (fun _ h9 => h9) rfl dX7_due_49 ?_
      refine va_get (D := g) (ci := 2) (v := .ref hdn) (C := RX2) (T := TX2) (N := 11) hx hb hts inF_X2 hown hK.1 hP 1 rfl rfl 2 (by decide) lk_f119 (fun _ h9 => h9) rfl dX7_due_52 ?_
      refine lv_iload_n hx hb dX7_due_55 rfl (lv_at hl 1 rfl) ?_
      refine ra_ild hx hb hK hP 2 rfl dX7_due_56 ⟨by omega, by omega⟩ (by omega) ?_
      refine zr_I hx hb hr hlk hQ () hP hD hS dX7_due_57 (Nat.le_of_ble_eq_true rfl) (Nat.le_of_ble_eq_true rfl) ?_
      show (dn i) = duv dn dw du i x
      unfold duv
      first
      | (rw [if_neg (fun q => by omega)])
      | (by_cases ho9 : 0 ≤ i ∧ i < du
         · rw [if_pos ho9, if_neg (by omega), if_neg (by omega)]
         · rw [if_neg ho9])
      | (rw [if_pos (by omega), if_pos (by omega)])
      | (rw [if_pos (by omega), if_neg (by omega), if_pos (by omega)])
    by_cases c20_2 : x = 1
    · skip
      refine ri_to c20_2 ?_
      refine lv_lookup (tgt := 58) hx hb dX7_due_20 (by decide) (off := 38) (by rw [xi_to ⟨by omega, by omega⟩]; rfl) (by decide) ?_
      refine lv_aload_n hx hb dX7_due_58 rfl (lv_at hl 0 rfl) ?_
      refine va_get (D := g) (ci := 7) (v := .ref hL) (C := RX7) (T := TX7) (N := 11) hx hb hts inF_X7 hown hK.1 hP 0 rfl rfl 9 (by decide) lk_f65 (fun _ h9 => h9) rfl dX7_due_59 ?_
      refine va_get (D := g) (ci := 2) (v := .ref hdw) (C := RX2) (T := TX2) (N := 11) hx hb hts inF_X2 hown hK.1 hP 1 rfl rfl 3 (by decide) lk_f122 (fun _ h9 => h9) rfl dX7_due_62 ?_
      refine lv_iload_n hx hb dX7_due_65 rfl (lv_at hl 1 rfl) ?_
      refine ra_ild hx hb hK hP 3 rfl dX7_due_66 ⟨by omega, by omega⟩ (by omega) ?_
      refine zr_I hx hb hr hlk hQ () hP hD hS dX7_due_67 (Nat.le_of_ble_eq_true rfl) (Nat.le_of_ble_eq_true rfl) ?_
      show (dw i) = duv dn dw du i x
      unfold duv
      first
      | (rw [if_neg (fun q => by omega)])
      | (by_cases ho9 : 0 ≤ i ∧ i < du
         · rw [if_pos ho9, if_neg (by omega), if_neg (by omega)]
         · rw [if_neg ho9])
      | (rw [if_pos (by omega), if_pos (by omega)])
      | (rw [if_pos (by omega), if_neg (by omega), if_pos (by omega)])
    refine lv_lookup (tgt := 68) hx hb dX7_due_20 (by decide) (off := 48) (zlk_2 (by rw [xi_to hx1]; omega) (by rw [xi_to hx1]; omega)) (by decide) ?_
    refine lv_iconst (v := Int32.ofInt (-1)) hx hb dX7_due_68 rfl ?_
    refine zr_I hx hb hr hlk hQ () hP hD hS dX7_due_69 (Nat.le_of_ble_eq_true rfl) (Nat.le_of_ble_eq_true rfl) ?_
    show (-1) = duv dn dw du i x
    unfold duv
    first
    | (rw [if_neg (fun q => by omega)])
    | (by_cases ho9 : 0 ≤ i ∧ i < du
       · rw [if_pos ho9, if_neg (by omega), if_neg (by omega)]
       · rw [if_neg ho9])
    | (rw [if_pos (by omega), if_pos (by omega)])
    | (rw [if_pos (by omega), if_neg (by omega), if_pos (by omega)])
  · skip
    refine lv_iconst (v := Int32.ofInt (-1)) hx hb dX7_due_17 rfl ?_
    refine zr_I hx hb hr hlk hQ () hP hD hS dX7_due_18 (Nat.le_of_ble_eq_true rfl) (Nat.le_of_ble_eq_true rfl) ?_
    show (-1) = duv dn dw du i x
    unfold duv
    first
    | (rw [if_neg (fun q => by omega)])
    | (by_cases ho9 : 0 ≤ i ∧ i < du
       · rw [if_pos ho9, if_neg (by omega), if_neg (by omega)]
       · rw [if_neg ho9])
    | (rw [if_pos (by omega), if_pos (by omega)])
    | (rw [if_pos (by omega), if_neg (by omega), if_pos (by omega)])
set_option maxHeartbeats 4000000 in
set_option maxRecDepth 100000 in
theorem k_X7_now (l : Launch) (g : va_G) (ca : Nat → ClassId) (h7 : Nat) (hd : Nat) (h0 : Nat) (s0 : Nat) (hp : Nat) (hi : Nat) (hc : Nat) (hg : Nat) (hq : Nat) (hz : Nat) (hL : Nat) (hy : Nat) (h1 : Nat) (b : Int → Int) (n : Int) (lm : Int) (hw : Nat) (he : Nat) (hdn : Nat) (hdw : Nat) (w : Int → Int) (du : Int) (hv : Int) (mo : Int) (oft : Int) (la : Int) (pA : Int) (pB : Int) (hr0 : Nat) (nx : Int) (kn : Int) (x : Int) (hB : GB b n) (hW : GW w) (hkn : 0 ≤ kn ∧ kn ≤ 8) (hx0 : in32 x) : zJ (S := Unit) l yX7_now wsX7_now ({ frames := 3, cells := 0, slots := 0, locals := 69 } : Room) g ca [.ref h7, vI x] [(h7, oB 7 [.ref hd, .ref h0, .ref s0, .ref hp, .ref hi, .ref hc, .ref hg, .ref hq, .ref hz, .ref hL, .ref hy]), (h0, oB 6 [.ref h1, vI n, vJ lm]), (h1, aJ ca 605 b), (hL, oB 2 [.ref hw, .ref he, .ref hdn, .ref hdw, vI du, vI hv, vI mo, vI oft, vI la, vI pA, vI pB]), (hw, aI ca 5 w), (hp, oB 3 [.ref hr0, vI nx, vI kn])] (fun (z : Int) (u : Unit) => z = nov w b n lm kn x) (fun (u : Unit) => [(h7, oB 7 [.ref hd, .ref h0, .ref s0, .ref hp, .ref hi, .ref hc, .ref hg, .ref hq, .ref hz, .ref hL, .ref hy]), (h0, oB 6 [.ref h1, vI n, vJ lm]), (h1, aJ ca 605 b), (hL, oB 2 [.ref hw, .ref he, .ref hdn, .ref hdw, vI du, vI hv, vI mo, vI oft, vI la, vI pA, vI pB]), (hw, aI ca 5 w), (hp, oB 3 [.ref hr0, vI nx, vI kn])]) 0 0 := by
  refine zm_J (cc := cX7_now) (maxL := 2) (ret := some .long) (by decide) rfl (Nat.le_of_ble_eq_true rfl) ?_
  intro p e s m below meth c A ls R args Q hR hargs hQ hx hb hml hr hts hown hlk hnm hK hP hD hA hS hl
  have hown : s.vm.findClass RX7 = some m.cls := hown
  have hl : lv_has ls 2 [(0, .ref h7), (1, vI x)] := hl
  have lk_f19 : (Cond.fieldLink RX7 19 "DripRings" "rings" "LDripRings$Rings;").before args s = true := hts _ (by decide +kernel)
  have inF_X7 : ∀ w ∈ wsX70, w ∈ wsX7_now := by decide +kernel
  have lk_f125 : (Cond.fieldLink RX7 125 "DripRings$Rings" "night" "I").before args s = true := hts _ (by decide +kernel)
  have inF_X6 : ∀ w ∈ wsX60, w ∈ wsX7_now := by decide +kernel
  have lk_f128 : (Cond.fieldLink RX7 128 "DripRings$Rings" "lump" "J").before args s = true := hts _ (by decide +kernel)
  have lk_f65 : (Cond.fieldLink RX7 65 "DripRings" "law" "LDripRings$Law;").before args s = true := hts _ (by decide +kernel)
  have lk_f29 : (Cond.fieldLink RX7 29 "DripRings" "past" "LDripRings$Past;").before args s = true := hts _ (by decide +kernel)
  have lk_f140 : (Cond.fieldLink RX7 140 "DripRings$Past" "known" "I").before args s = true := hts _ (by decide +kernel)
  have inF_X3 : ∀ w ∈ wsX30, w ∈ wsX7_now := by decide +kernel
  have lk_c143 : (Cond.constantLong RX7 143 (-1)).before args s = true := hts _ (by decide +kernel)
  have hn0 := hB.1
  refine lv_iload_n hx hb dX7_now_0 rfl (lv_at hl 1 rfl) ?_
  by_cases c1 : x = 0
  · skip
    refine ri_to c1 ?_
    refine lv_tableIn (tgt := 36) hx hb dX7_now_1 (by rw [xi_to ⟨by omega, by omega⟩]; omega) (by rw [xi_to ⟨by omega, by omega⟩]; omega) (off := 35) (by rw [xi_to ⟨by omega, by omega⟩]; rfl) (by decide) ?_
    refine lv_aload_n hx hb dX7_now_36 rfl (lv_at hl 0 rfl) ?_
    refine va_get (D := g) (ci := 7) (v := .ref h0) (C := RX7) (T := TX7) (N := 11) hx hb hts inF_X7 hown hK.1 hP 0 rfl rfl 1 (by decide) lk_f19 (fun _ h9 => h9) rfl dX7_now_37 ?_
    refine va_get (D := g) (ci := 6) (v := vI n) (C := RX6) (T := TX6) (N := 3) hx hb hts inF_X6 hown hK.1 hP 1 rfl rfl 1 (by decide) lk_f125 (fun _ h9 => h9) rfl dX7_now_40 ?_
    refine ri_l hx hb dX7_now_43 ⟨by omega, by omega⟩ ?_
    refine zr_J hx hb hr hlk hQ () hP hD hS dX7_now_44 (Nat.le_of_ble_eq_true rfl) (Nat.le_of_ble_eq_true rfl) ?_
    show n = nov w b n lm kn x
    unfold nov
    first
    | (rw [if_pos (by omega)])
    | (rw [if_neg (by omega), if_pos (by omega)])
    | (rw [if_neg (by omega), if_neg (by omega), if_pos (by omega), q57])
    | (rw [if_neg (by omega), if_neg (by omega), if_neg (by omega), if_pos (by omega), q69])
    | (rw [if_neg (by omega), if_neg (by omega), if_neg (by omega), if_neg (by omega), if_pos (by omega)])
    | (rw [if_neg (by omega), if_neg (by omega), if_neg (by omega), if_neg (by omega), if_neg (by omega)])
  by_cases c1_2 : x = 1
  · skip
    refine ri_to c1_2 ?_
    refine lv_tableIn (tgt := 45) hx hb dX7_now_1 (by rw [xi_to ⟨by omega, by omega⟩]; omega) (by rw [xi_to ⟨by omega, by omega⟩]; omega) (off := 44) (by rw [xi_to ⟨by omega, by omega⟩]; rfl) (by decide) ?_
    refine lv_aload_n hx hb dX7_now_45 rfl (lv_at hl 0 rfl) ?_
    refine va_get (D := g) (ci := 7) (v := .ref h0) (C := RX7) (T := TX7) (N := 11) hx hb hts inF_X7 hown hK.1 hP 0 rfl rfl 1 (by decide) lk_f19 (fun _ h9 => h9) rfl dX7_now_46 ?_
    refine va_get (D := g) (ci := 6) (v := vJ lm) (C := RX6) (T := TX6) (N := 3) hx hb hts inF_X6 hown hK.1 hP 1 rfl rfl 2 (by decide) lk_f128 (fun _ h9 => h9) rfl dX7_now_49 ?_
    refine zr_J hx hb hr hlk hQ () hP hD hS dX7_now_52 (Nat.le_of_ble_eq_true rfl) (Nat.le_of_ble_eq_true rfl) ?_
    show lm = nov w b n lm kn x
    unfold nov
    first
    | (rw [if_pos (by omega)])
    | (rw [if_neg (by omega), if_pos (by omega)])
    | (rw [if_neg (by omega), if_neg (by omega), if_pos (by omega), q57])
    | (rw [if_neg (by omega), if_neg (by omega), if_neg (by omega), if_pos (by omega), q69])
    | (rw [if_neg (by omega), if_neg (by omega), if_neg (by omega), if_neg (by omega), if_pos (by omega)])
    | (rw [if_neg (by omega), if_neg (by omega), if_neg (by omega), if_neg (by omega), if_neg (by omega)])
  by_cases c1_3 : x = 2
  · skip
    refine ri_to c1_3 ?_
    refine lv_tableIn (tgt := 53) hx hb dX7_now_1 (by rw [xi_to ⟨by omega, by omega⟩]; omega) (by rw [xi_to ⟨by omega, by omega⟩]; omega) (off := 52) (by rw [xi_to ⟨by omega, by omega⟩]; rfl) (by decide) ?_
    refine lv_aload_n hx hb dX7_now_53 rfl (lv_at hl 0 rfl) ?_
    refine va_get (D := g) (ci := 7) (v := .ref h0) (C := RX7) (T := TX7) (N := 11) hx hb hts inF_X7 hown hK.1 hP 0 rfl rfl 1 (by decide) lk_f19 (fun _ h9 => h9) rfl dX7_now_54 ?_
    refine zc_VJ (As := []) (rest := []) (wc := [(h0, oB 6 [.ref h1, vI n, vJ lm]), (h1, aJ ca 605 b)]) (wr := [(h7, oB 7 [.ref hd, .ref h0, .ref s0, .ref hp, .ref hi, .ref hc, .ref hg, .ref hq, .ref hz, .ref hL, .ref hy]), (hL, oB 2 [.ref hw, .ref he, .ref hdn, .ref hdw, vI du, vI hv, vI mo, vI oft, vI la, vI pA, vI pB]), (hw, aI ca 5 w), (hp, oB 3 [.ref hr0, vI nx, vI kn])]) (k_X6_total l g ca h0 h1 b n lm (by first | assumption | omega)) dX7_now_57 (cwV 0 hts gX7_now_X6_total rfl rfl rfl (by decide +kernel) (by rw [hR]; exact ⟨Nat.le_of_ble_eq_true rfl, Nat.le_of_ble_eq_true rfl⟩)) ⟨hx, hb, hml, hown, hts⟩ hl.1 hK hP hD hS hA 1 rfl rfl rfl [1, 2] [0, 3, 4, 5] rfl (by decide) rfl (by decide) (by decide) rfl rfl (Nat.le_of_ble_eq_true rfl) (by rw [hR]; exact ⟨Nat.le_of_ble_eq_true rfl, Nat.le_of_ble_eq_true rfl⟩) (fun z57 u H locs q57 hP hD hS => ?_)
    have q57 : z57 = tot b n := q57
    have hP : va_P g vwCl [(h7, oB 7 [.ref hd, .ref h0, .ref s0, .ref hp, .ref hi, .ref hc, .ref hg, .ref hq, .ref hz, .ref hL, .ref hy]), (h0, oB 6 [.ref h1, vI n, vJ lm]), (h1, aJ ca 605 b), (hL, oB 2 [.ref hw, .ref he, .ref hdn, .ref hdw, vI du, vI hv, vI mo, vI oft, vI la, vI pA, vI pB]), (hw, aI ca 5 w), (hp, oB 3 [.ref hr0, vI nx, vI kn])] H := hP.sub [0, 4, 5, 1, 2, 3] rfl
    have hD : va_D A [(h7, oB 7 [.ref hd, .ref h0, .ref s0, .ref hp, .ref hi, .ref hc, .ref hg, .ref hq, .ref hz, .ref hL, .ref hy]), (h0, oB 6 [.ref h1, vI n, vJ lm]), (h1, aJ ca 605 b), (hL, oB 2 [.ref hw, .ref he, .ref hdn, .ref hdw, vI du, vI hv, vI mo, vI oft, vI la, vI pA, vI pB]), (hw, aI ca 5 w), (hp, oB 3 [.ref hr0, vI nx, vI kn])] := hD.sub [0, 4, 5, 1, 2, 3] (by decide) rfl
    refine zr_J hx hb hr hlk hQ () hP hD hS dX7_now_60 (Nat.le_of_ble_eq_true rfl) (Nat.le_of_ble_eq_true rfl) ?_
    show z57 = nov w b n lm kn x
    unfold nov
    first
    | (rw [if_pos (by omega)])
    | (rw [if_neg (by omega), if_pos (by omega)])
    | (rw [if_neg (by omega), if_neg (by omega), if_pos (by omega), q57])
    | (rw [if_neg (by omega), if_neg (by omega), if_neg (by omega), if_pos (by omega), q69])
    | (rw [if_neg (by omega), if_neg (by omega), if_neg (by omega), if_neg (by omega), if_pos (by omega)])
    | (rw [if_neg (by omega), if_neg (by omega), if_neg (by omega), if_neg (by omega), if_neg (by omega)])
  by_cases c1_4 : x = 3
  · skip
    refine ri_to c1_4 ?_
    refine lv_tableIn (tgt := 61) hx hb dX7_now_1 (by rw [xi_to ⟨by omega, by omega⟩]; omega) (by rw [xi_to ⟨by omega, by omega⟩]; omega) (off := 60) (by rw [xi_to ⟨by omega, by omega⟩]; rfl) (by decide) ?_
    refine lv_aload_n hx hb dX7_now_61 rfl (lv_at hl 0 rfl) ?_
    refine va_get (D := g) (ci := 7) (v := .ref h0) (C := RX7) (T := TX7) (N := 11) hx hb hts inF_X7 hown hK.1 hP 0 rfl rfl 1 (by decide) lk_f19 (fun _ h9 => h9) rfl dX7_now_62 ?_
    refine lv_aload_n hx hb dX7_now_65 rfl (lv_at hl 0 rfl) ?_
    refine va_get (D := g) (ci := 7) (v := .ref hL) (C := RX7) (T := TX7) (N := 11) hx hb hts inF_X7 hown hK.1 hP 0 rfl rfl 9 (by decide) lk_f65 (fun _ h9 => h9) rfl dX7_now_66 ?_
    refine zc_VJ (As := [.ref hL]) (rest := []) (wc := [(h0, oB 6 [.ref h1, vI n, vJ lm]), (h1, aJ ca 605 b), (hL, oB 2 [.ref hw, .ref he, .ref hdn, .ref hdw, vI du, vI hv, vI mo, vI oft, vI la, vI pA, vI pB]), (hw, aI ca 5 w)]) (wr := [(h7, oB 7 [.ref hd, .ref h0, .ref s0, .ref hp, .ref hi, .ref hc, .ref hg, .ref hq, .ref hz, .ref hL, .ref hy]), (hp, oB 3 [.ref hr0, vI nx, vI kn])]) (k_X6_weightWithLump l g ca h0 h1 b n lm hL hw he hdn hdw w du hv mo oft la pA pB (by first | assumption | omega) (by first | assumption | omega)) dX7_now_69 (cwV 1 hts gX7_now_X6_weightWithLump rfl rfl rfl (by decide +kernel) (by rw [hR]; exact ⟨Nat.le_of_ble_eq_true rfl, Nat.le_of_ble_eq_true rfl⟩)) ⟨hx, hb, hml, hown, hts⟩ hl.1 hK hP hD hS hA 1 rfl rfl rfl [1, 2, 3, 4] [0, 5] rfl (by decide) rfl (by decide) (by decide) rfl rfl (Nat.le_of_ble_eq_true rfl) (by rw [hR]; exact ⟨Nat.le_of_ble_eq_true rfl, Nat.le_of_ble_eq_true rfl⟩) (fun z69 u H locs q69 hP hD hS => ?_)
    have q69 : z69 = wgt b w n + lm := q69
    have hP : va_P g vwCl [(h7, oB 7 [.ref hd, .ref h0, .ref s0, .ref hp, .ref hi, .ref hc, .ref hg, .ref hq, .ref hz, .ref hL, .ref hy]), (h0, oB 6 [.ref h1, vI n, vJ lm]), (h1, aJ ca 605 b), (hL, oB 2 [.ref hw, .ref he, .ref hdn, .ref hdw, vI du, vI hv, vI mo, vI oft, vI la, vI pA, vI pB]), (hw, aI ca 5 w), (hp, oB 3 [.ref hr0, vI nx, vI kn])] H := hP.sub [0, 2, 3, 4, 5, 1] rfl
    have hD : va_D A [(h7, oB 7 [.ref hd, .ref h0, .ref s0, .ref hp, .ref hi, .ref hc, .ref hg, .ref hq, .ref hz, .ref hL, .ref hy]), (h0, oB 6 [.ref h1, vI n, vJ lm]), (h1, aJ ca 605 b), (hL, oB 2 [.ref hw, .ref he, .ref hdn, .ref hdw, vI du, vI hv, vI mo, vI oft, vI la, vI pA, vI pB]), (hw, aI ca 5 w), (hp, oB 3 [.ref hr0, vI nx, vI kn])] := hD.sub [0, 2, 3, 4, 5, 1] (by decide) rfl
    refine zr_J hx hb hr hlk hQ () hP hD hS dX7_now_72 (Nat.le_of_ble_eq_true rfl) (Nat.le_of_ble_eq_true rfl) ?_
    show z69 = nov w b n lm kn x
    unfold nov
    first
    | (rw [if_pos (by omega)])
    | (rw [if_neg (by omega), if_pos (by omega)])
    | (rw [if_neg (by omega), if_neg (by omega), if_pos (by omega), q57])
    | (rw [if_neg (by omega), if_neg (by omega), if_neg (by omega), if_pos (by omega), q69])
    | (rw [if_neg (by omega), if_neg (by omega), if_neg (by omega), if_neg (by omega), if_pos (by omega)])
    | (rw [if_neg (by omega), if_neg (by omega), if_neg (by omega), if_neg (by omega), if_neg (by omega)])
  by_cases c1_5 : x = 4
  · skip
    refine ri_to c1_5 ?_
    refine lv_tableIn (tgt := 73) hx hb dX7_now_1 (by rw [xi_to ⟨by omega, by omega⟩]; omega) (by rw [xi_to ⟨by omega, by omega⟩]; omega) (off := 72) (by rw [xi_to ⟨by omega, by omega⟩]; rfl) (by decide) ?_
    refine lv_aload_n hx hb dX7_now_73 rfl (lv_at hl 0 rfl) ?_
    refine va_get (D := g) (ci := 7) (v := .ref hp) (C := RX7) (T := TX7) (N := 11) hx hb hts inF_X7 hown hK.1 hP 0 rfl rfl 3 (by decide) lk_f29 (fun _ h9 => h9) rfl dX7_now_74 ?_
    refine va_get (D := g) (ci := 3) (v := vI kn) (C := RX3) (T := TX3) (N := 3) hx hb hts inF_X3 hown hK.1 hP 5 rfl rfl 2 (by decide) lk_f140 (fun _ h9 => h9) rfl dX7_now_77 ?_
    refine ri_l hx hb dX7_now_80 ⟨by omega, by omega⟩ ?_
    refine zr_J hx hb hr hlk hQ () hP hD hS dX7_now_81 (Nat.le_of_ble_eq_true rfl) (Nat.le_of_ble_eq_true rfl) ?_
    show kn = nov w b n lm kn x
    unfold nov
    first
    | (rw [if_pos (by omega)])
    | (rw [if_neg (by omega), if_pos (by omega)])
    | (rw [if_neg (by omega), if_neg (by omega), if_pos (by omega), q57])
    | (rw [if_neg (by omega), if_neg (by omega), if_neg (by omega), if_pos (by omega), q69])
    | (rw [if_neg (by omega), if_neg (by omega), if_neg (by omega), if_neg (by omega), if_pos (by omega)])
    | (rw [if_neg (by omega), if_neg (by omega), if_neg (by omega), if_neg (by omega), if_neg (by omega)])
  refine lv_tableOut (tgt := 82) hx hb dX7_now_1 (by rw [xi_to hx0]; omega) (by decide) ?_
  refine rj_ldc (z := (-1)) hx hb hown lk_c143 dX7_now_82 (by decide) ?_
  refine zr_J hx hb hr hlk hQ () hP hD hS dX7_now_85 (Nat.le_of_ble_eq_true rfl) (Nat.le_of_ble_eq_true rfl) ?_
  show (-1) = nov w b n lm kn x
  unfold nov
  first
  | (rw [if_pos (by omega)])
  | (rw [if_neg (by omega), if_pos (by omega)])
  | (rw [if_neg (by omega), if_neg (by omega), if_pos (by omega), q57])
  | (rw [if_neg (by omega), if_neg (by omega), if_neg (by omega), if_pos (by omega), q69])
  | (rw [if_neg (by omega), if_neg (by omega), if_neg (by omega), if_neg (by omega), if_pos (by omega)])
  | (rw [if_neg (by omega), if_neg (by omega), if_neg (by omega), if_neg (by omega), if_neg (by omega)])
set_option maxHeartbeats 4000000 in
set_option maxRecDepth 100000 in
theorem k_X7_lay (l : Launch) (g : va_G) (ca : Nat → ClassId) (h7 : Nat) (hd : Nat) (h0 : Nat) (s0 : Nat) (hp : Nat) (hi : Nat) (hc : Nat) (hg : Nat) (hq : Nat) (hz : Nat) (hL : Nat) (hy : Nat) (hgo : Nat) (hgn : Nat) (go : Int → Int) (gn : Int → Int) (to : Int) (o : Int) (x : Int) (hto : 0 ≤ to ∧ to ≤ 5) (hx0 : in32 o) (hx1 : in32 x) : zI (S := Int × (Int → Int) × (Int → Int)) l yX7_lay wsX7_lay ({ frames := 2, cells := 0, slots := 0, locals := 42 } : Room) g ca [.ref h7, vI o, vI x] [(h7, oB 7 [.ref hd, .ref h0, .ref s0, .ref hp, .ref hi, .ref hc, .ref hg, .ref hq, .ref hz, .ref hL, .ref hy]), (hg, oB 0 [.ref hgo, .ref hgn, vI to]), (hgo, aI ca 5 go), (hgn, aI ca 5 gn)] (fun (z : Int) (u : Int × (Int → Int) × (Int → Int)) => (¬ ((0 ≤ o ∧ o ≤ 4) ∧ 0 ≤ x ∧ x ≤ 1000000) ∧ z = -1 ∧ u.1 = to ∧ u.2.1 = go ∧ u.2.2 = gn) ∨ (((0 ≤ o ∧ o ≤ 4) ∧ 0 ≤ x ∧ x ≤ 1000000) ∧ to = 5 ∧ z = -3 ∧ u.1 = to ∧ u.2.1 = go ∧ u.2.2 = gn) ∨ (((0 ≤ o ∧ o ≤ 4) ∧ 0 ≤ x ∧ x ≤ 1000000) ∧ to < 5 ∧ z = to + 1 ∧ u.1 = to + 1 ∧ u.2.1 = zu go to o ∧ u.2.2 = zu gn to x)) (fun (u : Int × (Int → Int) × (Int → Int)) => [(h7, oB 7 [.ref hd, .ref h0, .ref s0, .ref hp, .ref hi, .ref hc, .ref hg, .ref hq, .ref hz, .ref hL, .ref hy]), (hg, oB 0 [.ref hgo, .ref hgn, vI u.1]), (hgo, aI ca 5 u.2.1), (hgn, aI ca 5 u.2.2)]) 0 0 := by
  refine zm_I (cc := cX7_lay) (maxL := 3) (ret := some .int) (by decide) rfl (Nat.le_of_ble_eq_true rfl) ?_
  intro p e s m below meth c A ls R args Q hR hargs hQ hx hb hml hr hts hown hlk hnm hK hP hD hA hS hl
  have hown : s.vm.findClass RX7 = some m.cls := hown
  have hl : lv_has ls 3 [(0, .ref h7), (1, vI o), (2, vI x)] := hl
  have lk_c154 : (Cond.constant RX7 154 (1000000)).before args s = true := hts _ (by decide +kernel)
  have lk_f44 : (Cond.fieldLink RX7 44 "DripRings" "grave" "LDripRings$Grave;").before args s = true := hts _ (by decide +kernel)
  have inF_X7 : ∀ w ∈ wsX70, w ∈ wsX7_lay := by decide +kernel
  have lk_f198 : (Cond.fieldLink RX7 198 "DripRings$Grave" "told" "I").before args s = true := hts _ (by decide +kernel)
  have inF_X0 : ∀ w ∈ wsX00, w ∈ wsX7_lay := by decide +kernel
  refine lv_iload_n hx hb dX7_lay_0 rfl (lv_at hl 1 rfl) ?_
  refine zc_SI (As := [vI o]) (rest := []) (wc := []) (wr := [(h7, oB 7 [.ref hd, .ref h0, .ref s0, .ref hp, .ref hi, .ref hc, .ref hg, .ref hq, .ref hz, .ref hL, .ref hy]), (hg, oB 0 [.ref hgo, .ref hgn, vI to]), (hgo, aI ca 5 go), (hgn, aI ca 5 gn)]) (k_X7_isNoOrder l g ca o (by exact hx0)) dX7_lay_1 (va_cwS 1 hts gX7_lay_X7_isNoOrder rfl rfl rfl (by decide +kernel) (by rw [hR]; exact ⟨Nat.le_of_ble_eq_true rfl, Nat.le_of_ble_eq_true rfl⟩)) ⟨hx, hb, hml, hown, hts⟩ hl.1 hK hP hD hS hA [] [0, 1, 2, 3] rfl (by decide) rfl (by decide) (by decide) rfl rfl (Nat.le_of_ble_eq_true rfl) (by rw [hR]; exact ⟨Nat.le_of_ble_eq_true rfl, Nat.le_of_ble_eq_true rfl⟩) (fun z1 u H locs q1 hP hD hS => ?_)
  have q1 : (z1 = 1 ∧ ¬ (0 ≤ o ∧ o ≤ 4)) ∨ (z1 = 0 ∧ 0 ≤ o ∧ o ≤ 4) := q1
  have hP : va_P g vwCl [(h7, oB 7 [.ref hd, .ref h0, .ref s0, .ref hp, .ref hi, .ref hc, .ref hg, .ref hq, .ref hz, .ref hL, .ref hy]), (hg, oB 0 [.ref hgo, .ref hgn, vI to]), (hgo, aI ca 5 go), (hgn, aI ca 5 gn)] H := hP.sub [0, 1, 2, 3] rfl
  have hD : va_D A [(h7, oB 7 [.ref hd, .ref h0, .ref s0, .ref hp, .ref hi, .ref hc, .ref hg, .ref hq, .ref hz, .ref hL, .ref hy]), (hg, oB 0 [.ref hgo, .ref hgn, vI to]), (hgo, aI ca 5 go), (hgn, aI ca 5 gn)] := hD.sub [0, 1, 2, 3] (by decide) rfl
  refine ri_if_ne (tgt := 17) hx hb dX7_lay_4 (by decide) ⟨by omega, by omega⟩ (fun c4 => ?_) (fun c4 => ?_)
  · skip
    refine lv_iconst (v := Int32.ofInt (-1)) hx hb dX7_lay_17 rfl ?_
    refine zr_I hx hb hr hlk hQ (to, go, gn) hP hD hS dX7_lay_18 (Nat.le_of_ble_eq_true rfl) (Nat.le_of_ble_eq_true rfl) ?_
    show (¬ ((0 ≤ o ∧ o ≤ 4) ∧ 0 ≤ x ∧ x ≤ 1000000) ∧ (-1) = -1 ∧ to = to ∧ go = go ∧ gn = gn) ∨ (((0 ≤ o ∧ o ≤ 4) ∧ 0 ≤ x ∧ x ≤ 1000000) ∧ to = 5 ∧ (-1) = -3 ∧ to = to ∧ go = go ∧ gn = gn) ∨ (((0 ≤ o ∧ o ≤ 4) ∧ 0 ≤ x ∧ x ≤ 1000000) ∧ to < 5 ∧ (-1) = to + 1 ∧ to = to + 1 ∧ go = zu go to o ∧ gn = zu gn to x)
    first
    | exact Or.inl ⟨by omega, rfl, rfl, rfl, rfl⟩
    | (rcases q25 with q9 | q9
       · first
         | exact Or.inr (Or.inr ⟨by omega, by omega, by omega, q9.2.2.2.2, q9.2.2.1, q9.2.2.2.1⟩)
         | (exfalso; omega)
       · first
         | exact Or.inr (Or.inl ⟨by omega, by omega, rfl, q9.2.2.2.2, q9.2.2.1, q9.2.2.2.1⟩)
         | (exfalso; omega))
  · skip
    refine lv_iload_n hx hb dX7_lay_7 rfl (lv_at hl 2 rfl) ?_
    refine lv_iconst (v := Int32.ofInt 0) hx hb dX7_lay_8 rfl ?_
    refine ri_ldc (z := 1000000) hx hb hown lk_c154 dX7_lay_9 (by decide) ?_
    refine zc_SI (As := [vI x, vI 0, vI 1000000]) (rest := []) (wc := []) (wr := [(h7, oB 7 [.ref hd, .ref h0, .ref s0, .ref hp, .ref hi, .ref hc, .ref hg, .ref hq, .ref hz, .ref hL, .ref hy]), (hg, oB 0 [.ref hgo, .ref hgn, vI to]), (hgo, aI ca 5 go), (hgn, aI ca 5 gn)]) (k_X7_isOutside l g ca x 0 1000000 (by exact hx1) (by exact ⟨by omega, by omega⟩) (by exact ⟨by omega, by omega⟩)) dX7_lay_11 (va_cwS 3 hts gX7_lay_X7_isOutside rfl rfl rfl (by decide +kernel) (by rw [hR]; exact ⟨Nat.le_of_ble_eq_true rfl, Nat.le_of_ble_eq_true rfl⟩)) ⟨hx, hb, hml, hown, hts⟩ hl.1 hK hP hD hS hA [] [0, 1, 2, 3] rfl (by decide) rfl (by decide) (by decide) rfl rfl (Nat.le_of_ble_eq_true rfl) (by rw [hR]; exact ⟨Nat.le_of_ble_eq_true rfl, Nat.le_of_ble_eq_true rfl⟩) (fun z11 u H locs q11 hP hD hS => ?_)
    have q11 : (z11 = 1 ∧ ¬ (0 ≤ x ∧ x ≤ 1000000)) ∨ (z11 = 0 ∧ 0 ≤ x ∧ x ≤ 1000000) := q11
    have hP : va_P g vwCl [(h7, oB 7 [.ref hd, .ref h0, .ref s0, .ref hp, .ref hi, .ref hc, .ref hg, .ref hq, .ref hz, .ref hL, .ref hy]), (hg, oB 0 [.ref hgo, .ref hgn, vI to]), (hgo, aI ca 5 go), (hgn, aI ca 5 gn)] H := hP.sub [0, 1, 2, 3] rfl
    have hD : va_D A [(h7, oB 7 [.ref hd, .ref h0, .ref s0, .ref hp, .ref hi, .ref hc, .ref hg, .ref hq, .ref hz, .ref hL, .ref hy]), (hg, oB 0 [.ref hgo, .ref hgn, vI to]), (hgo, aI ca 5 go), (hgn, aI ca 5 gn)] := hD.sub [0, 1, 2, 3] (by decide) rfl
    refine ri_if_eq (tgt := 19) hx hb dX7_lay_14 (by decide) ⟨by omega, by omega⟩ (fun c14 => ?_) (fun c14 => ?_)
    · skip
      refine lv_aload_n hx hb dX7_lay_19 rfl (lv_at hl 0 rfl) ?_
      refine va_get (D := g) (ci := 7) (v := .ref hg) (C := RX7) (T := TX7) (N := 11) hx hb hts inF_X7 hown hK.1 hP 0 rfl rfl 6 (by decide) lk_f44 (fun _ h9 => h9) rfl dX7_lay_20 ?_
      refine lv_iload_n hx hb dX7_lay_23 rfl (lv_at hl 1 rfl) ?_
      refine lv_iload_n hx hb dX7_lay_24 rfl (lv_at hl 2 rfl) ?_
      refine zc_VI (As := [vI o, vI x]) (rest := []) (wc := [(hg, oB 0 [.ref hgo, .ref hgn, vI to]), (hgo, aI ca 5 go), (hgn, aI ca 5 gn)]) (wr := [(h7, oB 7 [.ref hd, .ref h0, .ref s0, .ref hp, .ref hi, .ref hc, .ref hg, .ref hq, .ref hz, .ref hL, .ref hy])]) (k_X0_add l g ca hg hgo hgn go gn to o x (by first | assumption | omega)) dX7_lay_25 (cwV 2 hts gX7_lay_X0_add rfl rfl rfl (by decide +kernel) (by rw [hR]; exact ⟨Nat.le_of_ble_eq_true rfl, Nat.le_of_ble_eq_true rfl⟩)) ⟨hx, hb, hml, hown, hts⟩ hl.1 hK hP hD hS hA 1 rfl rfl rfl [1, 2, 3] [0] rfl (by decide) rfl (by decide) (by decide) rfl rfl (Nat.le_of_ble_eq_true rfl) (by rw [hR]; exact ⟨Nat.le_of_ble_eq_true rfl, Nat.le_of_ble_eq_true rfl⟩) (fun z25 u H locs q25 hP hD hS => ?_)
      obtain ⟨go1_25, gn1_25, to1_25⟩ := u
      have q25 : (to < 5 ∧ z25 = 1 ∧ go1_25 = zu go to o ∧ gn1_25 = zu gn to x ∧ to1_25 = to + 1) ∨ (to = 5 ∧ z25 = 0 ∧ go1_25 = go ∧ gn1_25 = gn ∧ to1_25 = to) := q25
      have hP : va_P g vwCl [(h7, oB 7 [.ref hd, .ref h0, .ref s0, .ref hp, .ref hi, .ref hc, .ref hg, .ref hq, .ref hz, .ref hL, .ref hy]), (hg, oB 0 [.ref hgo, .ref hgn, vI to1_25]), (hgo, aI ca 5 go1_25), (hgn, aI ca 5 gn1_25)] H := hP.sub [0, 1, 2, 3] rfl
      have hD : va_D A [(h7, oB 7 [.ref hd, .ref h0, .ref s0, .ref hp, .ref hi, .ref hc, .ref hg, .ref hq, .ref hz, .ref hL, .ref hy]), (hg, oB 0 [.ref hgo, .ref hgn, vI to1_25]), (hgo, aI ca 5 go1_25), (hgn, aI ca 5 gn1_25)] := hD.sub [0, 1, 2, 3] (by decide) rfl
      refine ri_if_eq (tgt := 41) hx hb dX7_lay_28 (by decide) ⟨by omega, by omega⟩ (fun c28 => ?_) (fun c28 => ?_)
      · skip
        refine lv_bipush (v := Int32.ofInt (-3)) hx hb dX7_lay_41 (by decide) ?_
        refine zr_I hx hb hr hlk hQ (to1_25, go1_25, gn1_25) hP hD hS dX7_lay_43 (Nat.le_of_ble_eq_true rfl) (Nat.le_of_ble_eq_true rfl) ?_
        show (¬ ((0 ≤ o ∧ o ≤ 4) ∧ 0 ≤ x ∧ x ≤ 1000000) ∧ (-3) = -1 ∧ to1_25 = to ∧ go1_25 = go ∧ gn1_25 = gn) ∨ (((0 ≤ o ∧ o ≤ 4) ∧ 0 ≤ x ∧ x ≤ 1000000) ∧ to = 5 ∧ (-3) = -3 ∧ to1_25 = to ∧ go1_25 = go ∧ gn1_25 = gn) ∨ (((0 ≤ o ∧ o ≤ 4) ∧ 0 ≤ x ∧ x ≤ 1000000) ∧ to < 5 ∧ (-3) = to + 1 ∧ to1_25 = to + 1 ∧ go1_25 = zu go to o ∧ gn1_25 = zu gn to x)
        first
        | exact Or.inl ⟨by omega, rfl, rfl, rfl, rfl⟩
        | (rcases q25 with q9 | q9
           · first
             | exact Or.inr (Or.inr ⟨by omega, by omega, by omega, q9.2.2.2.2, q9.2.2.1, q9.2.2.2.1⟩)
             | (exfalso; omega)
           · first
             | exact Or.inr (Or.inl ⟨by omega, by omega, rfl, q9.2.2.2.2, q9.2.2.1, q9.2.2.2.1⟩)
             | (exfalso; omega))
      · skip
        refine lv_aload_n hx hb dX7_lay_31 rfl (lv_at hl 0 rfl) ?_
        refine va_get (D := g) (ci := 7) (v := .ref hg) (C := RX7) (T := TX7) (N := 11) hx hb hts inF_X7 hown hK.1 hP 0 rfl rfl 6 (by decide) lk_f44 (fun _ h9 => h9) rfl dX7_lay_32 ?_
        refine va_get (D := g) (ci := 0) (v := vI to1_25) (C := RX0) (T := TX0) (N := 3) hx hb hts inF_X0 hown hK.1 hP 1 rfl rfl 2 (by decide) lk_f198 (fun _ h9 => h9) rfl dX7_lay_35 ?_
        refine lv_goto (tgt := 43) hx hb dX7_lay_38 (by decide) ?_
        refine zr_I hx hb hr hlk hQ (to1_25, go1_25, gn1_25) hP hD hS dX7_lay_43 (Nat.le_of_ble_eq_true rfl) (Nat.le_of_ble_eq_true rfl) ?_
        show (¬ ((0 ≤ o ∧ o ≤ 4) ∧ 0 ≤ x ∧ x ≤ 1000000) ∧ to1_25 = -1 ∧ to1_25 = to ∧ go1_25 = go ∧ gn1_25 = gn) ∨ (((0 ≤ o ∧ o ≤ 4) ∧ 0 ≤ x ∧ x ≤ 1000000) ∧ to = 5 ∧ to1_25 = -3 ∧ to1_25 = to ∧ go1_25 = go ∧ gn1_25 = gn) ∨ (((0 ≤ o ∧ o ≤ 4) ∧ 0 ≤ x ∧ x ≤ 1000000) ∧ to < 5 ∧ to1_25 = to + 1 ∧ to1_25 = to + 1 ∧ go1_25 = zu go to o ∧ gn1_25 = zu gn to x)
        first
        | exact Or.inl ⟨by omega, rfl, rfl, rfl, rfl⟩
        | (rcases q25 with q9 | q9
           · first
             | exact Or.inr (Or.inr ⟨by omega, by omega, by omega, q9.2.2.2.2, q9.2.2.1, q9.2.2.2.1⟩)
             | (exfalso; omega)
           · first
             | exact Or.inr (Or.inl ⟨by omega, by omega, rfl, q9.2.2.2.2, q9.2.2.1, q9.2.2.2.1⟩)
             | (exfalso; omega))
    · skip
      refine lv_iconst (v := Int32.ofInt (-1)) hx hb dX7_lay_17 rfl ?_
      refine zr_I hx hb hr hlk hQ (to, go, gn) hP hD hS dX7_lay_18 (Nat.le_of_ble_eq_true rfl) (Nat.le_of_ble_eq_true rfl) ?_
      show (¬ ((0 ≤ o ∧ o ≤ 4) ∧ 0 ≤ x ∧ x ≤ 1000000) ∧ (-1) = -1 ∧ to = to ∧ go = go ∧ gn = gn) ∨ (((0 ≤ o ∧ o ≤ 4) ∧ 0 ≤ x ∧ x ≤ 1000000) ∧ to = 5 ∧ (-1) = -3 ∧ to = to ∧ go = go ∧ gn = gn) ∨ (((0 ≤ o ∧ o ≤ 4) ∧ 0 ≤ x ∧ x ≤ 1000000) ∧ to < 5 ∧ (-1) = to + 1 ∧ to = to + 1 ∧ go = zu go to o ∧ gn = zu gn to x)
      first
      | exact Or.inl ⟨by omega, rfl, rfl, rfl, rfl⟩
      | (rcases q25 with q9 | q9
         · first
           | exact Or.inr (Or.inr ⟨by omega, by omega, by omega, q9.2.2.2.2, q9.2.2.1, q9.2.2.2.1⟩)
           | (exfalso; omega)
         · first
           | exact Or.inr (Or.inl ⟨by omega, by omega, rfl, q9.2.2.2.2, q9.2.2.1, q9.2.2.2.1⟩)
           | (exfalso; omega))
set_option maxHeartbeats 4000000 in
set_option maxRecDepth 100000 in
theorem k_X7_forget (l : Launch) (g : va_G) (ca : Nat → ClassId) (h7 : Nat) (hd : Nat) (h0 : Nat) (s0 : Nat) (hp : Nat) (hi : Nat) (hc : Nat) (hg : Nat) (hq : Nat) (hz : Nat) (hL : Nat) (hy : Nat) (hgo : Nat) (hgn : Nat) (to : Int)  : zI (S := Unit) l yX7_forget wsX7_forget ({ frames := 1, cells := 0, slots := 0, locals := 21 } : Room) g ca [.ref h7] [(h7, oB 7 [.ref hd, .ref h0, .ref s0, .ref hp, .ref hi, .ref hc, .ref hg, .ref hq, .ref hz, .ref hL, .ref hy]), (hg, oB 0 [.ref hgo, .ref hgn, vI to])] (fun (z : Int) (u : Unit) => z = to) (fun (u : Unit) => [(h7, oB 7 [.ref hd, .ref h0, .ref s0, .ref hp, .ref hi, .ref hc, .ref hg, .ref hq, .ref hz, .ref hL, .ref hy]), (hg, oB 0 [.ref hgo, .ref hgn, vI 0])]) 0 0 := by
  refine zm_I (cc := cX7_forget) (maxL := 1) (ret := some .int) (by decide) rfl (Nat.le_of_ble_eq_true rfl) ?_
  intro p e s m below meth c A ls R args Q hR hargs hQ hx hb hml hr hts hown hlk hnm hK hP hD hA hS hl
  have hown : s.vm.findClass RX7 = some m.cls := hown
  have hl : lv_has ls 1 [(0, .ref h7)] := hl
  have lk_f44 : (Cond.fieldLink RX7 44 "DripRings" "grave" "LDripRings$Grave;").before args s = true := hts _ (by decide +kernel)
  have inF_X7 : ∀ w ∈ wsX70, w ∈ wsX7_forget := by decide +kernel
  refine lv_aload_n hx hb dX7_forget_0 rfl (lv_at hl 0 rfl) ?_
  refine va_get (D := g) (ci := 7) (v := .ref hg) (C := RX7) (T := TX7) (N := 11) hx hb hts inF_X7 hown hK.1 hP 0 rfl rfl 6 (by decide) lk_f44 (fun _ h9 => h9) rfl dX7_forget_1 ?_
  refine zc_VI (As := []) (rest := []) (wc := [(hg, oB 0 [.ref hgo, .ref hgn, vI to])]) (wr := [(h7, oB 7 [.ref hd, .ref h0, .ref s0, .ref hp, .ref hi, .ref hc, .ref hg, .ref hq, .ref hz, .ref hL, .ref hy])]) (k_X0_wipe l g ca hg hgo hgn to ) dX7_forget_4 (cwV 0 hts gX7_forget_X0_wipe rfl rfl rfl (by decide +kernel) (by rw [hR]; exact ⟨Nat.le_of_ble_eq_true rfl, Nat.le_of_ble_eq_true rfl⟩)) ⟨hx, hb, hml, hown, hts⟩ hl.1 hK hP hD hS hA 1 rfl rfl rfl [1] [0] rfl (by decide) rfl (by decide) (by decide) rfl rfl (Nat.le_of_ble_eq_true rfl) (by rw [hR]; exact ⟨Nat.le_of_ble_eq_true rfl, Nat.le_of_ble_eq_true rfl⟩) (fun z4 u H locs q4 hP hD hS => ?_)
  have q4 : z4 = to := q4
  have hP : va_P g vwCl [(h7, oB 7 [.ref hd, .ref h0, .ref s0, .ref hp, .ref hi, .ref hc, .ref hg, .ref hq, .ref hz, .ref hL, .ref hy]), (hg, oB 0 [.ref hgo, .ref hgn, vI 0])] H := hP.sub [0, 1] rfl
  have hD : va_D A [(h7, oB 7 [.ref hd, .ref h0, .ref s0, .ref hp, .ref hi, .ref hc, .ref hg, .ref hq, .ref hz, .ref hL, .ref hy]), (hg, oB 0 [.ref hgo, .ref hgn, vI 0])] := hD.sub [0, 1] (by decide) rfl
  refine zr_I hx hb hr hlk hQ () hP hD hS dX7_forget_7 (Nat.le_of_ble_eq_true rfl) (Nat.le_of_ble_eq_true rfl) ?_
  show z4 = to
  exact q4
set_option maxHeartbeats 4000000 in
set_option maxRecDepth 100000 in
theorem k_X7_rate (l : Launch) (g : va_G) (ca : Nat → ClassId) (h7 : Nat) (hd : Nat) (h0 : Nat) (s0 : Nat) (hp : Nat) (hi : Nat) (hc : Nat) (hg : Nat) (hq : Nat) (hz : Nat) (hL : Nat) (hy : Nat) (h1 : Nat) (b : Int → Int) (n : Int) (lm : Int) (hw : Nat) (he : Nat) (hdn : Nat) (hdw : Nat) (w : Int → Int) (ea : Int → Int) (du : Int) (hv : Int) (mo : Int) (oft : Int) (la : Int) (pA : Int) (pB : Int) (tr : Int) (kd0 : Int) (o : Int) (hB : GB b n) (hx0 : in32 kd0) (hx1 : in32 o) : zI (S := Int) l yX7_rate wsX7_rate ({ frames := 4, cells := 0, slots := 0, locals := 90 } : Room) g ca [.ref h7, vI kd0, vI o] [(h7, oB 7 [.ref hd, .ref h0, .ref s0, .ref hp, .ref hi, .ref hc, .ref hg, .ref hq, .ref hz, .ref hL, .ref hy]), (h0, oB 6 [.ref h1, vI n, vJ lm]), (h1, aJ ca 605 b), (hL, oB 2 [.ref hw, .ref he, .ref hdn, .ref hdw, vI du, vI hv, vI mo, vI oft, vI la, vI pA, vI pB]), (hw, aI ca 5 w), (he, aI ca 5 ea), (hz, oB 1 [vJ tr])] (fun (z : Int) (u : Int) => z = (if 0 ≤ o ∧ o ≤ 4 then rtv kd0 w ea mo n o else -1000000) ∧ u = tr + (if 0 ≤ o ∧ o ≤ 4 then rtt kd0 else 0)) (fun (u : Int) => [(h7, oB 7 [.ref hd, .ref h0, .ref s0, .ref hp, .ref hi, .ref hc, .ref hg, .ref hq, .ref hz, .ref hL, .ref hy]), (h0, oB 6 [.ref h1, vI n, vJ lm]), (h1, aJ ca 605 b), (hL, oB 2 [.ref hw, .ref he, .ref hdn, .ref hdw, vI du, vI hv, vI mo, vI oft, vI la, vI pA, vI pB]), (hw, aI ca 5 w), (he, aI ca 5 ea), (hz, oB 1 [vJ u])]) 0 0 := by
  refine zm_I (cc := cX7_rate) (maxL := 3) (ret := some .int) (by decide) rfl (Nat.le_of_ble_eq_true rfl) ?_
  intro p e s m below meth c A ls R args Q hR hargs hQ hx hb hml hr hts hown hlk hnm hK hP hD hA hS hl
  have hown : s.vm.findClass RX7 = some m.cls := hown
  have hl : lv_has ls 3 [(0, .ref h7), (1, vI kd0), (2, vI o)] := hl
  have lk_f58 : (Cond.fieldLink RX7 58 "DripRings" "kinds" "LDripRings$Kinds;").before args s = true := hts _ (by decide +kernel)
  have inF_X7 : ∀ w ∈ wsX70, w ∈ wsX7_rate := by decide +kernel
  have lk_f65 : (Cond.fieldLink RX7 65 "DripRings" "law" "LDripRings$Law;").before args s = true := hts _ (by decide +kernel)
  have lk_f19 : (Cond.fieldLink RX7 19 "DripRings" "rings" "LDripRings$Rings;").before args s = true := hts _ (by decide +kernel)
  have lk_f125 : (Cond.fieldLink RX7 125 "DripRings$Rings" "night" "I").before args s = true := hts _ (by decide +kernel)
  have inF_X6 : ∀ w ∈ wsX60, w ∈ wsX7_rate := by decide +kernel
  have lk_c212 : (Cond.constant RX7 212 (-1000000)).before args s = true := hts _ (by decide +kernel)
  have hn0 := hB.1
  refine lv_iload_n hx hb dX7_rate_0 rfl (lv_at hl 2 rfl) ?_
  refine zc_SI (As := [vI o]) (rest := []) (wc := []) (wr := [(h7, oB 7 [.ref hd, .ref h0, .ref s0, .ref hp, .ref hi, .ref hc, .ref hg, .ref hq, .ref hz, .ref hL, .ref hy]), (h0, oB 6 [.ref h1, vI n, vJ lm]), (h1, aJ ca 605 b), (hL, oB 2 [.ref hw, .ref he, .ref hdn, .ref hdw, vI du, vI hv, vI mo, vI oft, vI la, vI pA, vI pB]), (hw, aI ca 5 w), (he, aI ca 5 ea), (hz, oB 1 [vJ tr])]) (k_X7_isNoOrder l g ca o (by exact hx1)) dX7_rate_1 (va_cwS 1 hts gX7_rate_X7_isNoOrder rfl rfl rfl (by decide +kernel) (by rw [hR]; exact ⟨Nat.le_of_ble_eq_true rfl, Nat.le_of_ble_eq_true rfl⟩)) ⟨hx, hb, hml, hown, hts⟩ hl.1 hK hP hD hS hA [] [0, 1, 2, 3, 4, 5, 6] rfl (by decide) rfl (by decide) (by decide) rfl rfl (Nat.le_of_ble_eq_true rfl) (by rw [hR]; exact ⟨Nat.le_of_ble_eq_true rfl, Nat.le_of_ble_eq_true rfl⟩) (fun z1 u H locs q1 hP hD hS => ?_)
  have q1 : (z1 = 1 ∧ ¬ (0 ≤ o ∧ o ≤ 4)) ∨ (z1 = 0 ∧ 0 ≤ o ∧ o ≤ 4) := q1
  have hP : va_P g vwCl [(h7, oB 7 [.ref hd, .ref h0, .ref s0, .ref hp, .ref hi, .ref hc, .ref hg, .ref hq, .ref hz, .ref hL, .ref hy]), (h0, oB 6 [.ref h1, vI n, vJ lm]), (h1, aJ ca 605 b), (hL, oB 2 [.ref hw, .ref he, .ref hdn, .ref hdw, vI du, vI hv, vI mo, vI oft, vI la, vI pA, vI pB]), (hw, aI ca 5 w), (he, aI ca 5 ea), (hz, oB 1 [vJ tr])] H := hP.sub [0, 1, 2, 3, 4, 5, 6] rfl
  have hD : va_D A [(h7, oB 7 [.ref hd, .ref h0, .ref s0, .ref hp, .ref hi, .ref hc, .ref hg, .ref hq, .ref hz, .ref hL, .ref hy]), (h0, oB 6 [.ref h1, vI n, vJ lm]), (h1, aJ ca 605 b), (hL, oB 2 [.ref hw, .ref he, .ref hdn, .ref hdw, vI du, vI hv, vI mo, vI oft, vI la, vI pA, vI pB]), (hw, aI ca 5 w), (he, aI ca 5 ea), (hz, oB 1 [vJ tr])] := hD.sub [0, 1, 2, 3, 4, 5, 6] (by decide) rfl
  refine ri_if_eq (tgt := 12) hx hb dX7_rate_4 (by decide) ⟨by omega, by omega⟩ (fun c4 => ?_) (fun c4 => ?_)
  · skip
    refine lv_aload_n hx hb dX7_rate_12 rfl (lv_at hl 0 rfl) ?_
    refine va_get (D := g) (ci := 7) (v := .ref hz) (C := RX7) (T := TX7) (N := 11) hx hb hts inF_X7 hown hK.1 hP 0 rfl rfl 8 (by decide) lk_f58 (fun _ h9 => h9) rfl dX7_rate_13 ?_
    refine lv_iload_n hx hb dX7_rate_16 rfl (lv_at hl 1 rfl) ?_
    refine lv_iload_n hx hb dX7_rate_17 rfl (lv_at hl 2 rfl) ?_
    refine lv_aload_n hx hb dX7_rate_18 rfl (lv_at hl 0 rfl) ?_
    refine va_get (D := g) (ci := 7) (v := .ref hL) (C := RX7) (T := TX7) (N := 11) hx hb hts inF_X7 hown hK.1 hP 0 rfl rfl 9 (by decide) lk_f65 (fun _ h9 => h9) rfl dX7_rate_19 ?_
    refine lv_aload_n hx hb dX7_rate_22 rfl (lv_at hl 0 rfl) ?_
    refine va_get (D := g) (ci := 7) (v := .ref h0) (C := RX7) (T := TX7) (N := 11) hx hb hts inF_X7 hown hK.1 hP 0 rfl rfl 1 (by decide) lk_f19 (fun _ h9 => h9) rfl dX7_rate_23 ?_
    refine va_get (D := g) (ci := 6) (v := vI n) (C := RX6) (T := TX6) (N := 3) hx hb hts inF_X6 hown hK.1 hP 1 rfl rfl 1 (by decide) lk_f125 (fun _ h9 => h9) rfl dX7_rate_26 ?_
    refine zc_VI (As := [vI kd0, vI o, .ref hL, vI n]) (rest := []) (wc := [(hz, oB 1 [vJ tr]), (hL, oB 2 [.ref hw, .ref he, .ref hdn, .ref hdw, vI du, vI hv, vI mo, vI oft, vI la, vI pA, vI pB]), (hw, aI ca 5 w), (he, aI ca 5 ea)]) (wr := [(h7, oB 7 [.ref hd, .ref h0, .ref s0, .ref hp, .ref hi, .ref hc, .ref hg, .ref hq, .ref hz, .ref hL, .ref hy]), (h0, oB 6 [.ref h1, vI n, vJ lm]), (h1, aJ ca 605 b)]) (k_X1_rateAs l g ca hz tr hL hw he hdn hdw w ea du hv mo oft la pA pB kd0 o n (by first | assumption | omega) (by exact hx0)) dX7_rate_29 (cwV 4 hts gX7_rate_X1_rateAs rfl rfl rfl (by decide +kernel) (by rw [hR]; exact ⟨Nat.le_of_ble_eq_true rfl, Nat.le_of_ble_eq_true rfl⟩)) ⟨hx, hb, hml, hown, hts⟩ hl.1 hK hP hD hS hA 6 rfl rfl rfl [6, 3, 4, 5] [0, 1, 2] rfl (by decide) rfl (by decide) (by decide) rfl rfl (Nat.le_of_ble_eq_true rfl) (by rw [hR]; exact ⟨Nat.le_of_ble_eq_true rfl, Nat.le_of_ble_eq_true rfl⟩) (fun z29 u H locs q29 hP hD hS => ?_)
    obtain ⟨tr1_29, rfl⟩ : ∃ q, q = u := ⟨_, rfl⟩
    have q29 : z29 = rtv kd0 w ea mo n o ∧ tr1_29 = tr + rtt kd0 := q29
    obtain ⟨q29_0, q29_1⟩ := q29
    have hP : va_P g vwCl [(h7, oB 7 [.ref hd, .ref h0, .ref s0, .ref hp, .ref hi, .ref hc, .ref hg, .ref hq, .ref hz, .ref hL, .ref hy]), (h0, oB 6 [.ref h1, vI n, vJ lm]), (h1, aJ ca 605 b), (hL, oB 2 [.ref hw, .ref he, .ref hdn, .ref hdw, vI du, vI hv, vI mo, vI oft, vI la, vI pA, vI pB]), (hw, aI ca 5 w), (he, aI ca 5 ea), (hz, oB 1 [vJ tr1_29])] H := hP.sub [0, 1, 2, 4, 5, 6, 3] rfl
    have hD : va_D A [(h7, oB 7 [.ref hd, .ref h0, .ref s0, .ref hp, .ref hi, .ref hc, .ref hg, .ref hq, .ref hz, .ref hL, .ref hy]), (h0, oB 6 [.ref h1, vI n, vJ lm]), (h1, aJ ca 605 b), (hL, oB 2 [.ref hw, .ref he, .ref hdn, .ref hdw, vI du, vI hv, vI mo, vI oft, vI la, vI pA, vI pB]), (hw, aI ca 5 w), (he, aI ca 5 ea), (hz, oB 1 [vJ tr1_29])] := hD.sub [0, 1, 2, 4, 5, 6, 3] (by decide) rfl
    refine zr_I hx hb hr hlk hQ (tr1_29) hP hD hS dX7_rate_32 (Nat.le_of_ble_eq_true rfl) (Nat.le_of_ble_eq_true rfl) ?_
    show z29 = (if 0 ≤ o ∧ o ≤ 4 then rtv kd0 w ea mo n o else -1000000) ∧ tr1_29 = tr + (if 0 ≤ o ∧ o ≤ 4 then rtt kd0 else 0)
    first
    | exact ⟨by rw [if_neg (fun q => by omega)], by rw [if_neg (fun q => by omega)]; omega⟩
    | exact ⟨by rw [if_pos (by omega), q29_0], by rw [if_pos (by omega), q29_1]⟩
  · skip
    refine ri_ldc (z := (-1000000)) hx hb hown lk_c212 dX7_rate_7 (by decide) ?_
    refine lv_goto (tgt := 32) hx hb dX7_rate_9 (by decide) ?_
    refine zr_I hx hb hr hlk hQ (tr) hP hD hS dX7_rate_32 (Nat.le_of_ble_eq_true rfl) (Nat.le_of_ble_eq_true rfl) ?_
    show (-1000000) = (if 0 ≤ o ∧ o ≤ 4 then rtv kd0 w ea mo n o else -1000000) ∧ tr = tr + (if 0 ≤ o ∧ o ≤ 4 then rtt kd0 else 0)
    first
    | exact ⟨by rw [if_neg (fun q => by omega)], by rw [if_neg (fun q => by omega)]; omega⟩
    | exact ⟨by rw [if_pos (by omega), q29_0], by rw [if_pos (by omega), q29_1]⟩
set_option maxHeartbeats 4000000 in
set_option maxRecDepth 100000 in
theorem k_X7_count (l : Launch) (g : va_G) (ca : Nat → ClassId) (h7 : Nat) (hd : Nat) (h0 : Nat) (s0 : Nat) (hp : Nat) (hi : Nat) (hc : Nat) (hg : Nat) (hq : Nat) (hz : Nat) (hL : Nat) (hy : Nat) (hw : Nat) (he : Nat) (hdn : Nat) (hdw : Nat) (du : Int) (hv : Int) (mo : Int) (oft : Int) (la : Int) (pA : Int) (pB : Int) (hgo : Nat) (hgn : Nat) (to : Int) (hdt : Nat) (hdk : Nat) (hds : Nat) (hdv : Nat) (tx : Int) (hh : Int) (fa : Int) (sr : Int) (sl : Int) (st0 : Int) (x : Int) (hto : 0 ≤ to ∧ to ≤ 5) (hx0 : in32 x) : zI (S := Unit) l yX7_count wsX7_count ({ frames := 1, cells := 0, slots := 0, locals := 20 } : Room) g ca [.ref h7, vI x] [(h7, oB 7 [.ref hd, .ref h0, .ref s0, .ref hp, .ref hi, .ref hc, .ref hg, .ref hq, .ref hz, .ref hL, .ref hy]), (hL, oB 2 [.ref hw, .ref he, .ref hdn, .ref hdw, vI du, vI hv, vI mo, vI oft, vI la, vI pA, vI pB]), (hg, oB 0 [.ref hgo, .ref hgn, vI to]), (hd, oB 5 [.ref hdt, .ref hdk, .ref hds, .ref hdv, vI tx, vI hh, vI fa, vI sr, vI sl, vI st0])] (fun (z : Int) (u : Unit) => z = cov mo la du to tx x) (fun (u : Unit) => [(h7, oB 7 [.ref hd, .ref h0, .ref s0, .ref hp, .ref hi, .ref hc, .ref hg, .ref hq, .ref hz, .ref hL, .ref hy]), (hL, oB 2 [.ref hw, .ref he, .ref hdn, .ref hdw, vI du, vI hv, vI mo, vI oft, vI la, vI pA, vI pB]), (hg, oB 0 [.ref hgo, .ref hgn, vI to]), (hd, oB 5 [.ref hdt, .ref hdk, .ref hds, .ref hdv, vI tx, vI hh, vI fa, vI sr, vI sl, vI st0])]) 0 0 := by
  refine zm_I (cc := cX7_count) (maxL := 2) (ret := some .int) (by decide) rfl (Nat.le_of_ble_eq_true rfl) ?_
  intro p e s m below meth c A ls R args Q hR hargs hQ hx hb hml hr hts hown hlk hnm hK hP hD hA hS hl
  have hown : s.vm.findClass RX7 = some m.cls := hown
  have hl : lv_has ls 2 [(0, .ref h7), (1, vI x)] := hl
  have lk_f65 : (Cond.fieldLink RX7 65 "DripRings" "law" "LDripRings$Law;").before args s = true := hts _ (by decide +kernel)
  have inF_X7 : ∀ w ∈ wsX70, w ∈ wsX7_count := by decide +kernel
  have lk_f217 : (Cond.fieldLink RX7 217 "DripRings$Law" "more" "I").before args s = true := hts _ (by decide +kernel)
  have inF_X2 : ∀ w ∈ wsX20, w ∈ wsX7_count := by decide +kernel
  have lk_f220 : (Cond.fieldLink RX7 220 "DripRings$Law" "later" "I").before args s = true := hts _ (by decide +kernel)
  have lk_f115 : (Cond.fieldLink RX7 115 "DripRings$Law" "dues" "I").before args s = true := hts _ (by decide +kernel)
  have lk_f44 : (Cond.fieldLink RX7 44 "DripRings" "grave" "LDripRings$Grave;").before args s = true := hts _ (by decide +kernel)
  have lk_f198 : (Cond.fieldLink RX7 198 "DripRings$Grave" "told" "I").before args s = true := hts _ (by decide +kernel)
  have inF_X0 : ∀ w ∈ wsX00, w ∈ wsX7_count := by decide +kernel
  have lk_f12 : (Cond.fieldLink RX7 12 "DripRings" "reader" "LDripRings$Reader;").before args s = true := hts _ (by decide +kernel)
  refine lv_iload_n hx hb dX7_count_0 rfl (lv_at hl 1 rfl) ?_
  by_cases c1 : x = 0
  · skip
    refine ri_to c1 ?_
    refine lv_tableIn (tgt := 36) hx hb dX7_count_1 (by rw [xi_to ⟨by omega, by omega⟩]; omega) (by rw [xi_to ⟨by omega, by omega⟩]; omega) (off := 35) (by rw [xi_to ⟨by omega, by omega⟩]; rfl) (by decide) ?_
    refine lv_aload_n hx hb dX7_count_36 rfl (lv_at hl 0 rfl) ?_
    refine va_get (D := g) (ci := 7) (v := .ref hL) (C := RX7) (T := TX7) (N := 11) hx hb hts inF_X7 hown hK.1 hP 0 rfl rfl 9 (by decide) lk_f65 (fun _ h9 => h9) rfl dX7_count_37 ?_
    refine va_get (D := g) (ci := 2) (v := vI mo) (C := RX2) (T := TX2) (N := 11) hx hb hts inF_X2 hown hK.1 hP 1 rfl rfl 6 (by decide) lk_f217 (fun _ h9 => h9) rfl dX7_count_40 ?_
    refine zr_I hx hb hr hlk hQ () hP hD hS dX7_count_43 (Nat.le_of_ble_eq_true rfl) (Nat.le_of_ble_eq_true rfl) ?_
    show mo = cov mo la du to tx x
    unfold cov
    first
    | (rw [if_pos (by omega)])
    | (rw [if_neg (by omega), if_pos (by omega)])
    | (rw [if_neg (by omega), if_neg (by omega), if_pos (by omega)])
    | (rw [if_neg (by omega), if_neg (by omega), if_neg (by omega), if_pos (by omega)])
    | (rw [if_neg (by omega), if_neg (by omega), if_neg (by omega), if_neg (by omega), if_pos (by omega)]; exact q72)
    | (rw [if_neg (by omega), if_neg (by omega), if_neg (by omega), if_neg (by omega), if_neg (by omega)])
  by_cases c1_2 : x = 1
  · skip
    refine ri_to c1_2 ?_
    refine lv_tableIn (tgt := 44) hx hb dX7_count_1 (by rw [xi_to ⟨by omega, by omega⟩]; omega) (by rw [xi_to ⟨by omega, by omega⟩]; omega) (off := 43) (by rw [xi_to ⟨by omega, by omega⟩]; rfl) (by decide) ?_
    refine lv_aload_n hx hb dX7_count_44 rfl (lv_at hl 0 rfl) ?_
    refine va_get (D := g) (ci := 7) (v := .ref hL) (C := RX7) (T := TX7) (N := 11) hx hb hts inF_X7 hown hK.1 hP 0 rfl rfl 9 (by decide) lk_f65 (fun _ h9 => h9) rfl dX7_count_45 ?_
    refine va_get (D := g) (ci := 2) (v := vI la) (C := RX2) (T := TX2) (N := 11) hx hb hts inF_X2 hown hK.1 hP 1 rfl rfl 8 (by decide) lk_f220 (fun _ h9 => h9) rfl dX7_count_48 ?_
    refine zr_I hx hb hr hlk hQ () hP hD hS dX7_count_51 (Nat.le_of_ble_eq_true rfl) (Nat.le_of_ble_eq_true rfl) ?_
    show la = cov mo la du to tx x
    unfold cov
    first
    | (rw [if_pos (by omega)])
    | (rw [if_neg (by omega), if_pos (by omega)])
    | (rw [if_neg (by omega), if_neg (by omega), if_pos (by omega)])
    | (rw [if_neg (by omega), if_neg (by omega), if_neg (by omega), if_pos (by omega)])
    | (rw [if_neg (by omega), if_neg (by omega), if_neg (by omega), if_neg (by omega), if_pos (by omega)]; exact q72)
    | (rw [if_neg (by omega), if_neg (by omega), if_neg (by omega), if_neg (by omega), if_neg (by omega)])
  by_cases c1_3 : x = 2
  · skip
    refine ri_to c1_3 ?_
    refine lv_tableIn (tgt := 52) hx hb dX7_count_1 (by rw [xi_to ⟨by omega, by omega⟩]; omega) (by rw [xi_to ⟨by omega, by omega⟩]; omega) (off := 51) (by rw [xi_to ⟨by omega, by omega⟩]; rfl) (by decide) ?_
    refine lv_aload_n hx hb dX7_count_52 rfl (lv_at hl 0 rfl) ?_
    refine va_get (D := g) (ci := 7) (v := .ref hL) (C := RX7) (T := TX7) (N := 11) hx hb hts inF_X7 hown hK.1 hP 0 rfl rfl 9 (by decide) lk_f65 (fun _ h9 => h9) rfl dX7_count_53 ?_
    refine va_get (D := g) (ci := 2) (v := vI du) (C := RX2) (T := TX2) (N := 11) hx hb hts inF_X2 hown hK.1 hP 1 rfl rfl 4 (by decide) lk_f115 (fun _ h9 => h9) rfl dX7_count_56 ?_
    refine zr_I hx hb hr hlk hQ () hP hD hS dX7_count_59 (Nat.le_of_ble_eq_true rfl) (Nat.le_of_ble_eq_true rfl) ?_
    show du = cov mo la du to tx x
    unfold cov
    first
    | (rw [if_pos (by omega)])
    | (rw [if_neg (by omega), if_pos (by omega)])
    | (rw [if_neg (by omega), if_neg (by omega), if_pos (by omega)])
    | (rw [if_neg (by omega), if_neg (by omega), if_neg (by omega), if_pos (by omega)])
    | (rw [if_neg (by omega), if_neg (by omega), if_neg (by omega), if_neg (by omega), if_pos (by omega)]; exact q72)
    | (rw [if_neg (by omega), if_neg (by omega), if_neg (by omega), if_neg (by omega), if_neg (by omega)])
  by_cases c1_4 : x = 3
  · skip
    refine ri_to c1_4 ?_
    refine lv_tableIn (tgt := 60) hx hb dX7_count_1 (by rw [xi_to ⟨by omega, by omega⟩]; omega) (by rw [xi_to ⟨by omega, by omega⟩]; omega) (off := 59) (by rw [xi_to ⟨by omega, by omega⟩]; rfl) (by decide) ?_
    refine lv_aload_n hx hb dX7_count_60 rfl (lv_at hl 0 rfl) ?_
    refine va_get (D := g) (ci := 7) (v := .ref hg) (C := RX7) (T := TX7) (N := 11) hx hb hts inF_X7 hown hK.1 hP 0 rfl rfl 6 (by decide) lk_f44 (fun _ h9 => h9) rfl dX7_count_61 ?_
    refine va_get (D := g) (ci := 0) (v := vI to) (C := RX0) (T := TX0) (N := 3) hx hb hts inF_X0 hown hK.1 hP 2 rfl rfl 2 (by decide) lk_f198 (fun _ h9 => h9) rfl dX7_count_64 ?_
    refine zr_I hx hb hr hlk hQ () hP hD hS dX7_count_67 (Nat.le_of_ble_eq_true rfl) (Nat.le_of_ble_eq_true rfl) ?_
    show to = cov mo la du to tx x
    unfold cov
    first
    | (rw [if_pos (by omega)])
    | (rw [if_neg (by omega), if_pos (by omega)])
    | (rw [if_neg (by omega), if_neg (by omega), if_pos (by omega)])
    | (rw [if_neg (by omega), if_neg (by omega), if_neg (by omega), if_pos (by omega)])
    | (rw [if_neg (by omega), if_neg (by omega), if_neg (by omega), if_neg (by omega), if_pos (by omega)]; exact q72)
    | (rw [if_neg (by omega), if_neg (by omega), if_neg (by omega), if_neg (by omega), if_neg (by omega)])
  by_cases c1_5 : x = 4
  · skip
    refine ri_to c1_5 ?_
    refine lv_tableIn (tgt := 68) hx hb dX7_count_1 (by rw [xi_to ⟨by omega, by omega⟩]; omega) (by rw [xi_to ⟨by omega, by omega⟩]; omega) (off := 67) (by rw [xi_to ⟨by omega, by omega⟩]; rfl) (by decide) ?_
    refine lv_aload_n hx hb dX7_count_68 rfl (lv_at hl 0 rfl) ?_
    refine va_get (D := g) (ci := 7) (v := .ref hd) (C := RX7) (T := TX7) (N := 11) hx hb hts inF_X7 hown hK.1 hP 0 rfl rfl 0 (by decide) lk_f12 (fun _ h9 => h9) rfl dX7_count_69 ?_
    refine zc_VI (As := []) (rest := []) (wc := [(hd, oB 5 [.ref hdt, .ref hdk, .ref hds, .ref hdv, vI tx, vI hh, vI fa, vI sr, vI sl, vI st0])]) (wr := [(h7, oB 7 [.ref hd, .ref h0, .ref s0, .ref hp, .ref hi, .ref hc, .ref hg, .ref hq, .ref hz, .ref hL, .ref hy]), (hL, oB 2 [.ref hw, .ref he, .ref hdn, .ref hdw, vI du, vI hv, vI mo, vI oft, vI la, vI pA, vI pB]), (hg, oB 0 [.ref hgo, .ref hgn, vI to])]) (k_X5_letters l g ca hd hdt hdk hds hdv tx hh fa sr sl st0 ) dX7_count_72 (cwV 0 hts gX7_count_X5_letters rfl rfl rfl (by decide +kernel) (by rw [hR]; exact ⟨Nat.le_of_ble_eq_true rfl, Nat.le_of_ble_eq_true rfl⟩)) ⟨hx, hb, hml, hown, hts⟩ hl.1 hK hP hD hS hA 3 rfl rfl rfl [3] [0, 1, 2] rfl (by decide) rfl (by decide) (by decide) rfl rfl (Nat.le_of_ble_eq_true rfl) (by rw [hR]; exact ⟨Nat.le_of_ble_eq_true rfl, Nat.le_of_ble_eq_true rfl⟩) (fun z72 u H locs q72 hP hD hS => ?_)
    have q72 : z72 = tx := q72
    have hP : va_P g vwCl [(h7, oB 7 [.ref hd, .ref h0, .ref s0, .ref hp, .ref hi, .ref hc, .ref hg, .ref hq, .ref hz, .ref hL, .ref hy]), (hL, oB 2 [.ref hw, .ref he, .ref hdn, .ref hdw, vI du, vI hv, vI mo, vI oft, vI la, vI pA, vI pB]), (hg, oB 0 [.ref hgo, .ref hgn, vI to]), (hd, oB 5 [.ref hdt, .ref hdk, .ref hds, .ref hdv, vI tx, vI hh, vI fa, vI sr, vI sl, vI st0])] H := hP.sub [0, 1, 2, 3] rfl
    have hD : va_D A [(h7, oB 7 [.ref hd, .ref h0, .ref s0, .ref hp, .ref hi, .ref hc, .ref hg, .ref hq, .ref hz, .ref hL, .ref hy]), (hL, oB 2 [.ref hw, .ref he, .ref hdn, .ref hdw, vI du, vI hv, vI mo, vI oft, vI la, vI pA, vI pB]), (hg, oB 0 [.ref hgo, .ref hgn, vI to]), (hd, oB 5 [.ref hdt, .ref hdk, .ref hds, .ref hdv, vI tx, vI hh, vI fa, vI sr, vI sl, vI st0])] := hD.sub [0, 1, 2, 3] (by decide) rfl
    refine zr_I hx hb hr hlk hQ () hP hD hS dX7_count_75 (Nat.le_of_ble_eq_true rfl) (Nat.le_of_ble_eq_true rfl) ?_
    show z72 = cov mo la du to tx x
    unfold cov
    first
    | (rw [if_pos (by omega)])
    | (rw [if_neg (by omega), if_pos (by omega)])
    | (rw [if_neg (by omega), if_neg (by omega), if_pos (by omega)])
    | (rw [if_neg (by omega), if_neg (by omega), if_neg (by omega), if_pos (by omega)])
    | (rw [if_neg (by omega), if_neg (by omega), if_neg (by omega), if_neg (by omega), if_pos (by omega)]; exact q72)
    | (rw [if_neg (by omega), if_neg (by omega), if_neg (by omega), if_neg (by omega), if_neg (by omega)])
  refine lv_tableOut (tgt := 76) hx hb dX7_count_1 (by rw [xi_to hx0]; omega) (by decide) ?_
  refine lv_iconst (v := Int32.ofInt (-1)) hx hb dX7_count_76 rfl ?_
  refine zr_I hx hb hr hlk hQ () hP hD hS dX7_count_77 (Nat.le_of_ble_eq_true rfl) (Nat.le_of_ble_eq_true rfl) ?_
  show (-1) = cov mo la du to tx x
  unfold cov
  first
  | (rw [if_pos (by omega)])
  | (rw [if_neg (by omega), if_pos (by omega)])
  | (rw [if_neg (by omega), if_neg (by omega), if_pos (by omega)])
  | (rw [if_neg (by omega), if_neg (by omega), if_neg (by omega), if_pos (by omega)])
  | (rw [if_neg (by omega), if_neg (by omega), if_neg (by omega), if_neg (by omega), if_pos (by omega)]; exact q72)
  | (rw [if_neg (by omega), if_neg (by omega), if_neg (by omega), if_neg (by omega), if_neg (by omega)])
set_option maxHeartbeats 4000000 in
set_option maxRecDepth 100000 in
theorem k_X7_trace (l : Launch) (g : va_G) (ca : Nat → ClassId) (h7 : Nat) (hd : Nat) (h0 : Nat) (s0 : Nat) (hp : Nat) (hi : Nat) (hc : Nat) (hg : Nat) (hq : Nat) (hz : Nat) (hL : Nat) (hy : Nat) (tr : Int)  : zJ (S := Unit) l yX7_trace wsX7_trace ({ frames := 0, cells := 0, slots := 0, locals := 0 } : Room) g ca [.ref h7] [(h7, oB 7 [.ref hd, .ref h0, .ref s0, .ref hp, .ref hi, .ref hc, .ref hg, .ref hq, .ref hz, .ref hL, .ref hy]), (hz, oB 1 [vJ tr])] (fun (z : Int) (u : Unit) => z = tr) (fun (u : Unit) => [(h7, oB 7 [.ref hd, .ref h0, .ref s0, .ref hp, .ref hi, .ref hc, .ref hg, .ref hq, .ref hz, .ref hL, .ref hy]), (hz, oB 1 [vJ tr])]) 0 0 := by
  refine zm_J (cc := cX7_trace) (maxL := 1) (ret := some .long) (by decide) rfl (Nat.le_of_ble_eq_true rfl) ?_
  intro p e s m below meth c A ls R args Q hR hargs hQ hx hb hml hr hts hown hlk hnm hK hP hD hA hS hl
  have hown : s.vm.findClass RX7 = some m.cls := hown
  have hl : lv_has ls 1 [(0, .ref h7)] := hl
  have lk_f58 : (Cond.fieldLink RX7 58 "DripRings" "kinds" "LDripRings$Kinds;").before args s = true := hts _ (by decide +kernel)
  have inF_X7 : ∀ w ∈ wsX70, w ∈ wsX7_trace := by decide +kernel
  have lk_f223 : (Cond.fieldLink RX7 223 "DripRings$Kinds" "trace" "J").before args s = true := hts _ (by decide +kernel)
  have inF_X1 : ∀ w ∈ wsX10, w ∈ wsX7_trace := by decide +kernel
  refine lv_aload_n hx hb dX7_trace_0 rfl (lv_at hl 0 rfl) ?_
  refine va_get (D := g) (ci := 7) (v := .ref hz) (C := RX7) (T := TX7) (N := 11) hx hb hts inF_X7 hown hK.1 hP 0 rfl rfl 8 (by decide) lk_f58 (fun _ h9 => h9) rfl dX7_trace_1 ?_
  refine va_get (D := g) (ci := 1) (v := vJ tr) (C := RX1) (T := TX1) (N := 1) hx hb hts inF_X1 hown hK.1 hP 1 rfl rfl 0 (by decide) lk_f223 (fun _ h9 => h9) rfl dX7_trace_4 ?_
  refine zr_J hx hb hr hlk hQ () hP hD hS dX7_trace_7 (Nat.le_of_ble_eq_true rfl) (Nat.le_of_ble_eq_true rfl) ?_
  show tr = tr
  rfl
set_option maxHeartbeats 4000000 in
set_option maxRecDepth 100000 in
theorem k_X7_least (l : Launch) (g : va_G) (ca : Nat → ClassId) (h7 : Nat) (hd : Nat) (h0 : Nat) (s0 : Nat) (hp : Nat) (hi : Nat) (hc : Nat) (hg : Nat) (hq : Nat) (hz : Nat) (hL : Nat) (hy : Nat) (h1 : Nat) (b : Int → Int) (n : Int) (lm : Int) (hw : Nat) (he : Nat) (hdn : Nat) (hdw : Nat) (w : Int → Int) (du : Int) (hv : Int) (mo : Int) (oft : Int) (la : Int) (pA : Int) (pB : Int) (hf : Nat) (hk : Nat) (rw : Nat → Option Nat) (ra : Nat → Nat) (F : Int → Int → Int) (T : Int → Int) (wt : Int) (xw : Int) (o : Int) (hrw : ∀ k : Nat, k < 5 → rw k = some (ra k)) (hF : FRok F) (hB : GB b n) (hW : GW w) (hx0 : in32 xw) (hx1 : in32 o) : zI (S := (Int → Int → Int) × (Int → Int) × Int) l yX7_least wsX7_least ({ frames := 3, cells := 0, slots := 0, locals := 75 } : Room) g ca [.ref h7, vI xw, vI o] [(h7, oB 7 [.ref hd, .ref h0, .ref s0, .ref hp, .ref hi, .ref hc, .ref hg, .ref hq, .ref hz, .ref hL, .ref hy]), (h0, oB 6 [.ref h1, vI n, vJ lm]), (h1, aJ ca 605 b), (hL, oB 2 [.ref hw, .ref he, .ref hdn, .ref hdw, vI du, vI hv, vI mo, vI oft, vI la, vI pA, vI pB]), (hw, aI ca 5 w), (hq, oB 4 [.ref hf, .ref hk, vI wt]), (hf, aQ ca 5 rw), (ra 0, aI ca 299 (F 0)), (ra 1, aI ca 299 (F 1)), (ra 2, aI ca 299 (F 2)), (ra 3, aI ca 299 (F 3)), (ra 4, aI ca 299 (F 4)), (hk, aI ca 5 T)] (fun (z : Int) (u : (Int → Int → Int) × (Int → Int) × Int) => FRok u.1 ∧ lsR w b n xw o z) (fun (u : (Int → Int → Int) × (Int → Int) × Int) => [(h7, oB 7 [.ref hd, .ref h0, .ref s0, .ref hp, .ref hi, .ref hc, .ref hg, .ref hq, .ref hz, .ref hL, .ref hy]), (h0, oB 6 [.ref h1, vI n, vJ lm]), (h1, aJ ca 605 b), (hL, oB 2 [.ref hw, .ref he, .ref hdn, .ref hdw, vI du, vI hv, vI mo, vI oft, vI la, vI pA, vI pB]), (hw, aI ca 5 w), (hq, oB 4 [.ref hf, .ref hk, vI u.2.2]), (hf, aQ ca 5 rw), (ra 0, aI ca 299 (u.1 0)), (ra 1, aI ca 299 (u.1 1)), (ra 2, aI ca 299 (u.1 2)), (ra 3, aI ca 299 (u.1 3)), (ra 4, aI ca 299 (u.1 4)), (hk, aI ca 5 u.2.1)]) 0 0 := by
  refine zm_I (cc := cX7_least) (maxL := 3) (ret := some .int) (by decide) rfl (Nat.le_of_ble_eq_true rfl) ?_
  intro p e s m below meth c A ls R args Q hR hargs hQ hx hb hml hr hts hown hlk hnm hK hP hD hA hS hl
  have hown : s.vm.findClass RX7 = some m.cls := hown
  have hl : lv_has ls 3 [(0, .ref h7), (1, vI xw), (2, vI o)] := hl
  have lk_f51 : (Cond.fieldLink RX7 51 "DripRings" "payment" "LDripRings$Payment;").before args s = true := hts _ (by decide +kernel)
  have inF_X7 : ∀ w ∈ wsX70, w ∈ wsX7_least := by decide +kernel
  have lk_f19 : (Cond.fieldLink RX7 19 "DripRings" "rings" "LDripRings$Rings;").before args s = true := hts _ (by decide +kernel)
  have lk_f65 : (Cond.fieldLink RX7 65 "DripRings" "law" "LDripRings$Law;").before args s = true := hts _ (by decide +kernel)
  have lk_f185 : (Cond.fieldLink RX7 185 "DripRings$Payment" "taken" "[I").before args s = true := hts _ (by decide +kernel)
  have inF_X4 : ∀ w ∈ wsX40, w ∈ wsX7_least := by decide +kernel
  have lk_f182 : (Cond.fieldLink RX7 182 "DripRings$Payment" "weight" "I").before args s = true := hts _ (by decide +kernel)
  refine lv_iload_n hx hb dX7_least_0 rfl (lv_at hl 1 rfl) ?_
  refine lv_iconst (v := Int32.ofInt 1) hx hb dX7_least_1 rfl ?_
  refine lv_sipush (v := Int32.ofInt 200) hx hb dX7_least_2 (by decide) ?_
  refine zc_SI (As := [vI xw, vI 1, vI 200]) (rest := []) (wc := []) (wr := [(h7, oB 7 [.ref hd, .ref h0, .ref s0, .ref hp, .ref hi, .ref hc, .ref hg, .ref hq, .ref hz, .ref hL, .ref hy]), (h0, oB 6 [.ref h1, vI n, vJ lm]), (h1, aJ ca 605 b), (hL, oB 2 [.ref hw, .ref he, .ref hdn, .ref hdw, vI du, vI hv, vI mo, vI oft, vI la, vI pA, vI pB]), (hw, aI ca 5 w), (hq, oB 4 [.ref hf, .ref hk, vI wt]), (hf, aQ ca 5 rw), (ra 0, aI ca 299 (F 0)), (ra 1, aI ca 299 (F 1)), (ra 2, aI ca 299 (F 2)), (ra 3, aI ca 299 (F 3)), (ra 4, aI ca 299 (F 4)), (hk, aI ca 5 T)]) (k_X7_isOutside l g ca xw 1 200 (by exact hx0) (by exact ⟨by omega, by omega⟩) (by exact ⟨by omega, by omega⟩)) dX7_least_5 (va_cwS 3 hts gX7_least_X7_isOutside rfl rfl rfl (by decide +kernel) (by rw [hR]; exact ⟨Nat.le_of_ble_eq_true rfl, Nat.le_of_ble_eq_true rfl⟩)) ⟨hx, hb, hml, hown, hts⟩ hl.1 hK hP hD hS hA [] [0, 1, 2, 3, 4, 5, 6, 7, 8, 9, 10, 11, 12] rfl (by decide) rfl (by decide) (by decide) rfl rfl (Nat.le_of_ble_eq_true rfl) (by rw [hR]; exact ⟨Nat.le_of_ble_eq_true rfl, Nat.le_of_ble_eq_true rfl⟩) (fun z5 u H locs q5 hP hD hS => ?_)
  have q5 : (z5 = 1 ∧ ¬ (1 ≤ xw ∧ xw ≤ 200)) ∨ (z5 = 0 ∧ 1 ≤ xw ∧ xw ≤ 200) := q5
  have hP : va_P g vwCl [(h7, oB 7 [.ref hd, .ref h0, .ref s0, .ref hp, .ref hi, .ref hc, .ref hg, .ref hq, .ref hz, .ref hL, .ref hy]), (h0, oB 6 [.ref h1, vI n, vJ lm]), (h1, aJ ca 605 b), (hL, oB 2 [.ref hw, .ref he, .ref hdn, .ref hdw, vI du, vI hv, vI mo, vI oft, vI la, vI pA, vI pB]), (hw, aI ca 5 w), (hq, oB 4 [.ref hf, .ref hk, vI wt]), (hf, aQ ca 5 rw), (ra 0, aI ca 299 (F 0)), (ra 1, aI ca 299 (F 1)), (ra 2, aI ca 299 (F 2)), (ra 3, aI ca 299 (F 3)), (ra 4, aI ca 299 (F 4)), (hk, aI ca 5 T)] H := hP.sub [0, 1, 2, 3, 4, 5, 6, 7, 8, 9, 10, 11, 12] rfl
  have hD : va_D A [(h7, oB 7 [.ref hd, .ref h0, .ref s0, .ref hp, .ref hi, .ref hc, .ref hg, .ref hq, .ref hz, .ref hL, .ref hy]), (h0, oB 6 [.ref h1, vI n, vJ lm]), (h1, aJ ca 605 b), (hL, oB 2 [.ref hw, .ref he, .ref hdn, .ref hdw, vI du, vI hv, vI mo, vI oft, vI la, vI pA, vI pB]), (hw, aI ca 5 w), (hq, oB 4 [.ref hf, .ref hk, vI wt]), (hf, aQ ca 5 rw), (ra 0, aI ca 299 (F 0)), (ra 1, aI ca 299 (F 1)), (ra 2, aI ca 299 (F 2)), (ra 3, aI ca 299 (F 3)), (ra 4, aI ca 299 (F 4)), (hk, aI ca 5 T)] := hD.sub [0, 1, 2, 3, 4, 5, 6, 7, 8, 9, 10, 11, 12] (by decide) rfl
  refine ri_if_ne (tgt := 20) hx hb dX7_least_8 (by decide) ⟨by omega, by omega⟩ (fun c8 => ?_) (fun c8 => ?_)
  · skip
    refine lv_iconst (v := Int32.ofInt (-1)) hx hb dX7_least_20 rfl ?_
    refine zr_I hx hb hr hlk hQ (F, T, wt) hP hD hS dX7_least_21 (Nat.le_of_ble_eq_true rfl) (Nat.le_of_ble_eq_true rfl) ?_
    show FRok F ∧ lsR w b n xw o (-1)
    first
    | exact ⟨hF, Or.inl ⟨by omega, rfl⟩⟩
    | (rcases q35_1 with q9 | q9
       · first
         | (exfalso; omega)
         | exact ⟨q35_0, Or.inr ⟨by omega, Or.inl ⟨_, _, q9.2.1, q9.2.2, by first | rw [if_pos (by omega)] | rw [if_neg (by omega)]⟩⟩⟩
       · first
         | (exfalso; omega)
         | exact ⟨q35_0, Or.inr ⟨by omega, Or.inr ⟨q9.2, rfl⟩⟩⟩)
  · skip
    refine lv_iload_n hx hb dX7_least_11 rfl (lv_at hl 2 rfl) ?_
    refine lv_iconst (v := Int32.ofInt (-1)) hx hb dX7_least_12 rfl ?_
    refine lv_iconst (v := Int32.ofInt 4) hx hb dX7_least_13 rfl ?_
    refine zc_SI (As := [vI o, vI (-1), vI 4]) (rest := []) (wc := []) (wr := [(h7, oB 7 [.ref hd, .ref h0, .ref s0, .ref hp, .ref hi, .ref hc, .ref hg, .ref hq, .ref hz, .ref hL, .ref hy]), (h0, oB 6 [.ref h1, vI n, vJ lm]), (h1, aJ ca 605 b), (hL, oB 2 [.ref hw, .ref he, .ref hdn, .ref hdw, vI du, vI hv, vI mo, vI oft, vI la, vI pA, vI pB]), (hw, aI ca 5 w), (hq, oB 4 [.ref hf, .ref hk, vI wt]), (hf, aQ ca 5 rw), (ra 0, aI ca 299 (F 0)), (ra 1, aI ca 299 (F 1)), (ra 2, aI ca 299 (F 2)), (ra 3, aI ca 299 (F 3)), (ra 4, aI ca 299 (F 4)), (hk, aI ca 5 T)]) (k_X7_isOutside l g ca o (-1) 4 (by exact hx1) (by exact ⟨by omega, by omega⟩) (by exact ⟨by omega, by omega⟩)) dX7_least_14 (va_cwS 3 hts gX7_least_X7_isOutside rfl rfl rfl (by decide +kernel) (by rw [hR]; exact ⟨Nat.le_of_ble_eq_true rfl, Nat.le_of_ble_eq_true rfl⟩)) ⟨hx, hb, hml, hown, hts⟩ hl.1 hK hP hD hS hA [] [0, 1, 2, 3, 4, 5, 6, 7, 8, 9, 10, 11, 12] rfl (by decide) rfl (by decide) (by decide) rfl rfl (Nat.le_of_ble_eq_true rfl) (by rw [hR]; exact ⟨Nat.le_of_ble_eq_true rfl, Nat.le_of_ble_eq_true rfl⟩) (fun z14 u H locs q14 hP hD hS => ?_)
    have q14 : (z14 = 1 ∧ ¬ ((-1) ≤ o ∧ o ≤ 4)) ∨ (z14 = 0 ∧ (-1) ≤ o ∧ o ≤ 4) := q14
    have hP : va_P g vwCl [(h7, oB 7 [.ref hd, .ref h0, .ref s0, .ref hp, .ref hi, .ref hc, .ref hg, .ref hq, .ref hz, .ref hL, .ref hy]), (h0, oB 6 [.ref h1, vI n, vJ lm]), (h1, aJ ca 605 b), (hL, oB 2 [.ref hw, .ref he, .ref hdn, .ref hdw, vI du, vI hv, vI mo, vI oft, vI la, vI pA, vI pB]), (hw, aI ca 5 w), (hq, oB 4 [.ref hf, .ref hk, vI wt]), (hf, aQ ca 5 rw), (ra 0, aI ca 299 (F 0)), (ra 1, aI ca 299 (F 1)), (ra 2, aI ca 299 (F 2)), (ra 3, aI ca 299 (F 3)), (ra 4, aI ca 299 (F 4)), (hk, aI ca 5 T)] H := hP.sub [0, 1, 2, 3, 4, 5, 6, 7, 8, 9, 10, 11, 12] rfl
    have hD : va_D A [(h7, oB 7 [.ref hd, .ref h0, .ref s0, .ref hp, .ref hi, .ref hc, .ref hg, .ref hq, .ref hz, .ref hL, .ref hy]), (h0, oB 6 [.ref h1, vI n, vJ lm]), (h1, aJ ca 605 b), (hL, oB 2 [.ref hw, .ref he, .ref hdn, .ref hdw, vI du, vI hv, vI mo, vI oft, vI la, vI pA, vI pB]), (hw, aI ca 5 w), (hq, oB 4 [.ref hf, .ref hk, vI wt]), (hf, aQ ca 5 rw), (ra 0, aI ca 299 (F 0)), (ra 1, aI ca 299 (F 1)), (ra 2, aI ca 299 (F 2)), (ra 3, aI ca 299 (F 3)), (ra 4, aI ca 299 (F 4)), (hk, aI ca 5 T)] := hD.sub [0, 1, 2, 3, 4, 5, 6, 7, 8, 9, 10, 11, 12] (by decide) rfl
    refine ri_if_eq (tgt := 22) hx hb dX7_least_17 (by decide) ⟨by omega, by omega⟩ (fun c17 => ?_) (fun c17 => ?_)
    · skip
      refine lv_aload_n hx hb dX7_least_22 rfl (lv_at hl 0 rfl) ?_
      refine va_get (D := g) (ci := 7) (v := .ref hq) (C := RX7) (T := TX7) (N := 11) hx hb hts inF_X7 hown hK.1 hP 0 rfl rfl 7 (by decide) lk_f51 (fun _ h9 => h9) rfl dX7_least_23 ?_
      refine lv_aload_n hx hb dX7_least_26 rfl (lv_at hl 0 rfl) ?_
      refine va_get (D := g) (ci := 7) (v := .ref h0) (C := RX7) (T := TX7) (N := 11) hx hb hts inF_X7 hown hK.1 hP 0 rfl rfl 1 (by decide) lk_f19 (fun _ h9 => h9) rfl dX7_least_27 ?_
      refine lv_aload_n hx hb dX7_least_30 rfl (lv_at hl 0 rfl) ?_
      refine va_get (D := g) (ci := 7) (v := .ref hL) (C := RX7) (T := TX7) (N := 11) hx hb hts inF_X7 hown hK.1 hP 0 rfl rfl 9 (by decide) lk_f65 (fun _ h9 => h9) rfl dX7_least_31 ?_
      refine lv_iload_n hx hb dX7_least_34 rfl (lv_at hl 1 rfl) ?_
      refine zc_VI (As := [.ref h0, .ref hL, vI xw]) (rest := []) (wc := [(hq, oB 4 [.ref hf, .ref hk, vI wt]), (hf, aQ ca 5 rw), (ra 0, aI ca 299 (F 0)), (ra 1, aI ca 299 (F 1)), (ra 2, aI ca 299 (F 2)), (ra 3, aI ca 299 (F 3)), (ra 4, aI ca 299 (F 4)), (hk, aI ca 5 T), (h0, oB 6 [.ref h1, vI n, vJ lm]), (h1, aJ ca 605 b), (hL, oB 2 [.ref hw, .ref he, .ref hdn, .ref hdw, vI du, vI hv, vI mo, vI oft, vI la, vI pA, vI pB]), (hw, aI ca 5 w)]) (wr := [(h7, oB 7 [.ref hd, .ref h0, .ref s0, .ref hp, .ref hi, .ref hc, .ref hg, .ref hq, .ref hz, .ref hL, .ref hy])]) (k_X4_find l g ca hq hf hk rw ra F T wt h0 h1 b n lm hL hw he hdn hdw w du hv mo oft la pA pB xw (by first | assumption | omega) (by first | assumption | omega) (by first | assumption | omega) (by first | assumption | omega) (by first | assumption | omega)) dX7_least_35 (cwV 3 hts gX7_least_X4_find rfl rfl rfl (by decide +kernel) (by rw [hR]; exact ⟨Nat.le_of_ble_eq_true rfl, Nat.le_of_ble_eq_true rfl⟩)) ⟨hx, hb, hml, hown, hts⟩ hl.1 hK hP hD hS hA 5 rfl rfl rfl [5, 6, 7, 8, 9, 10, 11, 12, 1, 2, 3, 4] [0] rfl (by decide) rfl (by decide) (by decide) rfl rfl (Nat.le_of_ble_eq_true rfl) (by rw [hR]; exact ⟨Nat.le_of_ble_eq_true rfl, Nat.le_of_ble_eq_true rfl⟩) (fun z35 u H locs q35 hP hD hS => ?_)
      obtain ⟨F1_35, T1_35, wt1_35⟩ := u
      have q35 : FRok F1_35 ∧ ((z35 = 1 ∧ LST (cnt b n) w xw wt1_35 ∧ CHO (cnt b n) w T1_35 5 wt1_35) ∨ (z35 = 0 ∧ ∀ x : Int, xw ≤ x → x ≤ 298 → ¬ RC (cnt b n) w 5 x)) := q35
      obtain ⟨q35_0, q35_1⟩ := q35
      have hP : va_P g vwCl [(h7, oB 7 [.ref hd, .ref h0, .ref s0, .ref hp, .ref hi, .ref hc, .ref hg, .ref hq, .ref hz, .ref hL, .ref hy]), (h0, oB 6 [.ref h1, vI n, vJ lm]), (h1, aJ ca 605 b), (hL, oB 2 [.ref hw, .ref he, .ref hdn, .ref hdw, vI du, vI hv, vI mo, vI oft, vI la, vI pA, vI pB]), (hw, aI ca 5 w), (hq, oB 4 [.ref hf, .ref hk, vI wt1_35]), (hf, aQ ca 5 rw), (ra 0, aI ca 299 (F1_35 0)), (ra 1, aI ca 299 (F1_35 1)), (ra 2, aI ca 299 (F1_35 2)), (ra 3, aI ca 299 (F1_35 3)), (ra 4, aI ca 299 (F1_35 4)), (hk, aI ca 5 T1_35)] H := hP.sub [0, 9, 10, 11, 12, 1, 2, 3, 4, 5, 6, 7, 8] rfl
      have hD : va_D A [(h7, oB 7 [.ref hd, .ref h0, .ref s0, .ref hp, .ref hi, .ref hc, .ref hg, .ref hq, .ref hz, .ref hL, .ref hy]), (h0, oB 6 [.ref h1, vI n, vJ lm]), (h1, aJ ca 605 b), (hL, oB 2 [.ref hw, .ref he, .ref hdn, .ref hdw, vI du, vI hv, vI mo, vI oft, vI la, vI pA, vI pB]), (hw, aI ca 5 w), (hq, oB 4 [.ref hf, .ref hk, vI wt1_35]), (hf, aQ ca 5 rw), (ra 0, aI ca 299 (F1_35 0)), (ra 1, aI ca 299 (F1_35 1)), (ra 2, aI ca 299 (F1_35 2)), (ra 3, aI ca 299 (F1_35 3)), (ra 4, aI ca 299 (F1_35 4)), (hk, aI ca 5 T1_35)] := hD.sub [0, 9, 10, 11, 12, 1, 2, 3, 4, 5, 6, 7, 8] (by decide) rfl
      refine ri_if_ne (tgt := 44) hx hb dX7_least_38 (by decide) ⟨by omega, by omega⟩ (fun c38 => ?_) (fun c38 => ?_)
      · skip
        refine lv_iload_n hx hb dX7_least_44 rfl (lv_at hl 2 rfl) ?_
        refine lv_iconst (v := Int32.ofInt (-1)) hx hb dX7_least_45 rfl ?_
        refine ri_icmp_ne (tgt := 59) hx hb dX7_least_46 (by decide) hx1 ⟨by omega, by omega⟩ (fun c46 => ?_) (fun c46 => ?_)
        · skip
          refine lv_aload_n hx hb dX7_least_59 rfl (lv_at hl 0 rfl) ?_
          refine va_get (D := g) (ci := 7) (v := .ref hq) (C := RX7) (T := TX7) (N := 11) hx hb hts inF_X7 hown hK.1 hP 0 rfl rfl 7 (by decide) lk_f51 (fun _ h9 => h9) rfl dX7_least_60 ?_
          refine va_get (D := g) (ci := 4) (v := .ref hk) (C := RX4) (T := TX4) (N := 3) hx hb hts inF_X4 hown hK.1 hP 5 rfl rfl 1 (by decide) lk_f185 (fun _ h9 => h9) rfl dX7_least_63 ?_
          refine lv_iload_n hx hb dX7_least_66 rfl (lv_at hl 2 rfl) ?_
          refine ra_ild hx hb hK hP 12 rfl dX7_least_67 ⟨by omega, by omega⟩ (by omega) ?_
          refine zr_I hx hb hr hlk hQ (F1_35, T1_35, wt1_35) hP hD hS dX7_least_68 (Nat.le_of_ble_eq_true rfl) (Nat.le_of_ble_eq_true rfl) ?_
          show FRok F1_35 ∧ lsR w b n xw o (T1_35 o)
          first
          | exact ⟨hF, Or.inl ⟨by omega, rfl⟩⟩
          | (rcases q35_1 with q9 | q9
             · first
               | (exfalso; omega)
               | exact ⟨q35_0, Or.inr ⟨by omega, Or.inl ⟨_, _, q9.2.1, q9.2.2, by first | rw [if_pos (by omega)] | rw [if_neg (by omega)]⟩⟩⟩
             · first
               | (exfalso; omega)
               | exact ⟨q35_0, Or.inr ⟨by omega, Or.inr ⟨q9.2, rfl⟩⟩⟩)
        · skip
          refine lv_aload_n hx hb dX7_least_49 rfl (lv_at hl 0 rfl) ?_
          refine va_get (D := g) (ci := 7) (v := .ref hq) (C := RX7) (T := TX7) (N := 11) hx hb hts inF_X7 hown hK.1 hP 0 rfl rfl 7 (by decide) lk_f51 (fun _ h9 => h9) rfl dX7_least_50 ?_
          refine va_get (D := g) (ci := 4) (v := vI wt1_35) (C := RX4) (T := TX4) (N := 3) hx hb hts inF_X4 hown hK.1 hP 5 rfl rfl 2 (by decide) lk_f182 (fun _ h9 => h9) rfl dX7_least_53 ?_
          refine lv_goto (tgt := 68) hx hb dX7_least_56 (by decide) ?_
          refine zr_I hx hb hr hlk hQ (F1_35, T1_35, wt1_35) hP hD hS dX7_least_68 (Nat.le_of_ble_eq_true rfl) (Nat.le_of_ble_eq_true rfl) ?_
          show FRok F1_35 ∧ lsR w b n xw o wt1_35
          first
          | exact ⟨hF, Or.inl ⟨by omega, rfl⟩⟩
          | (rcases q35_1 with q9 | q9
             · first
               | (exfalso; omega)
               | exact ⟨q35_0, Or.inr ⟨by omega, Or.inl ⟨_, _, q9.2.1, q9.2.2, by first | rw [if_pos (by omega)] | rw [if_neg (by omega)]⟩⟩⟩
             · first
               | (exfalso; omega)
               | exact ⟨q35_0, Or.inr ⟨by omega, Or.inr ⟨q9.2, rfl⟩⟩⟩)
      · skip
        refine lv_bipush (v := Int32.ofInt (-9)) hx hb dX7_least_41 (by decide) ?_
        refine zr_I hx hb hr hlk hQ (F1_35, T1_35, wt1_35) hP hD hS dX7_least_43 (Nat.le_of_ble_eq_true rfl) (Nat.le_of_ble_eq_true rfl) ?_
        show FRok F1_35 ∧ lsR w b n xw o (-9)
        first
        | exact ⟨hF, Or.inl ⟨by omega, rfl⟩⟩
        | (rcases q35_1 with q9 | q9
           · first
             | (exfalso; omega)
             | exact ⟨q35_0, Or.inr ⟨by omega, Or.inl ⟨_, _, q9.2.1, q9.2.2, by first | rw [if_pos (by omega)] | rw [if_neg (by omega)]⟩⟩⟩
           · first
             | (exfalso; omega)
             | exact ⟨q35_0, Or.inr ⟨by omega, Or.inr ⟨q9.2, rfl⟩⟩⟩)
    · skip
      refine lv_iconst (v := Int32.ofInt (-1)) hx hb dX7_least_20 rfl ?_
      refine zr_I hx hb hr hlk hQ (F, T, wt) hP hD hS dX7_least_21 (Nat.le_of_ble_eq_true rfl) (Nat.le_of_ble_eq_true rfl) ?_
      show FRok F ∧ lsR w b n xw o (-1)
      first
      | exact ⟨hF, Or.inl ⟨by omega, rfl⟩⟩
      | (rcases q35_1 with q9 | q9
         · first
           | (exfalso; omega)
           | exact ⟨q35_0, Or.inr ⟨by omega, Or.inl ⟨_, _, q9.2.1, q9.2.2, by first | rw [if_pos (by omega)] | rw [if_neg (by omega)]⟩⟩⟩
         · first
           | (exfalso; omega)
           | exact ⟨q35_0, Or.inr ⟨by omega, Or.inr ⟨q9.2, rfl⟩⟩⟩)
set_option maxHeartbeats 4000000 in
set_option maxRecDepth 100000 in
theorem k_X7_barley (l : Launch) (g : va_G) (ca : Nat → ClassId) (h7 : Nat) (hd : Nat) (h0 : Nat) (s0 : Nat) (hp : Nat) (hi : Nat) (hc : Nat) (hg : Nat) (hq : Nat) (hz : Nat) (hL : Nat) (hy : Nat) (h1 : Nat) (b : Int → Int) (n : Int) (lm : Int) (hw : Nat) (he : Nat) (hdn : Nat) (hdw : Nat) (w : Int → Int) (du : Int) (hv : Int) (mo : Int) (oft : Int) (la : Int) (pA : Int) (pB : Int) (y : Int) (x : Int) (hB : GB b n) (hW : GW w) (hLM : LMok lm) (hx0 : in32 y) (hx1 : in32 x) : zJ (S := Unit) l yX7_barley wsX7_barley ({ frames := 3, cells := 0, slots := 0, locals := 69 } : Room) g ca [.ref h7, vI y, vI x] [(h7, oB 7 [.ref hd, .ref h0, .ref s0, .ref hp, .ref hi, .ref hc, .ref hg, .ref hq, .ref hz, .ref hL, .ref hy]), (h0, oB 6 [.ref h1, vI n, vJ lm]), (h1, aJ ca 605 b), (hL, oB 2 [.ref hw, .ref he, .ref hdn, .ref hdw, vI du, vI hv, vI mo, vI oft, vI la, vI pA, vI pB]), (hw, aI ca 5 w)] (fun (z : Int) (u : Unit) => z = bav w b n lm y x) (fun (u : Unit) => [(h7, oB 7 [.ref hd, .ref h0, .ref s0, .ref hp, .ref hi, .ref hc, .ref hg, .ref hq, .ref hz, .ref hL, .ref hy]), (h0, oB 6 [.ref h1, vI n, vJ lm]), (h1, aJ ca 605 b), (hL, oB 2 [.ref hw, .ref he, .ref hdn, .ref hdw, vI du, vI hv, vI mo, vI oft, vI la, vI pA, vI pB]), (hw, aI ca 5 w)]) 0 0 := by
  refine zm_J (cc := cX7_barley) (maxL := 5) (ret := some .long) (by decide) rfl (Nat.le_of_ble_eq_true rfl) ?_
  intro p e s m below meth c A ls R args Q hR hargs hQ hx hb hml hr hts hown hlk hnm hK hP hD hA hS hl
  have hown : s.vm.findClass RX7 = some m.cls := hown
  have hl : lv_has ls 5 [(0, .ref h7), (1, vI y), (2, vI x)] := hl
  have lk_c143 : (Cond.constantLong RX7 143 (-1)).before args s = true := hts _ (by decide +kernel)
  have lk_c154 : (Cond.constant RX7 154 (1000000)).before args s = true := hts _ (by decide +kernel)
  have lk_f19 : (Cond.fieldLink RX7 19 "DripRings" "rings" "LDripRings$Rings;").before args s = true := hts _ (by decide +kernel)
  have inF_X7 : ∀ w ∈ wsX70, w ∈ wsX7_barley := by decide +kernel
  have lk_f65 : (Cond.fieldLink RX7 65 "DripRings" "law" "LDripRings$Law;").before args s = true := hts _ (by decide +kernel)
  have lk_c193 : (Cond.constantLong RX7 193 (-9)).before args s = true := hts _ (by decide +kernel)
  have hn0 := hB.1
  obtain ⟨hlm1, hlm2⟩ := hLM
  refine lv_iload_n hx hb dX7_barley_0 rfl (lv_at hl 1 rfl) ?_
  refine lv_iconst (v := Int32.ofInt 1) hx hb dX7_barley_1 rfl ?_
  refine lv_sipush (v := Int32.ofInt 1000) hx hb dX7_barley_2 (by decide) ?_
  refine zc_SI (As := [vI y, vI 1, vI 1000]) (rest := []) (wc := []) (wr := [(h7, oB 7 [.ref hd, .ref h0, .ref s0, .ref hp, .ref hi, .ref hc, .ref hg, .ref hq, .ref hz, .ref hL, .ref hy]), (h0, oB 6 [.ref h1, vI n, vJ lm]), (h1, aJ ca 605 b), (hL, oB 2 [.ref hw, .ref he, .ref hdn, .ref hdw, vI du, vI hv, vI mo, vI oft, vI la, vI pA, vI pB]), (hw, aI ca 5 w)]) (k_X7_isOutside l g ca y 1 1000 (by exact hx0) (by exact ⟨by omega, by omega⟩) (by exact ⟨by omega, by omega⟩)) dX7_barley_5 (va_cwS 3 hts gX7_barley_X7_isOutside rfl rfl rfl (by decide +kernel) (by rw [hR]; exact ⟨Nat.le_of_ble_eq_true rfl, Nat.le_of_ble_eq_true rfl⟩)) ⟨hx, hb, hml, hown, hts⟩ hl.1 hK hP hD hS hA [] [0, 1, 2, 3, 4] rfl (by decide) rfl (by decide) (by decide) rfl rfl (Nat.le_of_ble_eq_true rfl) (by rw [hR]; exact ⟨Nat.le_of_ble_eq_true rfl, Nat.le_of_ble_eq_true rfl⟩) (fun z5 u H locs q5 hP hD hS => ?_)
  have q5 : (z5 = 1 ∧ ¬ (1 ≤ y ∧ y ≤ 1000)) ∨ (z5 = 0 ∧ 1 ≤ y ∧ y ≤ 1000) := q5
  have hP : va_P g vwCl [(h7, oB 7 [.ref hd, .ref h0, .ref s0, .ref hp, .ref hi, .ref hc, .ref hg, .ref hq, .ref hz, .ref hL, .ref hy]), (h0, oB 6 [.ref h1, vI n, vJ lm]), (h1, aJ ca 605 b), (hL, oB 2 [.ref hw, .ref he, .ref hdn, .ref hdw, vI du, vI hv, vI mo, vI oft, vI la, vI pA, vI pB]), (hw, aI ca 5 w)] H := hP.sub [0, 1, 2, 3, 4] rfl
  have hD : va_D A [(h7, oB 7 [.ref hd, .ref h0, .ref s0, .ref hp, .ref hi, .ref hc, .ref hg, .ref hq, .ref hz, .ref hL, .ref hy]), (h0, oB 6 [.ref h1, vI n, vJ lm]), (h1, aJ ca 605 b), (hL, oB 2 [.ref hw, .ref he, .ref hdn, .ref hdw, vI du, vI hv, vI mo, vI oft, vI la, vI pA, vI pB]), (hw, aI ca 5 w)] := hD.sub [0, 1, 2, 3, 4] (by decide) rfl
  refine ri_if_ne (tgt := 21) hx hb dX7_barley_8 (by decide) ⟨by omega, by omega⟩ (fun c8 => ?_) (fun c8 => ?_)
  · skip
    refine rj_ldc (z := (-1)) hx hb hown lk_c143 dX7_barley_21 (by decide) ?_
    refine zr_J hx hb hr hlk hQ () hP hD hS dX7_barley_24 (Nat.le_of_ble_eq_true rfl) (Nat.le_of_ble_eq_true rfl) ?_
    show (-1) = bav w b n lm y x
    unfold bav
    first
    | (rw [if_neg (fun q => by omega)])
    | (rw [if_pos (by omega), if_pos (by omega)])
    | (rw [if_pos (by omega), if_neg (by omega), e55, e53, q33])
  · skip
    refine lv_iload_n hx hb dX7_barley_11 rfl (lv_at hl 2 rfl) ?_
    refine lv_iconst (v := Int32.ofInt 0) hx hb dX7_barley_12 rfl ?_
    refine ri_ldc (z := 1000000) hx hb hown lk_c154 dX7_barley_13 (by decide) ?_
    refine zc_SI (As := [vI x, vI 0, vI 1000000]) (rest := []) (wc := []) (wr := [(h7, oB 7 [.ref hd, .ref h0, .ref s0, .ref hp, .ref hi, .ref hc, .ref hg, .ref hq, .ref hz, .ref hL, .ref hy]), (h0, oB 6 [.ref h1, vI n, vJ lm]), (h1, aJ ca 605 b), (hL, oB 2 [.ref hw, .ref he, .ref hdn, .ref hdw, vI du, vI hv, vI mo, vI oft, vI la, vI pA, vI pB]), (hw, aI ca 5 w)]) (k_X7_isOutside l g ca x 0 1000000 (by exact hx1) (by exact ⟨by omega, by omega⟩) (by exact ⟨by omega, by omega⟩)) dX7_barley_15 (va_cwS 3 hts gX7_barley_X7_isOutside rfl rfl rfl (by decide +kernel) (by rw [hR]; exact ⟨Nat.le_of_ble_eq_true rfl, Nat.le_of_ble_eq_true rfl⟩)) ⟨hx, hb, hml, hown, hts⟩ hl.1 hK hP hD hS hA [] [0, 1, 2, 3, 4] rfl (by decide) rfl (by decide) (by decide) rfl rfl (Nat.le_of_ble_eq_true rfl) (by rw [hR]; exact ⟨Nat.le_of_ble_eq_true rfl, Nat.le_of_ble_eq_true rfl⟩) (fun z15 u H locs q15 hP hD hS => ?_)
    have q15 : (z15 = 1 ∧ ¬ (0 ≤ x ∧ x ≤ 1000000)) ∨ (z15 = 0 ∧ 0 ≤ x ∧ x ≤ 1000000) := q15
    have hP : va_P g vwCl [(h7, oB 7 [.ref hd, .ref h0, .ref s0, .ref hp, .ref hi, .ref hc, .ref hg, .ref hq, .ref hz, .ref hL, .ref hy]), (h0, oB 6 [.ref h1, vI n, vJ lm]), (h1, aJ ca 605 b), (hL, oB 2 [.ref hw, .ref he, .ref hdn, .ref hdw, vI du, vI hv, vI mo, vI oft, vI la, vI pA, vI pB]), (hw, aI ca 5 w)] H := hP.sub [0, 1, 2, 3, 4] rfl
    have hD : va_D A [(h7, oB 7 [.ref hd, .ref h0, .ref s0, .ref hp, .ref hi, .ref hc, .ref hg, .ref hq, .ref hz, .ref hL, .ref hy]), (h0, oB 6 [.ref h1, vI n, vJ lm]), (h1, aJ ca 605 b), (hL, oB 2 [.ref hw, .ref he, .ref hdn, .ref hdw, vI du, vI hv, vI mo, vI oft, vI la, vI pA, vI pB]), (hw, aI ca 5 w)] := hD.sub [0, 1, 2, 3, 4] (by decide) rfl
    refine ri_if_eq (tgt := 25) hx hb dX7_barley_18 (by decide) ⟨by omega, by omega⟩ (fun c18 => ?_) (fun c18 => ?_)
    · skip
      refine lv_aload_n hx hb dX7_barley_25 rfl (lv_at hl 0 rfl) ?_
      refine va_get (D := g) (ci := 7) (v := .ref h0) (C := RX7) (T := TX7) (N := 11) hx hb hts inF_X7 hown hK.1 hP 0 rfl rfl 1 (by decide) lk_f19 (fun _ h9 => h9) rfl dX7_barley_26 ?_
      refine lv_aload_n hx hb dX7_barley_29 rfl (lv_at hl 0 rfl) ?_
      refine va_get (D := g) (ci := 7) (v := .ref hL) (C := RX7) (T := TX7) (N := 11) hx hb hts inF_X7 hown hK.1 hP 0 rfl rfl 9 (by decide) lk_f65 (fun _ h9 => h9) rfl dX7_barley_30 ?_
      refine zc_VJ (As := [.ref hL]) (rest := []) (wc := [(h0, oB 6 [.ref h1, vI n, vJ lm]), (h1, aJ ca 605 b), (hL, oB 2 [.ref hw, .ref he, .ref hdn, .ref hdw, vI du, vI hv, vI mo, vI oft, vI la, vI pA, vI pB]), (hw, aI ca 5 w)]) (wr := [(h7, oB 7 [.ref hd, .ref h0, .ref s0, .ref hp, .ref hi, .ref hc, .ref hg, .ref hq, .ref hz, .ref hL, .ref hy])]) (k_X6_weightWithLump l g ca h0 h1 b n lm hL hw he hdn hdw w du hv mo oft la pA pB (by first | assumption | omega) (by first | assumption | omega)) dX7_barley_33 (cwV 1 hts gX7_barley_X6_weightWithLump rfl rfl rfl (by decide +kernel) (by rw [hR]; exact ⟨Nat.le_of_ble_eq_true rfl, Nat.le_of_ble_eq_true rfl⟩)) ⟨hx, hb, hml, hown, hts⟩ hl.1 hK hP hD hS hA 1 rfl rfl rfl [1, 2, 3, 4] [0] rfl (by decide) rfl (by decide) (by decide) rfl rfl (Nat.le_of_ble_eq_true rfl) (by rw [hR]; exact ⟨Nat.le_of_ble_eq_true rfl, Nat.le_of_ble_eq_true rfl⟩) (fun z33 u H locs q33 hP hD hS => ?_)
      have q33 : z33 = wgt b w n + lm := q33
      have hP : va_P g vwCl [(h7, oB 7 [.ref hd, .ref h0, .ref s0, .ref hp, .ref hi, .ref hc, .ref hg, .ref hq, .ref hz, .ref hL, .ref hy]), (h0, oB 6 [.ref h1, vI n, vJ lm]), (h1, aJ ca 605 b), (hL, oB 2 [.ref hw, .ref he, .ref hdn, .ref hdw, vI du, vI hv, vI mo, vI oft, vI la, vI pA, vI pB]), (hw, aI ca 5 w)] H := hP.sub [0, 1, 2, 3, 4] rfl
      have hD : va_D A [(h7, oB 7 [.ref hd, .ref h0, .ref s0, .ref hp, .ref hi, .ref hc, .ref hg, .ref hq, .ref hz, .ref hL, .ref hy]), (h0, oB 6 [.ref h1, vI n, vJ lm]), (h1, aJ ca 605 b), (hL, oB 2 [.ref hw, .ref he, .ref hdn, .ref hdw, vI du, vI hv, vI mo, vI oft, vI la, vI pA, vI pB]), (hw, aI ca 5 w)] := hD.sub [0, 1, 2, 3, 4] (by decide) rfl
      refine lv_lstore_n (lv' := [(3, vJ z33), (0, .ref h7), (1, vI y), (2, vI x)]) hx hb dX7_barley_36 rfl hl (by decide) rfl (fun ls hl => ?_)
      have hw37 := wgt_bd hB hW
      refine lv_lload_n hx hb dX7_barley_37 rfl (lv_at hl 0 rfl) ?_
      refine lv_lconst (v := Int64.ofInt 0) hx hb dX7_barley_38 (by decide) ?_
      refine rj_cmp hx hb dX7_barley_39 ⟨by omega, by omega⟩ ⟨by omega, by omega⟩ (fun z39 e39 => ?_)
      refine ri_if_gt (tgt := 49) hx hb dX7_barley_40 (by decide) ⟨by omega, by omega⟩ (fun c40 => ?_) (fun c40 => ?_)
      · skip
        have c40 : 0 < z33 := by omega
        clear e39
        refine lv_iload_n hx hb dX7_barley_49 rfl (lv_at hl 2 rfl) ?_
        refine ri_l hx hb dX7_barley_50 hx0 ?_
        refine lv_iload_n hx hb dX7_barley_51 rfl (lv_at hl 3 rfl) ?_
        refine ri_l hx hb dX7_barley_52 hx1 ?_
        refine rj_mul hx hb dX7_barley_53 (fun z53 e53 => ?_)
        have hm54 := mul_rng (a := y) (b := x) (A := 1000) (B := 1000000) (by omega) (by omega)
        refine lv_lload_n hx hb dX7_barley_54 rfl (lv_at hl 0 rfl) ?_
        refine rj_div hx hb dX7_barley_55 ⟨by omega, by omega⟩ ⟨by omega, by omega⟩ (fun z55 e55 => ?_)
        refine zr_J hx hb hr hlk hQ () hP hD hS dX7_barley_56 (Nat.le_of_ble_eq_true rfl) (Nat.le_of_ble_eq_true rfl) ?_
        show z55 = bav w b n lm y x
        unfold bav
        first
        | (rw [if_neg (fun q => by omega)])
        | (rw [if_pos (by omega), if_pos (by omega)])
        | (rw [if_pos (by omega), if_neg (by omega), e55, e53, q33])
      · skip
        have c40 : z33 ≤ 0 := by omega
        clear e39
        refine rj_ldc (z := (-9)) hx hb hown lk_c193 dX7_barley_43 (by decide) ?_
        refine lv_goto (tgt := 56) hx hb dX7_barley_46 (by decide) ?_
        refine zr_J hx hb hr hlk hQ () hP hD hS dX7_barley_56 (Nat.le_of_ble_eq_true rfl) (Nat.le_of_ble_eq_true rfl) ?_
        show (-9) = bav w b n lm y x
        unfold bav
        first
        | (rw [if_neg (fun q => by omega)])
        | (rw [if_pos (by omega), if_pos (by omega)])
        | (rw [if_pos (by omega), if_neg (by omega), e55, e53, q33])
    · skip
      refine rj_ldc (z := (-1)) hx hb hown lk_c143 dX7_barley_21 (by decide) ?_
      refine zr_J hx hb hr hlk hQ () hP hD hS dX7_barley_24 (Nat.le_of_ble_eq_true rfl) (Nat.le_of_ble_eq_true rfl) ?_
      show (-1) = bav w b n lm y x
      unfold bav
      first
      | (rw [if_neg (fun q => by omega)])
      | (rw [if_pos (by omega), if_pos (by omega)])
      | (rw [if_pos (by omega), if_neg (by omega), e55, e53, q33])
