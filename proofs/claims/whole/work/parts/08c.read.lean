/-- a step goes on, or stays; it stays within the text where what it wants isn't the end -/
theorem ps_ge (t : Int → Int) {n d : Int} {s : Int × Int} (hd : d ≠ -1) : s.2 ≤ (ps t n d s).2 := by
  unfold ps
  split
  · rename_i q
    have := nx_bd t (kd_lt (show kd t n s.2 ≠ -1 by omega))
    show s.2 ≤ nx t n s.2
    omega
  · exact Int.le_refl _
theorem pn_ge (t : Int → Int) {n lo hi : Int} {s : Int × Int} : s.2 ≤ (pn t n lo hi s).2 := by
  unfold pn
  split
  · rename_i q
    have := nx_bd t (kd_lt (show kd t n s.2 ≠ -1 by have := q.2.1; omega))
    show s.2 ≤ nx t n s.2
    omega
  · exact Int.le_refl _
theorem itc_ge (t : Int → Int) {n p : Int} (h : p < n) (sr sl st du : Int) : p ≤ (itc t n p sr sl st du).2 := by
  unfold itc
  split
  · exact Int.le_trans (Int.le_trans (Int.le_trans (ps_ge t (s := (sr, p)) (d := 114) (by omega)) (pn_ge t)) (pn_ge t)) (pn_ge t)
  · split
    · exact Int.le_trans (Int.le_trans (ps_ge t (s := (sl, p)) (d := 108) (by omega)) (pn_ge t)) (pn_ge t)
    · split
      · exact Int.le_trans (ps_ge t (s := (st, p)) (d := 116) (by omega)) (pn_ge t)
      · split
        · exact Int.le_trans (Int.le_trans (ps_ge t (s := (if du < 6 then 0 else 1, p)) (d := 112) (by omega)) (pn_ge t)) (pn_ge t)
        · exact Int.le_refl _
set_option maxHeartbeats 4000000 in
set_option maxRecDepth 100000 in
theorem k_X5_readRing (l : Launch) (g : va_G) (ca : Nat → ClassId) (hd : Nat) (hdt : Nat) (hdk : Nat) (hds : Nat) (hdv : Nat) (n : Int) (he0 : Int) (fa : Int) (sr : Int) (sl : Int) (st0 : Int) (t : Int → Int) (tk : Int → Int) (sv : Int → Int) (va : Int → Int) (mm : Int) (hL : Nat) (hw : Nat) (he : Nat) (hdn : Nat) (hdw : Nat) (du : Int) (hv : Int) (mo : Int) (oft : Int) (la : Int) (pA : Int) (pB : Int) (hT : TXok t n) (hTK : TOK t n tk sv va mm) (hhe : 0 ≤ he0 ∧ he0 ≤ mm) (hfl : (sr = 0 ∨ sr = 1) ∧ (sl = 0 ∨ sl = 1) ∧ (st0 = 0 ∨ st0 = 1)) : zV (S := Int × Int × Int × Int × Int) l yX5_readRing wsX5_readRing ({ frames := 2, cells := 0, slots := 0, locals := 45 } : Room) g ca [.ref hd, .ref hL] [(hd, oB 5 [.ref hdt, .ref hdk, .ref hds, .ref hdv, vI n, vI he0, vI fa, vI sr, vI sl, vI st0]), (hdk, aI ca 201 tk), (hdv, aI ca 201 va), (hL, oB 2 [.ref hw, .ref he, .ref hdn, .ref hdw, vI du, vI hv, vI mo, vI oft, vI la, vI pA, vI pB])] (fun (u : Int × Int × Int × Int × Int) => (u.2.1, sv u.1) = pn t n 1 20 (pn t n 1 9 (pn t n 1 99 (ps t n 114 (sr, sv he0)))) ∧ (he0 ≤ u.1 ∧ u.1 ≤ mm) ∧ (u.2.1 = 0 ∨ u.2.1 = 1) ∧ u.2.2.1 = vl t n (ps t n 114 (sr, sv he0)).2 ∧ u.2.2.2.1 = vl t n (pn t n 1 99 (ps t n 114 (sr, sv he0))).2 ∧ u.2.2.2.2 = vl t n (pn t n 1 9 (pn t n 1 99 (ps t n 114 (sr, sv he0)))).2) (fun (u : Int × Int × Int × Int × Int) => [(hd, oB 5 [.ref hdt, .ref hdk, .ref hds, .ref hdv, vI n, vI u.1, vI u.2.1, vI 1, vI sl, vI st0]), (hdk, aI ca 201 tk), (hdv, aI ca 201 va), (hL, oB 2 [.ref hw, .ref he, .ref hdn, .ref hdw, vI du, vI u.2.2.1, vI u.2.2.2.1, vI u.2.2.2.2, vI la, vI pA, vI pB])]) 0 0 := by
  refine zm_V (cc := cX5_readRing) (maxL := 2) (ret := none) (by decide) rfl (Nat.le_of_ble_eq_true rfl) ?_
  intro p e s m below meth c A ls R args Q hR hargs hQ hx hb hml hr hts hown hlk hnm hK hP hD hA hS hl
  have hown : s.vm.findClass RX5 = some m.cls := hown
  have hl : lv_has ls 2 [(0, .ref hd), (1, .ref hL)] := hl
  have lk_f39 : (Cond.fieldLink RX5 39 "DripRings$Reader" "hadR" "Z").before args s = true := hts _ (by decide +kernel)
  have inF_X5 : ∀ w ∈ wsX50, w ∈ wsX5_readRing := by decide +kernel
  have lk_f53 : (Cond.fieldLink RX5 53 "DripRings$Reader" "faulty" "Z").before args s = true := hts _ (by decide +kernel)
  have lk_f79 : (Cond.fieldLink RX5 79 "DripRings$Law" "heaviest" "I").before args s = true := hts _ (by decide +kernel)
  have inF_X2 : ∀ w ∈ wsX20, w ∈ wsX5_readRing := by decide +kernel
  have lk_f82 : (Cond.fieldLink RX5 82 "DripRings$Law" "more" "I").before args s = true := hts _ (by decide +kernel)
  have lk_f85 : (Cond.fieldLink RX5 85 "DripRings$Law" "often" "I").before args s = true := hts _ (by decide +kernel)
  refine lv_aload_n hx hb dX5_readRing_0 rfl (lv_at hl 0 rfl) ?_
  refine lv_aload_n hx hb dX5_readRing_1 rfl (lv_at hl 0 rfl) ?_
  refine va_get (D := g) (ci := 5) (v := vI sr) (C := RX5) (T := TX5) (N := 10) hx hb hts inF_X5 hown hK.1 hP 0 rfl rfl 7 (by decide) lk_f39 (fun _ h9 => h9) rfl dX5_readRing_2 ?_
  refine va_put (D := g) (ci := 5) (v := vI sr) (ty := .boolean) (C := RX5) (T := TX5) (N := 10) hx hb hts inF_X5 tyX5 tyX5_ok nmX5 hown hK.1 hP hD hS 0 rfl rfl 6 (by decide) lk_f53 (fun _ h9 => h9) rfl (by decide +kernel) (zb_nar (show sr = 0 ∨ sr = 1 from hfl.1)) (zb_fit (show sr = 0 ∨ sr = 1 from hfl.1)) (Nat.le_of_ble_eq_true rfl) dX5_readRing_5 (fun H locs hP hD hS => ?_)
  have hP : va_P g vwCl [(hd, oB 5 [.ref hdt, .ref hdk, .ref hds, .ref hdv, vI n, vI he0, vI sr, vI sr, vI sl, vI st0]), (hdk, aI ca 201 tk), (hdv, aI ca 201 va), (hL, oB 2 [.ref hw, .ref he, .ref hdn, .ref hdw, vI du, vI hv, vI mo, vI oft, vI la, vI pA, vI pB])] H := hP
  have hD : va_D A [(hd, oB 5 [.ref hdt, .ref hdk, .ref hds, .ref hdv, vI n, vI he0, vI sr, vI sr, vI sl, vI st0]), (hdk, aI ca 201 tk), (hdv, aI ca 201 va), (hL, oB 2 [.ref hw, .ref he, .ref hdn, .ref hdw, vI du, vI hv, vI mo, vI oft, vI la, vI pA, vI pB])] := hD
  refine lv_aload_n hx hb dX5_readRing_8 rfl (lv_at hl 0 rfl) ?_
  refine lv_iconst (v := Int32.ofInt 1) hx hb dX5_readRing_9 rfl ?_
  refine va_put (D := g) (ci := 5) (v := vI 1) (ty := .boolean) (C := RX5) (T := TX5) (N := 10) hx hb hts inF_X5 tyX5 tyX5_ok nmX5 hown hK.1 hP hD hS 0 rfl rfl 7 (by decide) lk_f39 (fun _ h9 => h9) rfl (by decide +kernel) (zb_nar (Or.inr rfl)) (zb_fit (Or.inr rfl)) (Nat.le_of_ble_eq_true rfl) dX5_readRing_10 (fun H locs hP hD hS => ?_)
  have hP : va_P g vwCl [(hd, oB 5 [.ref hdt, .ref hdk, .ref hds, .ref hdv, vI n, vI he0, vI sr, vI 1, vI sl, vI st0]), (hdk, aI ca 201 tk), (hdv, aI ca 201 va), (hL, oB 2 [.ref hw, .ref he, .ref hdn, .ref hdw, vI du, vI hv, vI mo, vI oft, vI la, vI pA, vI pB])] H := hP
  have hD : va_D A [(hd, oB 5 [.ref hdt, .ref hdk, .ref hds, .ref hdv, vI n, vI he0, vI sr, vI 1, vI sl, vI st0]), (hdk, aI ca 201 tk), (hdv, aI ca 201 va), (hL, oB 2 [.ref hw, .ref he, .ref hdn, .ref hdw, vI du, vI hv, vI mo, vI oft, vI la, vI pA, vI pB])] := hD
  refine lv_aload_n hx hb dX5_readRing_13 rfl (lv_at hl 0 rfl) ?_
  refine lv_bipush (v := Int32.ofInt 114) hx hb dX5_readRing_14 (by decide) ?_
  refine zc_VV (As := [vI 114]) (rest := []) (wc := [(hd, oB 5 [.ref hdt, .ref hdk, .ref hds, .ref hdv, vI n, vI he0, vI sr, vI 1, vI sl, vI st0]), (hdk, aI ca 201 tk)]) (wr := [(hdv, aI ca 201 va), (hL, oB 2 [.ref hw, .ref he, .ref hdn, .ref hdw, vI du, vI hv, vI mo, vI oft, vI la, vI pA, vI pB])]) (k_X5_pass l g ca hd hdt hdk hds hdv n he0 sr 1 sl st0 t tk sv va mm 114 (by first | assumption | omega) (by first | assumption | omega) (by first | assumption | omega) (by first | assumption | omega) (by first | assumption | omega)) dX5_readRing_16 (cwV 1 hts gX5_readRing_X5_pass rfl rfl rfl (by decide +kernel) (by rw [hR]; exact ⟨Nat.le_of_ble_eq_true rfl, Nat.le_of_ble_eq_true rfl⟩)) ⟨hx, hb, hml, hown, hts⟩ hl.1 hK hP hD hS hA 0 rfl rfl rfl [0, 1] [2, 3] rfl (by decide) rfl (by decide) (by decide) rfl rfl (Nat.le_of_ble_eq_true rfl) (by rw [hR]; exact ⟨Nat.le_of_ble_eq_true rfl, Nat.le_of_ble_eq_true rfl⟩) (fun u H locs q16 hP hD hS => ?_)
  obtain ⟨fa1_16, he1_16⟩ := u
  have q16 : (fa1_16, sv he1_16) = ps t n 114 (sr, sv he0) ∧ (he0 ≤ he1_16 ∧ he1_16 ≤ mm) ∧ (fa1_16 = 0 ∨ fa1_16 = 1) := q16
  obtain ⟨q16_0, q16_1, q16_2⟩ := q16
  have hP : va_P g vwCl [(hd, oB 5 [.ref hdt, .ref hdk, .ref hds, .ref hdv, vI n, vI he1_16, vI fa1_16, vI 1, vI sl, vI st0]), (hdk, aI ca 201 tk), (hdv, aI ca 201 va), (hL, oB 2 [.ref hw, .ref he, .ref hdn, .ref hdw, vI du, vI hv, vI mo, vI oft, vI la, vI pA, vI pB])] H := hP.sub [2, 3, 0, 1] rfl
  have hD : va_D A [(hd, oB 5 [.ref hdt, .ref hdk, .ref hds, .ref hdv, vI n, vI he1_16, vI fa1_16, vI 1, vI sl, vI st0]), (hdk, aI ca 201 tk), (hdv, aI ca 201 va), (hL, oB 2 [.ref hw, .ref he, .ref hdn, .ref hdw, vI du, vI hv, vI mo, vI oft, vI la, vI pA, vI pB])] := hD.sub [2, 3, 0, 1] (by decide) rfl
  refine lv_aload_n hx hb dX5_readRing_19 rfl (lv_at hl 1 rfl) ?_
  refine lv_aload_n hx hb dX5_readRing_20 rfl (lv_at hl 0 rfl) ?_
  refine lv_iconst (v := Int32.ofInt 1) hx hb dX5_readRing_21 rfl ?_
  refine lv_bipush (v := Int32.ofInt 99) hx hb dX5_readRing_22 (by decide) ?_
  refine zc_VI (As := [vI 1, vI 99]) (rest := [.ref hL]) (wc := [(hd, oB 5 [.ref hdt, .ref hdk, .ref hds, .ref hdv, vI n, vI he1_16, vI fa1_16, vI 1, vI sl, vI st0]), (hdk, aI ca 201 tk), (hdv, aI ca 201 va)]) (wr := [(hL, oB 2 [.ref hw, .ref he, .ref hdn, .ref hdw, vI du, vI hv, vI mo, vI oft, vI la, vI pA, vI pB])]) (k_X5_readNumber l g ca hd hdt hdk hds hdv n he1_16 fa1_16 1 sl st0 t tk sv va mm 1 99 (by first | assumption | omega) (by first | assumption | omega) (by first | assumption | omega) (by first | assumption | omega) (by first | assumption | omega)) dX5_readRing_24 (cwV 2 hts gX5_readRing_X5_readNumber rfl rfl rfl (by decide +kernel) (by rw [hR]; exact ⟨Nat.le_of_ble_eq_true rfl, Nat.le_of_ble_eq_true rfl⟩)) ⟨hx, hb, hml, hown, hts⟩ hl.1 hK hP hD hS hA 0 rfl rfl rfl [0, 1, 2] [3] rfl (by decide) rfl (by decide) (by decide) rfl rfl (Nat.le_of_ble_eq_true rfl) (by rw [hR]; exact ⟨Nat.le_of_ble_eq_true rfl, Nat.le_of_ble_eq_true rfl⟩) (fun z24 u H locs q24 hP hD hS => ?_)
  obtain ⟨fa1_24, he1_24⟩ := u
  have q24 : z24 = vl t n (sv he1_16) ∧ (fa1_24, sv he1_24) = pn t n 1 99 (fa1_16, sv he1_16) ∧ (he1_16 ≤ he1_24 ∧ he1_24 ≤ mm) ∧ (fa1_24 = 0 ∨ fa1_24 = 1) := q24
  obtain ⟨q24_0, q24_1, q24_2, q24_3⟩ := q24
  have hP : va_P g vwCl [(hd, oB 5 [.ref hdt, .ref hdk, .ref hds, .ref hdv, vI n, vI he1_24, vI fa1_24, vI 1, vI sl, vI st0]), (hdk, aI ca 201 tk), (hdv, aI ca 201 va), (hL, oB 2 [.ref hw, .ref he, .ref hdn, .ref hdw, vI du, vI hv, vI mo, vI oft, vI la, vI pA, vI pB])] H := hP.sub [1, 2, 3, 0] rfl
  have hD : va_D A [(hd, oB 5 [.ref hdt, .ref hdk, .ref hds, .ref hdv, vI n, vI he1_24, vI fa1_24, vI 1, vI sl, vI st0]), (hdk, aI ca 201 tk), (hdv, aI ca 201 va), (hL, oB 2 [.ref hw, .ref he, .ref hdn, .ref hdw, vI du, vI hv, vI mo, vI oft, vI la, vI pA, vI pB])] := hD.sub [1, 2, 3, 0] (by decide) rfl
  refine va_put (D := g) (ci := 2) (v := vI z24) (ty := .int) (C := RX2) (T := TX2) (N := 11) hx hb hts inF_X2 tyX2 tyX2_ok nmX2 hown hK.1 hP hD hS 3 rfl rfl 5 (by decide) lk_f79 (fun _ h9 => h9) rfl (by decide +kernel) rfl rfl (Nat.le_of_ble_eq_true rfl) dX5_readRing_27 (fun H locs hP hD hS => ?_)
  have hP : va_P g vwCl [(hd, oB 5 [.ref hdt, .ref hdk, .ref hds, .ref hdv, vI n, vI he1_24, vI fa1_24, vI 1, vI sl, vI st0]), (hdk, aI ca 201 tk), (hdv, aI ca 201 va), (hL, oB 2 [.ref hw, .ref he, .ref hdn, .ref hdw, vI du, vI z24, vI mo, vI oft, vI la, vI pA, vI pB])] H := hP
  have hD : va_D A [(hd, oB 5 [.ref hdt, .ref hdk, .ref hds, .ref hdv, vI n, vI he1_24, vI fa1_24, vI 1, vI sl, vI st0]), (hdk, aI ca 201 tk), (hdv, aI ca 201 va), (hL, oB 2 [.ref hw, .ref he, .ref hdn, .ref hdw, vI du, vI z24, vI mo, vI oft, vI la, vI pA, vI pB])] := hD
  refine lv_aload_n hx hb dX5_readRing_30 rfl (lv_at hl 1 rfl) ?_
  refine lv_aload_n hx hb dX5_readRing_31 rfl (lv_at hl 0 rfl) ?_
  refine lv_iconst (v := Int32.ofInt 1) hx hb dX5_readRing_32 rfl ?_
  refine lv_bipush (v := Int32.ofInt 9) hx hb dX5_readRing_33 (by decide) ?_
  refine zc_VI (As := [vI 1, vI 9]) (rest := [.ref hL]) (wc := [(hd, oB 5 [.ref hdt, .ref hdk, .ref hds, .ref hdv, vI n, vI he1_24, vI fa1_24, vI 1, vI sl, vI st0]), (hdk, aI ca 201 tk), (hdv, aI ca 201 va)]) (wr := [(hL, oB 2 [.ref hw, .ref he, .ref hdn, .ref hdw, vI du, vI z24, vI mo, vI oft, vI la, vI pA, vI pB])]) (k_X5_readNumber l g ca hd hdt hdk hds hdv n he1_24 fa1_24 1 sl st0 t tk sv va mm 1 9 (by first | assumption | omega) (by first | assumption | omega) (by first | assumption | omega) (by first | assumption | omega) (by first | assumption | omega)) dX5_readRing_35 (cwV 2 hts gX5_readRing_X5_readNumber rfl rfl rfl (by decide +kernel) (by rw [hR]; exact ⟨Nat.le_of_ble_eq_true rfl, Nat.le_of_ble_eq_true rfl⟩)) ⟨hx, hb, hml, hown, hts⟩ hl.1 hK hP hD hS hA 0 rfl rfl rfl [0, 1, 2] [3] rfl (by decide) rfl (by decide) (by decide) rfl rfl (Nat.le_of_ble_eq_true rfl) (by rw [hR]; exact ⟨Nat.le_of_ble_eq_true rfl, Nat.le_of_ble_eq_true rfl⟩) (fun z35 u H locs q35 hP hD hS => ?_)
  obtain ⟨fa1_35, he1_35⟩ := u
  have q35 : z35 = vl t n (sv he1_24) ∧ (fa1_35, sv he1_35) = pn t n 1 9 (fa1_24, sv he1_24) ∧ (he1_24 ≤ he1_35 ∧ he1_35 ≤ mm) ∧ (fa1_35 = 0 ∨ fa1_35 = 1) := q35
  obtain ⟨q35_0, q35_1, q35_2, q35_3⟩ := q35
  have hP : va_P g vwCl [(hd, oB 5 [.ref hdt, .ref hdk, .ref hds, .ref hdv, vI n, vI he1_35, vI fa1_35, vI 1, vI sl, vI st0]), (hdk, aI ca 201 tk), (hdv, aI ca 201 va), (hL, oB 2 [.ref hw, .ref he, .ref hdn, .ref hdw, vI du, vI z24, vI mo, vI oft, vI la, vI pA, vI pB])] H := hP.sub [1, 2, 3, 0] rfl
  have hD : va_D A [(hd, oB 5 [.ref hdt, .ref hdk, .ref hds, .ref hdv, vI n, vI he1_35, vI fa1_35, vI 1, vI sl, vI st0]), (hdk, aI ca 201 tk), (hdv, aI ca 201 va), (hL, oB 2 [.ref hw, .ref he, .ref hdn, .ref hdw, vI du, vI z24, vI mo, vI oft, vI la, vI pA, vI pB])] := hD.sub [1, 2, 3, 0] (by decide) rfl
  refine va_put (D := g) (ci := 2) (v := vI z35) (ty := .int) (C := RX2) (T := TX2) (N := 11) hx hb hts inF_X2 tyX2 tyX2_ok nmX2 hown hK.1 hP hD hS 3 rfl rfl 6 (by decide) lk_f82 (fun _ h9 => h9) rfl (by decide +kernel) rfl rfl (Nat.le_of_ble_eq_true rfl) dX5_readRing_38 (fun H locs hP hD hS => ?_)
  have hP : va_P g vwCl [(hd, oB 5 [.ref hdt, .ref hdk, .ref hds, .ref hdv, vI n, vI he1_35, vI fa1_35, vI 1, vI sl, vI st0]), (hdk, aI ca 201 tk), (hdv, aI ca 201 va), (hL, oB 2 [.ref hw, .ref he, .ref hdn, .ref hdw, vI du, vI z24, vI z35, vI oft, vI la, vI pA, vI pB])] H := hP
  have hD : va_D A [(hd, oB 5 [.ref hdt, .ref hdk, .ref hds, .ref hdv, vI n, vI he1_35, vI fa1_35, vI 1, vI sl, vI st0]), (hdk, aI ca 201 tk), (hdv, aI ca 201 va), (hL, oB 2 [.ref hw, .ref he, .ref hdn, .ref hdw, vI du, vI z24, vI z35, vI oft, vI la, vI pA, vI pB])] := hD
  refine lv_aload_n hx hb dX5_readRing_41 rfl (lv_at hl 1 rfl) ?_
  refine lv_aload_n hx hb dX5_readRing_42 rfl (lv_at hl 0 rfl) ?_
  refine lv_iconst (v := Int32.ofInt 1) hx hb dX5_readRing_43 rfl ?_
  refine lv_bipush (v := Int32.ofInt 20) hx hb dX5_readRing_44 (by decide) ?_
  refine zc_VI (As := [vI 1, vI 20]) (rest := [.ref hL]) (wc := [(hd, oB 5 [.ref hdt, .ref hdk, .ref hds, .ref hdv, vI n, vI he1_35, vI fa1_35, vI 1, vI sl, vI st0]), (hdk, aI ca 201 tk), (hdv, aI ca 201 va)]) (wr := [(hL, oB 2 [.ref hw, .ref he, .ref hdn, .ref hdw, vI du, vI z24, vI z35, vI oft, vI la, vI pA, vI pB])]) (k_X5_readNumber l g ca hd hdt hdk hds hdv n he1_35 fa1_35 1 sl st0 t tk sv va mm 1 20 (by first | assumption | omega) (by first | assumption | omega) (by first | assumption | omega) (by first | assumption | omega) (by first | assumption | omega)) dX5_readRing_46 (cwV 2 hts gX5_readRing_X5_readNumber rfl rfl rfl (by decide +kernel) (by rw [hR]; exact ⟨Nat.le_of_ble_eq_true rfl, Nat.le_of_ble_eq_true rfl⟩)) ⟨hx, hb, hml, hown, hts⟩ hl.1 hK hP hD hS hA 0 rfl rfl rfl [0, 1, 2] [3] rfl (by decide) rfl (by decide) (by decide) rfl rfl (Nat.le_of_ble_eq_true rfl) (by rw [hR]; exact ⟨Nat.le_of_ble_eq_true rfl, Nat.le_of_ble_eq_true rfl⟩) (fun z46 u H locs q46 hP hD hS => ?_)
  obtain ⟨fa1_46, he1_46⟩ := u
  have q46 : z46 = vl t n (sv he1_35) ∧ (fa1_46, sv he1_46) = pn t n 1 20 (fa1_35, sv he1_35) ∧ (he1_35 ≤ he1_46 ∧ he1_46 ≤ mm) ∧ (fa1_46 = 0 ∨ fa1_46 = 1) := q46
  obtain ⟨q46_0, q46_1, q46_2, q46_3⟩ := q46
  have hP : va_P g vwCl [(hd, oB 5 [.ref hdt, .ref hdk, .ref hds, .ref hdv, vI n, vI he1_46, vI fa1_46, vI 1, vI sl, vI st0]), (hdk, aI ca 201 tk), (hdv, aI ca 201 va), (hL, oB 2 [.ref hw, .ref he, .ref hdn, .ref hdw, vI du, vI z24, vI z35, vI oft, vI la, vI pA, vI pB])] H := hP.sub [1, 2, 3, 0] rfl
  have hD : va_D A [(hd, oB 5 [.ref hdt, .ref hdk, .ref hds, .ref hdv, vI n, vI he1_46, vI fa1_46, vI 1, vI sl, vI st0]), (hdk, aI ca 201 tk), (hdv, aI ca 201 va), (hL, oB 2 [.ref hw, .ref he, .ref hdn, .ref hdw, vI du, vI z24, vI z35, vI oft, vI la, vI pA, vI pB])] := hD.sub [1, 2, 3, 0] (by decide) rfl
  refine va_put (D := g) (ci := 2) (v := vI z46) (ty := .int) (C := RX2) (T := TX2) (N := 11) hx hb hts inF_X2 tyX2 tyX2_ok nmX2 hown hK.1 hP hD hS 3 rfl rfl 7 (by decide) lk_f85 (fun _ h9 => h9) rfl (by decide +kernel) rfl rfl (Nat.le_of_ble_eq_true rfl) dX5_readRing_49 (fun H locs hP hD hS => ?_)
  have hP : va_P g vwCl [(hd, oB 5 [.ref hdt, .ref hdk, .ref hds, .ref hdv, vI n, vI he1_46, vI fa1_46, vI 1, vI sl, vI st0]), (hdk, aI ca 201 tk), (hdv, aI ca 201 va), (hL, oB 2 [.ref hw, .ref he, .ref hdn, .ref hdw, vI du, vI z24, vI z35, vI z46, vI la, vI pA, vI pB])] H := hP
  have hD : va_D A [(hd, oB 5 [.ref hdt, .ref hdk, .ref hds, .ref hdv, vI n, vI he1_46, vI fa1_46, vI 1, vI sl, vI st0]), (hdk, aI ca 201 tk), (hdv, aI ca 201 va), (hL, oB 2 [.ref hw, .ref he, .ref hdn, .ref hdw, vI du, vI z24, vI z35, vI z46, vI la, vI pA, vI pB])] := hD
  refine zr_V hx hb hr hlk hQ (he1_46, fa1_46, z24, z35, z46) hP hD hS dX5_readRing_52 (Nat.le_of_ble_eq_true rfl) (Nat.le_of_ble_eq_true rfl) ?_
  show (fa1_46, sv he1_46) = pn t n 1 20 (pn t n 1 9 (pn t n 1 99 (ps t n 114 (sr, sv he0)))) ∧ (he0 ≤ he1_46 ∧ he1_46 ≤ mm) ∧ (fa1_46 = 0 ∨ fa1_46 = 1) ∧ z24 = vl t n (ps t n 114 (sr, sv he0)).2 ∧ z35 = vl t n (pn t n 1 99 (ps t n 114 (sr, sv he0))).2 ∧ z46 = vl t n (pn t n 1 9 (pn t n 1 99 (ps t n 114 (sr, sv he0)))).2
  rw [q16_0] at q24_1
  rw [q24_1] at q35_1
  rw [q35_1] at q46_1
  exact ⟨q46_1, by omega, q46_3, by rw [q24_0]; exact congrArg (vl t n) (congrArg Prod.snd q16_0), by rw [q35_0]; exact congrArg (vl t n) (congrArg Prod.snd q24_1), by rw [q46_0]; exact congrArg (vl t n) (congrArg Prod.snd q35_1)⟩
set_option maxHeartbeats 4000000 in
set_option maxRecDepth 100000 in
theorem k_X5_readLess (l : Launch) (g : va_G) (ca : Nat → ClassId) (hd : Nat) (hdt : Nat) (hdk : Nat) (hds : Nat) (hdv : Nat) (n : Int) (he0 : Int) (fa : Int) (sr : Int) (sl : Int) (st0 : Int) (t : Int → Int) (tk : Int → Int) (sv : Int → Int) (va : Int → Int) (mm : Int) (hL : Nat) (hw : Nat) (he : Nat) (hdn : Nat) (hdw : Nat) (du : Int) (hv : Int) (mo : Int) (oft : Int) (la : Int) (pA : Int) (pB : Int) (hT : TXok t n) (hTK : TOK t n tk sv va mm) (hhe : 0 ≤ he0 ∧ he0 ≤ mm) (hfl : (sr = 0 ∨ sr = 1) ∧ (sl = 0 ∨ sl = 1) ∧ (st0 = 0 ∨ st0 = 1)) : zV (S := Int × Int × Int × Int) l yX5_readLess wsX5_readLess ({ frames := 2, cells := 0, slots := 0, locals := 45 } : Room) g ca [.ref hd, .ref hL] [(hd, oB 5 [.ref hdt, .ref hdk, .ref hds, .ref hdv, vI n, vI he0, vI fa, vI sr, vI sl, vI st0]), (hdk, aI ca 201 tk), (hdv, aI ca 201 va), (hL, oB 2 [.ref hw, .ref he, .ref hdn, .ref hdw, vI du, vI hv, vI mo, vI oft, vI la, vI pA, vI pB])] (fun (u : Int × Int × Int × Int) => (u.2.1, sv u.1) = pn t n (vl t n (ps t n 108 (sl, sv he0)).2 + 1) 9 (pn t n 1 8 (ps t n 108 (sl, sv he0))) ∧ (he0 ≤ u.1 ∧ u.1 ≤ mm) ∧ (u.2.1 = 0 ∨ u.2.1 = 1) ∧ u.2.2.1 = vl t n (ps t n 108 (sl, sv he0)).2 ∧ u.2.2.2 = vl t n (pn t n 1 8 (ps t n 108 (sl, sv he0))).2) (fun (u : Int × Int × Int × Int) => [(hd, oB 5 [.ref hdt, .ref hdk, .ref hds, .ref hdv, vI n, vI u.1, vI u.2.1, vI sr, vI 1, vI st0]), (hdk, aI ca 201 tk), (hdv, aI ca 201 va), (hL, oB 2 [.ref hw, .ref he, .ref hdn, .ref hdw, vI du, vI hv, vI mo, vI oft, vI la, vI u.2.2.1, vI u.2.2.2])]) 0 0 := by
  refine zm_V (cc := cX5_readLess) (maxL := 2) (ret := none) (by decide) rfl (Nat.le_of_ble_eq_true rfl) ?_
  intro p e s m below meth c A ls R args Q hR hargs hQ hx hb hml hr hts hown hlk hnm hK hP hD hA hS hl
  have hown : s.vm.findClass RX5 = some m.cls := hown
  have hl : lv_has ls 2 [(0, .ref hd), (1, .ref hL)] := hl
  have lk_f43 : (Cond.fieldLink RX5 43 "DripRings$Reader" "hadL" "Z").before args s = true := hts _ (by decide +kernel)
  have inF_X5 : ∀ w ∈ wsX50, w ∈ wsX5_readLess := by decide +kernel
  have lk_f53 : (Cond.fieldLink RX5 53 "DripRings$Reader" "faulty" "Z").before args s = true := hts _ (by decide +kernel)
  have lk_f88 : (Cond.fieldLink RX5 88 "DripRings$Law" "partA" "I").before args s = true := hts _ (by decide +kernel)
  have inF_X2 : ∀ w ∈ wsX20, w ∈ wsX5_readLess := by decide +kernel
  have lk_f91 : (Cond.fieldLink RX5 91 "DripRings$Law" "partB" "I").before args s = true := hts _ (by decide +kernel)
  refine lv_aload_n hx hb dX5_readLess_0 rfl (lv_at hl 0 rfl) ?_
  refine lv_aload_n hx hb dX5_readLess_1 rfl (lv_at hl 0 rfl) ?_
  refine va_get (D := g) (ci := 5) (v := vI sl) (C := RX5) (T := TX5) (N := 10) hx hb hts inF_X5 hown hK.1 hP 0 rfl rfl 8 (by decide) lk_f43 (fun _ h9 => h9) rfl dX5_readLess_2 ?_
  refine va_put (D := g) (ci := 5) (v := vI sl) (ty := .boolean) (C := RX5) (T := TX5) (N := 10) hx hb hts inF_X5 tyX5 tyX5_ok nmX5 hown hK.1 hP hD hS 0 rfl rfl 6 (by decide) lk_f53 (fun _ h9 => h9) rfl (by decide +kernel) (zb_nar (show sl = 0 ∨ sl = 1 from hfl.2.1)) (zb_fit (show sl = 0 ∨ sl = 1 from hfl.2.1)) (Nat.le_of_ble_eq_true rfl) dX5_readLess_5 (fun H locs hP hD hS => ?_)
  have hP : va_P g vwCl [(hd, oB 5 [.ref hdt, .ref hdk, .ref hds, .ref hdv, vI n, vI he0, vI sl, vI sr, vI sl, vI st0]), (hdk, aI ca 201 tk), (hdv, aI ca 201 va), (hL, oB 2 [.ref hw, .ref he, .ref hdn, .ref hdw, vI du, vI hv, vI mo, vI oft, vI la, vI pA, vI pB])] H := hP
  have hD : va_D A [(hd, oB 5 [.ref hdt, .ref hdk, .ref hds, .ref hdv, vI n, vI he0, vI sl, vI sr, vI sl, vI st0]), (hdk, aI ca 201 tk), (hdv, aI ca 201 va), (hL, oB 2 [.ref hw, .ref he, .ref hdn, .ref hdw, vI du, vI hv, vI mo, vI oft, vI la, vI pA, vI pB])] := hD
  refine lv_aload_n hx hb dX5_readLess_8 rfl (lv_at hl 0 rfl) ?_
  refine lv_iconst (v := Int32.ofInt 1) hx hb dX5_readLess_9 rfl ?_
  refine va_put (D := g) (ci := 5) (v := vI 1) (ty := .boolean) (C := RX5) (T := TX5) (N := 10) hx hb hts inF_X5 tyX5 tyX5_ok nmX5 hown hK.1 hP hD hS 0 rfl rfl 8 (by decide) lk_f43 (fun _ h9 => h9) rfl (by decide +kernel) (zb_nar (Or.inr rfl)) (zb_fit (Or.inr rfl)) (Nat.le_of_ble_eq_true rfl) dX5_readLess_10 (fun H locs hP hD hS => ?_)
  have hP : va_P g vwCl [(hd, oB 5 [.ref hdt, .ref hdk, .ref hds, .ref hdv, vI n, vI he0, vI sl, vI sr, vI 1, vI st0]), (hdk, aI ca 201 tk), (hdv, aI ca 201 va), (hL, oB 2 [.ref hw, .ref he, .ref hdn, .ref hdw, vI du, vI hv, vI mo, vI oft, vI la, vI pA, vI pB])] H := hP
  have hD : va_D A [(hd, oB 5 [.ref hdt, .ref hdk, .ref hds, .ref hdv, vI n, vI he0, vI sl, vI sr, vI 1, vI st0]), (hdk, aI ca 201 tk), (hdv, aI ca 201 va), (hL, oB 2 [.ref hw, .ref he, .ref hdn, .ref hdw, vI du, vI hv, vI mo, vI oft, vI la, vI pA, vI pB])] := hD
  refine lv_aload_n hx hb dX5_readLess_13 rfl (lv_at hl 0 rfl) ?_
  refine lv_bipush (v := Int32.ofInt 108) hx hb dX5_readLess_14 (by decide) ?_
  refine zc_VV (As := [vI 108]) (rest := []) (wc := [(hd, oB 5 [.ref hdt, .ref hdk, .ref hds, .ref hdv, vI n, vI he0, vI sl, vI sr, vI 1, vI st0]), (hdk, aI ca 201 tk)]) (wr := [(hdv, aI ca 201 va), (hL, oB 2 [.ref hw, .ref he, .ref hdn, .ref hdw, vI du, vI hv, vI mo, vI oft, vI la, vI pA, vI pB])]) (k_X5_pass l g ca hd hdt hdk hds hdv n he0 sl sr 1 st0 t tk sv va mm 108 (by first | assumption | omega) (by first | assumption | omega) (by first | assumption | omega) (by first | assumption | omega) (by first | assumption | omega)) dX5_readLess_16 (cwV 1 hts gX5_readLess_X5_pass rfl rfl rfl (by decide +kernel) (by rw [hR]; exact ⟨Nat.le_of_ble_eq_true rfl, Nat.le_of_ble_eq_true rfl⟩)) ⟨hx, hb, hml, hown, hts⟩ hl.1 hK hP hD hS hA 0 rfl rfl rfl [0, 1] [2, 3] rfl (by decide) rfl (by decide) (by decide) rfl rfl (Nat.le_of_ble_eq_true rfl) (by rw [hR]; exact ⟨Nat.le_of_ble_eq_true rfl, Nat.le_of_ble_eq_true rfl⟩) (fun u H locs q16 hP hD hS => ?_)
  obtain ⟨fa1_16, he1_16⟩ := u
  have q16 : (fa1_16, sv he1_16) = ps t n 108 (sl, sv he0) ∧ (he0 ≤ he1_16 ∧ he1_16 ≤ mm) ∧ (fa1_16 = 0 ∨ fa1_16 = 1) := q16
  obtain ⟨q16_0, q16_1, q16_2⟩ := q16
  have hP : va_P g vwCl [(hd, oB 5 [.ref hdt, .ref hdk, .ref hds, .ref hdv, vI n, vI he1_16, vI fa1_16, vI sr, vI 1, vI st0]), (hdk, aI ca 201 tk), (hdv, aI ca 201 va), (hL, oB 2 [.ref hw, .ref he, .ref hdn, .ref hdw, vI du, vI hv, vI mo, vI oft, vI la, vI pA, vI pB])] H := hP.sub [2, 3, 0, 1] rfl
  have hD : va_D A [(hd, oB 5 [.ref hdt, .ref hdk, .ref hds, .ref hdv, vI n, vI he1_16, vI fa1_16, vI sr, vI 1, vI st0]), (hdk, aI ca 201 tk), (hdv, aI ca 201 va), (hL, oB 2 [.ref hw, .ref he, .ref hdn, .ref hdw, vI du, vI hv, vI mo, vI oft, vI la, vI pA, vI pB])] := hD.sub [2, 3, 0, 1] (by decide) rfl
  refine lv_aload_n hx hb dX5_readLess_19 rfl (lv_at hl 1 rfl) ?_
  refine lv_aload_n hx hb dX5_readLess_20 rfl (lv_at hl 0 rfl) ?_
  refine lv_iconst (v := Int32.ofInt 1) hx hb dX5_readLess_21 rfl ?_
  refine lv_bipush (v := Int32.ofInt 8) hx hb dX5_readLess_22 (by decide) ?_
  refine zc_VI (As := [vI 1, vI 8]) (rest := [.ref hL]) (wc := [(hd, oB 5 [.ref hdt, .ref hdk, .ref hds, .ref hdv, vI n, vI he1_16, vI fa1_16, vI sr, vI 1, vI st0]), (hdk, aI ca 201 tk), (hdv, aI ca 201 va)]) (wr := [(hL, oB 2 [.ref hw, .ref he, .ref hdn, .ref hdw, vI du, vI hv, vI mo, vI oft, vI la, vI pA, vI pB])]) (k_X5_readNumber l g ca hd hdt hdk hds hdv n he1_16 fa1_16 sr 1 st0 t tk sv va mm 1 8 (by first | assumption | omega) (by first | assumption | omega) (by first | assumption | omega) (by first | assumption | omega) (by first | assumption | omega)) dX5_readLess_24 (cwV 2 hts gX5_readLess_X5_readNumber rfl rfl rfl (by decide +kernel) (by rw [hR]; exact ⟨Nat.le_of_ble_eq_true rfl, Nat.le_of_ble_eq_true rfl⟩)) ⟨hx, hb, hml, hown, hts⟩ hl.1 hK hP hD hS hA 0 rfl rfl rfl [0, 1, 2] [3] rfl (by decide) rfl (by decide) (by decide) rfl rfl (Nat.le_of_ble_eq_true rfl) (by rw [hR]; exact ⟨Nat.le_of_ble_eq_true rfl, Nat.le_of_ble_eq_true rfl⟩) (fun z24 u H locs q24 hP hD hS => ?_)
  obtain ⟨fa1_24, he1_24⟩ := u
  have q24 : z24 = vl t n (sv he1_16) ∧ (fa1_24, sv he1_24) = pn t n 1 8 (fa1_16, sv he1_16) ∧ (he1_16 ≤ he1_24 ∧ he1_24 ≤ mm) ∧ (fa1_24 = 0 ∨ fa1_24 = 1) := q24
  obtain ⟨q24_0, q24_1, q24_2, q24_3⟩ := q24
  have hP : va_P g vwCl [(hd, oB 5 [.ref hdt, .ref hdk, .ref hds, .ref hdv, vI n, vI he1_24, vI fa1_24, vI sr, vI 1, vI st0]), (hdk, aI ca 201 tk), (hdv, aI ca 201 va), (hL, oB 2 [.ref hw, .ref he, .ref hdn, .ref hdw, vI du, vI hv, vI mo, vI oft, vI la, vI pA, vI pB])] H := hP.sub [1, 2, 3, 0] rfl
  have hD : va_D A [(hd, oB 5 [.ref hdt, .ref hdk, .ref hds, .ref hdv, vI n, vI he1_24, vI fa1_24, vI sr, vI 1, vI st0]), (hdk, aI ca 201 tk), (hdv, aI ca 201 va), (hL, oB 2 [.ref hw, .ref he, .ref hdn, .ref hdw, vI du, vI hv, vI mo, vI oft, vI la, vI pA, vI pB])] := hD.sub [1, 2, 3, 0] (by decide) rfl
  refine va_put (D := g) (ci := 2) (v := vI z24) (ty := .int) (C := RX2) (T := TX2) (N := 11) hx hb hts inF_X2 tyX2 tyX2_ok nmX2 hown hK.1 hP hD hS 3 rfl rfl 9 (by decide) lk_f88 (fun _ h9 => h9) rfl (by decide +kernel) rfl rfl (Nat.le_of_ble_eq_true rfl) dX5_readLess_27 (fun H locs hP hD hS => ?_)
  have hP : va_P g vwCl [(hd, oB 5 [.ref hdt, .ref hdk, .ref hds, .ref hdv, vI n, vI he1_24, vI fa1_24, vI sr, vI 1, vI st0]), (hdk, aI ca 201 tk), (hdv, aI ca 201 va), (hL, oB 2 [.ref hw, .ref he, .ref hdn, .ref hdw, vI du, vI hv, vI mo, vI oft, vI la, vI z24, vI pB])] H := hP
  have hD : va_D A [(hd, oB 5 [.ref hdt, .ref hdk, .ref hds, .ref hdv, vI n, vI he1_24, vI fa1_24, vI sr, vI 1, vI st0]), (hdk, aI ca 201 tk), (hdv, aI ca 201 va), (hL, oB 2 [.ref hw, .ref he, .ref hdn, .ref hdw, vI du, vI hv, vI mo, vI oft, vI la, vI z24, vI pB])] := hD
  refine lv_aload_n hx hb dX5_readLess_30 rfl (lv_at hl 1 rfl) ?_
  refine lv_aload_n hx hb dX5_readLess_31 rfl (lv_at hl 0 rfl) ?_
  refine lv_aload_n hx hb dX5_readLess_32 rfl (lv_at hl 1 rfl) ?_
  refine va_get (D := g) (ci := 2) (v := vI z24) (C := RX2) (T := TX2) (N := 11) hx hb hts inF_X2 hown hK.1 hP 3 rfl rfl 9 (by decide) lk_f88 (fun _ h9 => h9) rfl dX5_readLess_33 ?_
  refine lv_iconst (v := Int32.ofInt 1) hx hb dX5_readLess_36 rfl ?_
  have hz24 : 0 ≤ z24 ∧ z24 ≤ 201 := by rw [q24_0]; exact vl_bd t n _
  refine ri_add hx hb dX5_readLess_37 (fun z37 e37 => ?_)
  refine lv_bipush (v := Int32.ofInt 9) hx hb dX5_readLess_38 (by decide) ?_
  refine zc_VI (As := [vI z37, vI 9]) (rest := [.ref hL]) (wc := [(hd, oB 5 [.ref hdt, .ref hdk, .ref hds, .ref hdv, vI n, vI he1_24, vI fa1_24, vI sr, vI 1, vI st0]), (hdk, aI ca 201 tk), (hdv, aI ca 201 va)]) (wr := [(hL, oB 2 [.ref hw, .ref he, .ref hdn, .ref hdw, vI du, vI hv, vI mo, vI oft, vI la, vI z24, vI pB])]) (k_X5_readNumber l g ca hd hdt hdk hds hdv n he1_24 fa1_24 sr 1 st0 t tk sv va mm z37 9 (by first | assumption | omega) (by first | assumption | omega) (by first | assumption | omega) (by first | assumption | omega) (by first | assumption | omega)) dX5_readLess_40 (cwV 2 hts gX5_readLess_X5_readNumber rfl rfl rfl (by decide +kernel) (by rw [hR]; exact ⟨Nat.le_of_ble_eq_true rfl, Nat.le_of_ble_eq_true rfl⟩)) ⟨hx, hb, hml, hown, hts⟩ hl.1 hK hP hD hS hA 0 rfl rfl rfl [0, 1, 2] [3] rfl (by decide) rfl (by decide) (by decide) rfl rfl (Nat.le_of_ble_eq_true rfl) (by rw [hR]; exact ⟨Nat.le_of_ble_eq_true rfl, Nat.le_of_ble_eq_true rfl⟩) (fun z40 u H locs q40 hP hD hS => ?_)
  obtain ⟨fa1_40, he1_40⟩ := u
  have q40 : z40 = vl t n (sv he1_24) ∧ (fa1_40, sv he1_40) = pn t n z37 9 (fa1_24, sv he1_24) ∧ (he1_24 ≤ he1_40 ∧ he1_40 ≤ mm) ∧ (fa1_40 = 0 ∨ fa1_40 = 1) := q40
  obtain ⟨q40_0, q40_1, q40_2, q40_3⟩ := q40
  have hP : va_P g vwCl [(hd, oB 5 [.ref hdt, .ref hdk, .ref hds, .ref hdv, vI n, vI he1_40, vI fa1_40, vI sr, vI 1, vI st0]), (hdk, aI ca 201 tk), (hdv, aI ca 201 va), (hL, oB 2 [.ref hw, .ref he, .ref hdn, .ref hdw, vI du, vI hv, vI mo, vI oft, vI la, vI z24, vI pB])] H := hP.sub [1, 2, 3, 0] rfl
  have hD : va_D A [(hd, oB 5 [.ref hdt, .ref hdk, .ref hds, .ref hdv, vI n, vI he1_40, vI fa1_40, vI sr, vI 1, vI st0]), (hdk, aI ca 201 tk), (hdv, aI ca 201 va), (hL, oB 2 [.ref hw, .ref he, .ref hdn, .ref hdw, vI du, vI hv, vI mo, vI oft, vI la, vI z24, vI pB])] := hD.sub [1, 2, 3, 0] (by decide) rfl
  refine va_put (D := g) (ci := 2) (v := vI z40) (ty := .int) (C := RX2) (T := TX2) (N := 11) hx hb hts inF_X2 tyX2 tyX2_ok nmX2 hown hK.1 hP hD hS 3 rfl rfl 10 (by decide) lk_f91 (fun _ h9 => h9) rfl (by decide +kernel) rfl rfl (Nat.le_of_ble_eq_true rfl) dX5_readLess_43 (fun H locs hP hD hS => ?_)
  have hP : va_P g vwCl [(hd, oB 5 [.ref hdt, .ref hdk, .ref hds, .ref hdv, vI n, vI he1_40, vI fa1_40, vI sr, vI 1, vI st0]), (hdk, aI ca 201 tk), (hdv, aI ca 201 va), (hL, oB 2 [.ref hw, .ref he, .ref hdn, .ref hdw, vI du, vI hv, vI mo, vI oft, vI la, vI z24, vI z40])] H := hP
  have hD : va_D A [(hd, oB 5 [.ref hdt, .ref hdk, .ref hds, .ref hdv, vI n, vI he1_40, vI fa1_40, vI sr, vI 1, vI st0]), (hdk, aI ca 201 tk), (hdv, aI ca 201 va), (hL, oB 2 [.ref hw, .ref he, .ref hdn, .ref hdw, vI du, vI hv, vI mo, vI oft, vI la, vI z24, vI z40])] := hD
  refine zr_V hx hb hr hlk hQ (he1_40, fa1_40, z24, z40) hP hD hS dX5_readLess_46 (Nat.le_of_ble_eq_true rfl) (Nat.le_of_ble_eq_true rfl) ?_
  show (fa1_40, sv he1_40) = pn t n (vl t n (ps t n 108 (sl, sv he0)).2 + 1) 9 (pn t n 1 8 (ps t n 108 (sl, sv he0))) ∧ (he0 ≤ he1_40 ∧ he1_40 ≤ mm) ∧ (fa1_40 = 0 ∨ fa1_40 = 1) ∧ z24 = vl t n (ps t n 108 (sl, sv he0)).2 ∧ z40 = vl t n (pn t n 1 8 (ps t n 108 (sl, sv he0))).2
  have h9 : z24 = vl t n (ps t n 108 (sl, sv he0)).2 := by rw [q24_0]; exact congrArg (vl t n) (congrArg Prod.snd q16_0)
  rw [q16_0] at q24_1
  rw [q24_1, e37, h9] at q40_1
  exact ⟨q40_1, by omega, q40_3, h9, by rw [q40_0]; exact congrArg (vl t n) (congrArg Prod.snd q24_1)⟩
set_option maxHeartbeats 4000000 in
set_option maxRecDepth 100000 in
theorem k_X5_readLater (l : Launch) (g : va_G) (ca : Nat → ClassId) (hd : Nat) (hdt : Nat) (hdk : Nat) (hds : Nat) (hdv : Nat) (n : Int) (he0 : Int) (fa : Int) (sr : Int) (sl : Int) (st0 : Int) (t : Int → Int) (tk : Int → Int) (sv : Int → Int) (va : Int → Int) (mm : Int) (hL : Nat) (hw : Nat) (he : Nat) (hdn : Nat) (hdw : Nat) (du : Int) (hv : Int) (mo : Int) (oft : Int) (la : Int) (pA : Int) (pB : Int) (hT : TXok t n) (hTK : TOK t n tk sv va mm) (hhe : 0 ≤ he0 ∧ he0 ≤ mm) (hfl : (sr = 0 ∨ sr = 1) ∧ (sl = 0 ∨ sl = 1) ∧ (st0 = 0 ∨ st0 = 1)) : zV (S := Int × Int × Int) l yX5_readLater wsX5_readLater ({ frames := 2, cells := 0, slots := 0, locals := 45 } : Room) g ca [.ref hd, .ref hL] [(hd, oB 5 [.ref hdt, .ref hdk, .ref hds, .ref hdv, vI n, vI he0, vI fa, vI sr, vI sl, vI st0]), (hdk, aI ca 201 tk), (hdv, aI ca 201 va), (hL, oB 2 [.ref hw, .ref he, .ref hdn, .ref hdw, vI du, vI hv, vI mo, vI oft, vI la, vI pA, vI pB])] (fun (u : Int × Int × Int) => (u.2.1, sv u.1) = pn t n 0 9 (ps t n 116 (st0, sv he0)) ∧ (he0 ≤ u.1 ∧ u.1 ≤ mm) ∧ (u.2.1 = 0 ∨ u.2.1 = 1) ∧ u.2.2 = vl t n (ps t n 116 (st0, sv he0)).2) (fun (u : Int × Int × Int) => [(hd, oB 5 [.ref hdt, .ref hdk, .ref hds, .ref hdv, vI n, vI u.1, vI u.2.1, vI sr, vI sl, vI 1]), (hdk, aI ca 201 tk), (hdv, aI ca 201 va), (hL, oB 2 [.ref hw, .ref he, .ref hdn, .ref hdw, vI du, vI hv, vI mo, vI oft, vI u.2.2, vI pA, vI pB])]) 0 0 := by
  refine zm_V (cc := cX5_readLater) (maxL := 2) (ret := none) (by decide) rfl (Nat.le_of_ble_eq_true rfl) ?_
  intro p e s m below meth c A ls R args Q hR hargs hQ hx hb hml hr hts hown hlk hnm hK hP hD hA hS hl
  have hown : s.vm.findClass RX5 = some m.cls := hown
  have hl : lv_has ls 2 [(0, .ref hd), (1, .ref hL)] := hl
  have lk_f46 : (Cond.fieldLink RX5 46 "DripRings$Reader" "hadT" "Z").before args s = true := hts _ (by decide +kernel)
  have inF_X5 : ∀ w ∈ wsX50, w ∈ wsX5_readLater := by decide +kernel
  have lk_f53 : (Cond.fieldLink RX5 53 "DripRings$Reader" "faulty" "Z").before args s = true := hts _ (by decide +kernel)
  have lk_f94 : (Cond.fieldLink RX5 94 "DripRings$Law" "later" "I").before args s = true := hts _ (by decide +kernel)
  have inF_X2 : ∀ w ∈ wsX20, w ∈ wsX5_readLater := by decide +kernel
  refine lv_aload_n hx hb dX5_readLater_0 rfl (lv_at hl 0 rfl) ?_
  refine lv_aload_n hx hb dX5_readLater_1 rfl (lv_at hl 0 rfl) ?_
  refine va_get (D := g) (ci := 5) (v := vI st0) (C := RX5) (T := TX5) (N := 10) hx hb hts inF_X5 hown hK.1 hP 0 rfl rfl 9 (by decide) lk_f46 (fun _ h9 => h9) rfl dX5_readLater_2 ?_
  refine va_put (D := g) (ci := 5) (v := vI st0) (ty := .boolean) (C := RX5) (T := TX5) (N := 10) hx hb hts inF_X5 tyX5 tyX5_ok nmX5 hown hK.1 hP hD hS 0 rfl rfl 6 (by decide) lk_f53 (fun _ h9 => h9) rfl (by decide +kernel) (zb_nar (show st0 = 0 ∨ st0 = 1 from hfl.2.2)) (zb_fit (show st0 = 0 ∨ st0 = 1 from hfl.2.2)) (Nat.le_of_ble_eq_true rfl) dX5_readLater_5 (fun H locs hP hD hS => ?_)
  have hP : va_P g vwCl [(hd, oB 5 [.ref hdt, .ref hdk, .ref hds, .ref hdv, vI n, vI he0, vI st0, vI sr, vI sl, vI st0]), (hdk, aI ca 201 tk), (hdv, aI ca 201 va), (hL, oB 2 [.ref hw, .ref he, .ref hdn, .ref hdw, vI du, vI hv, vI mo, vI oft, vI la, vI pA, vI pB])] H := hP
  have hD : va_D A [(hd, oB 5 [.ref hdt, .ref hdk, .ref hds, .ref hdv, vI n, vI he0, vI st0, vI sr, vI sl, vI st0]), (hdk, aI ca 201 tk), (hdv, aI ca 201 va), (hL, oB 2 [.ref hw, .ref he, .ref hdn, .ref hdw, vI du, vI hv, vI mo, vI oft, vI la, vI pA, vI pB])] := hD
  refine lv_aload_n hx hb dX5_readLater_8 rfl (lv_at hl 0 rfl) ?_
  refine lv_iconst (v := Int32.ofInt 1) hx hb dX5_readLater_9 rfl ?_
  refine va_put (D := g) (ci := 5) (v := vI 1) (ty := .boolean) (C := RX5) (T := TX5) (N := 10) hx hb hts inF_X5 tyX5 tyX5_ok nmX5 hown hK.1 hP hD hS 0 rfl rfl 9 (by decide) lk_f46 (fun _ h9 => h9) rfl (by decide +kernel) (zb_nar (Or.inr rfl)) (zb_fit (Or.inr rfl)) (Nat.le_of_ble_eq_true rfl) dX5_readLater_10 (fun H locs hP hD hS => ?_)
  have hP : va_P g vwCl [(hd, oB 5 [.ref hdt, .ref hdk, .ref hds, .ref hdv, vI n, vI he0, vI st0, vI sr, vI sl, vI 1]), (hdk, aI ca 201 tk), (hdv, aI ca 201 va), (hL, oB 2 [.ref hw, .ref he, .ref hdn, .ref hdw, vI du, vI hv, vI mo, vI oft, vI la, vI pA, vI pB])] H := hP
  have hD : va_D A [(hd, oB 5 [.ref hdt, .ref hdk, .ref hds, .ref hdv, vI n, vI he0, vI st0, vI sr, vI sl, vI 1]), (hdk, aI ca 201 tk), (hdv, aI ca 201 va), (hL, oB 2 [.ref hw, .ref he, .ref hdn, .ref hdw, vI du, vI hv, vI mo, vI oft, vI la, vI pA, vI pB])] := hD
  refine lv_aload_n hx hb dX5_readLater_13 rfl (lv_at hl 0 rfl) ?_
  refine lv_bipush (v := Int32.ofInt 116) hx hb dX5_readLater_14 (by decide) ?_
  refine zc_VV (As := [vI 116]) (rest := []) (wc := [(hd, oB 5 [.ref hdt, .ref hdk, .ref hds, .ref hdv, vI n, vI he0, vI st0, vI sr, vI sl, vI 1]), (hdk, aI ca 201 tk)]) (wr := [(hdv, aI ca 201 va), (hL, oB 2 [.ref hw, .ref he, .ref hdn, .ref hdw, vI du, vI hv, vI mo, vI oft, vI la, vI pA, vI pB])]) (k_X5_pass l g ca hd hdt hdk hds hdv n he0 st0 sr sl 1 t tk sv va mm 116 (by first | assumption | omega) (by first | assumption | omega) (by first | assumption | omega) (by first | assumption | omega) (by first | assumption | omega)) dX5_readLater_16 (cwV 1 hts gX5_readLater_X5_pass rfl rfl rfl (by decide +kernel) (by rw [hR]; exact ⟨Nat.le_of_ble_eq_true rfl, Nat.le_of_ble_eq_true rfl⟩)) ⟨hx, hb, hml, hown, hts⟩ hl.1 hK hP hD hS hA 0 rfl rfl rfl [0, 1] [2, 3] rfl (by decide) rfl (by decide) (by decide) rfl rfl (Nat.le_of_ble_eq_true rfl) (by rw [hR]; exact ⟨Nat.le_of_ble_eq_true rfl, Nat.le_of_ble_eq_true rfl⟩) (fun u H locs q16 hP hD hS => ?_)
  obtain ⟨fa1_16, he1_16⟩ := u
  have q16 : (fa1_16, sv he1_16) = ps t n 116 (st0, sv he0) ∧ (he0 ≤ he1_16 ∧ he1_16 ≤ mm) ∧ (fa1_16 = 0 ∨ fa1_16 = 1) := q16
  obtain ⟨q16_0, q16_1, q16_2⟩ := q16
  have hP : va_P g vwCl [(hd, oB 5 [.ref hdt, .ref hdk, .ref hds, .ref hdv, vI n, vI he1_16, vI fa1_16, vI sr, vI sl, vI 1]), (hdk, aI ca 201 tk), (hdv, aI ca 201 va), (hL, oB 2 [.ref hw, .ref he, .ref hdn, .ref hdw, vI du, vI hv, vI mo, vI oft, vI la, vI pA, vI pB])] H := hP.sub [2, 3, 0, 1] rfl
  have hD : va_D A [(hd, oB 5 [.ref hdt, .ref hdk, .ref hds, .ref hdv, vI n, vI he1_16, vI fa1_16, vI sr, vI sl, vI 1]), (hdk, aI ca 201 tk), (hdv, aI ca 201 va), (hL, oB 2 [.ref hw, .ref he, .ref hdn, .ref hdw, vI du, vI hv, vI mo, vI oft, vI la, vI pA, vI pB])] := hD.sub [2, 3, 0, 1] (by decide) rfl
  refine lv_aload_n hx hb dX5_readLater_19 rfl (lv_at hl 1 rfl) ?_
  refine lv_aload_n hx hb dX5_readLater_20 rfl (lv_at hl 0 rfl) ?_
  refine lv_iconst (v := Int32.ofInt 0) hx hb dX5_readLater_21 rfl ?_
  refine lv_bipush (v := Int32.ofInt 9) hx hb dX5_readLater_22 (by decide) ?_
  refine zc_VI (As := [vI 0, vI 9]) (rest := [.ref hL]) (wc := [(hd, oB 5 [.ref hdt, .ref hdk, .ref hds, .ref hdv, vI n, vI he1_16, vI fa1_16, vI sr, vI sl, vI 1]), (hdk, aI ca 201 tk), (hdv, aI ca 201 va)]) (wr := [(hL, oB 2 [.ref hw, .ref he, .ref hdn, .ref hdw, vI du, vI hv, vI mo, vI oft, vI la, vI pA, vI pB])]) (k_X5_readNumber l g ca hd hdt hdk hds hdv n he1_16 fa1_16 sr sl 1 t tk sv va mm 0 9 (by first | assumption | omega) (by first | assumption | omega) (by first | assumption | omega) (by first | assumption | omega) (by first | assumption | omega)) dX5_readLater_24 (cwV 2 hts gX5_readLater_X5_readNumber rfl rfl rfl (by decide +kernel) (by rw [hR]; exact ⟨Nat.le_of_ble_eq_true rfl, Nat.le_of_ble_eq_true rfl⟩)) ⟨hx, hb, hml, hown, hts⟩ hl.1 hK hP hD hS hA 0 rfl rfl rfl [0, 1, 2] [3] rfl (by decide) rfl (by decide) (by decide) rfl rfl (Nat.le_of_ble_eq_true rfl) (by rw [hR]; exact ⟨Nat.le_of_ble_eq_true rfl, Nat.le_of_ble_eq_true rfl⟩) (fun z24 u H locs q24 hP hD hS => ?_)
  obtain ⟨fa1_24, he1_24⟩ := u
  have q24 : z24 = vl t n (sv he1_16) ∧ (fa1_24, sv he1_24) = pn t n 0 9 (fa1_16, sv he1_16) ∧ (he1_16 ≤ he1_24 ∧ he1_24 ≤ mm) ∧ (fa1_24 = 0 ∨ fa1_24 = 1) := q24
  obtain ⟨q24_0, q24_1, q24_2, q24_3⟩ := q24
  have hP : va_P g vwCl [(hd, oB 5 [.ref hdt, .ref hdk, .ref hds, .ref hdv, vI n, vI he1_24, vI fa1_24, vI sr, vI sl, vI 1]), (hdk, aI ca 201 tk), (hdv, aI ca 201 va), (hL, oB 2 [.ref hw, .ref he, .ref hdn, .ref hdw, vI du, vI hv, vI mo, vI oft, vI la, vI pA, vI pB])] H := hP.sub [1, 2, 3, 0] rfl
  have hD : va_D A [(hd, oB 5 [.ref hdt, .ref hdk, .ref hds, .ref hdv, vI n, vI he1_24, vI fa1_24, vI sr, vI sl, vI 1]), (hdk, aI ca 201 tk), (hdv, aI ca 201 va), (hL, oB 2 [.ref hw, .ref he, .ref hdn, .ref hdw, vI du, vI hv, vI mo, vI oft, vI la, vI pA, vI pB])] := hD.sub [1, 2, 3, 0] (by decide) rfl
  refine va_put (D := g) (ci := 2) (v := vI z24) (ty := .int) (C := RX2) (T := TX2) (N := 11) hx hb hts inF_X2 tyX2 tyX2_ok nmX2 hown hK.1 hP hD hS 3 rfl rfl 8 (by decide) lk_f94 (fun _ h9 => h9) rfl (by decide +kernel) rfl rfl (Nat.le_of_ble_eq_true rfl) dX5_readLater_27 (fun H locs hP hD hS => ?_)
  have hP : va_P g vwCl [(hd, oB 5 [.ref hdt, .ref hdk, .ref hds, .ref hdv, vI n, vI he1_24, vI fa1_24, vI sr, vI sl, vI 1]), (hdk, aI ca 201 tk), (hdv, aI ca 201 va), (hL, oB 2 [.ref hw, .ref he, .ref hdn, .ref hdw, vI du, vI hv, vI mo, vI oft, vI z24, vI pA, vI pB])] H := hP
  have hD : va_D A [(hd, oB 5 [.ref hdt, .ref hdk, .ref hds, .ref hdv, vI n, vI he1_24, vI fa1_24, vI sr, vI sl, vI 1]), (hdk, aI ca 201 tk), (hdv, aI ca 201 va), (hL, oB 2 [.ref hw, .ref he, .ref hdn, .ref hdw, vI du, vI hv, vI mo, vI oft, vI z24, vI pA, vI pB])] := hD
  refine zr_V hx hb hr hlk hQ (he1_24, fa1_24, z24) hP hD hS dX5_readLater_30 (Nat.le_of_ble_eq_true rfl) (Nat.le_of_ble_eq_true rfl) ?_
  show (fa1_24, sv he1_24) = pn t n 0 9 (ps t n 116 (st0, sv he0)) ∧ (he0 ≤ he1_24 ∧ he1_24 ≤ mm) ∧ (fa1_24 = 0 ∨ fa1_24 = 1) ∧ z24 = vl t n (ps t n 116 (st0, sv he0)).2
  rw [q16_0] at q24_1
  exact ⟨q24_1, by omega, q24_3, by rw [q24_0]; exact congrArg (vl t n) (congrArg Prod.snd q16_0)⟩
set_option maxHeartbeats 4000000 in
set_option maxRecDepth 100000 in
theorem k_X5_readDue (l : Launch) (g : va_G) (ca : Nat → ClassId) (hd : Nat) (hdt : Nat) (hdk : Nat) (hds : Nat) (hdv : Nat) (n : Int) (he0 : Int) (fa : Int) (sr : Int) (sl : Int) (st0 : Int) (t : Int → Int) (tk : Int → Int) (sv : Int → Int) (va : Int → Int) (mm : Int) (hL : Nat) (hw : Nat) (he : Nat) (hdn : Nat) (hdw : Nat) (du : Int) (hv : Int) (mo : Int) (oft : Int) (la : Int) (pA : Int) (pB : Int) (dn : Int → Int) (dw : Int → Int) (hT : TXok t n) (hTK : TOK t n tk sv va mm) (hhe : 0 ≤ he0 ∧ he0 ≤ mm) (hfl : (sr = 0 ∨ sr = 1) ∧ (sl = 0 ∨ sl = 1) ∧ (st0 = 0 ∨ st0 = 1)) (hdu : 0 ≤ du ∧ du ≤ 6) (hkd : kd t n (sv he0) = 112) : zV (S := Int × Int × Int × (Int → Int) × (Int → Int)) l yX5_readDue wsX5_readDue ({ frames := 2, cells := 0, slots := 0, locals := 45 } : Room) g ca [.ref hd, .ref hL] [(hd, oB 5 [.ref hdt, .ref hdk, .ref hds, .ref hdv, vI n, vI he0, vI fa, vI sr, vI sl, vI st0]), (hdk, aI ca 201 tk), (hdv, aI ca 201 va), (hL, oB 2 [.ref hw, .ref he, .ref hdn, .ref hdw, vI du, vI hv, vI mo, vI oft, vI la, vI pA, vI pB]), (hdn, aI ca 6 dn), (hdw, aI ca 6 dw)] (fun (u : Int × Int × Int × (Int → Int) × (Int → Int)) => (u.2.1, sv u.1) = pn t n 1 200 (pn t n 1 120 (ps t n 112 (if du < 6 then 0 else 1, sv he0))) ∧ (he0 ≤ u.1 ∧ u.1 ≤ mm) ∧ (u.2.1 = 0 ∨ u.2.1 = 1) ∧ u.2.2.1 = itu t n (sv he0) du ∧ u.2.2.2.1 = itn t n (sv he0) du dn ∧ u.2.2.2.2 = itw t n (sv he0) du dw) (fun (u : Int × Int × Int × (Int → Int) × (Int → Int)) => [(hd, oB 5 [.ref hdt, .ref hdk, .ref hds, .ref hdv, vI n, vI u.1, vI u.2.1, vI sr, vI sl, vI st0]), (hdk, aI ca 201 tk), (hdv, aI ca 201 va), (hL, oB 2 [.ref hw, .ref he, .ref hdn, .ref hdw, vI u.2.2.1, vI hv, vI mo, vI oft, vI la, vI pA, vI pB]), (hdn, aI ca 6 u.2.2.2.1), (hdw, aI ca 6 u.2.2.2.2)]) 0 0 := by
  refine zm_V (cc := cX5_readDue) (maxL := 4) (ret := none) (by decide) rfl (Nat.le_of_ble_eq_true rfl) ?_
  intro p e s m below meth c A ls R args Q hR hargs hQ hx hb hml hr hts hown hlk hnm hK hP hD hA hS hl
  have hown : s.vm.findClass RX5 = some m.cls := hown
  have hl : lv_has ls 4 [(0, .ref hd), (1, .ref hL)] := hl
  have lk_f97 : (Cond.fieldLink RX5 97 "DripRings$Law" "dues" "I").before args s = true := hts _ (by decide +kernel)
  have inF_X2 : ∀ w ∈ wsX20, w ∈ wsX5_readDue := by decide +kernel
  have lk_f53 : (Cond.fieldLink RX5 53 "DripRings$Reader" "faulty" "Z").before args s = true := hts _ (by decide +kernel)
  have inF_X5 : ∀ w ∈ wsX50, w ∈ wsX5_readDue := by decide +kernel
  refine lv_aload_n hx hb dX5_readDue_0 rfl (lv_at hl 0 rfl) ?_
  refine lv_aload_n hx hb dX5_readDue_1 rfl (lv_at hl 1 rfl) ?_
  refine va_get (D := g) (ci := 2) (v := vI du) (C := RX2) (T := TX2) (N := 11) hx hb hts inF_X2 hown hK.1 hP 3 rfl rfl 4 (by decide) lk_f97 (fun _ h9 => h9) rfl dX5_readDue_2 ?_
  refine lv_bipush (v := Int32.ofInt 6) hx hb dX5_readDue_5 (by decide) ?_
  refine ri_icmp_lt (tgt := 14) hx hb dX5_readDue_7 (by decide) ⟨by omega, by omega⟩ ⟨by omega, by omega⟩ (fun c7 => ?_) (fun c7 => ?_)
  · skip
    refine lv_iconst (v := Int32.ofInt 0) hx hb dX5_readDue_14 rfl ?_
    refine va_put (D := g) (ci := 5) (v := vI 0) (ty := .boolean) (C := RX5) (T := TX5) (N := 10) hx hb hts inF_X5 tyX5 tyX5_ok nmX5 hown hK.1 hP hD hS 0 rfl rfl 6 (by decide) lk_f53 (fun _ h9 => h9) rfl (by decide +kernel) (zb_nar (Or.inl rfl)) (zb_fit (Or.inl rfl)) (Nat.le_of_ble_eq_true rfl) dX5_readDue_15 (fun H locs hP hD hS => ?_)
    have hP : va_P g vwCl [(hd, oB 5 [.ref hdt, .ref hdk, .ref hds, .ref hdv, vI n, vI he0, vI 0, vI sr, vI sl, vI st0]), (hdk, aI ca 201 tk), (hdv, aI ca 201 va), (hL, oB 2 [.ref hw, .ref he, .ref hdn, .ref hdw, vI du, vI hv, vI mo, vI oft, vI la, vI pA, vI pB]), (hdn, aI ca 6 dn), (hdw, aI ca 6 dw)] H := hP
    have hD : va_D A [(hd, oB 5 [.ref hdt, .ref hdk, .ref hds, .ref hdv, vI n, vI he0, vI 0, vI sr, vI sl, vI st0]), (hdk, aI ca 201 tk), (hdv, aI ca 201 va), (hL, oB 2 [.ref hw, .ref he, .ref hdn, .ref hdw, vI du, vI hv, vI mo, vI oft, vI la, vI pA, vI pB]), (hdn, aI ca 6 dn), (hdw, aI ca 6 dw)] := hD
    refine lv_aload_n hx hb dX5_readDue_18 rfl (lv_at hl 0 rfl) ?_
    refine lv_bipush (v := Int32.ofInt 112) hx hb dX5_readDue_19 (by decide) ?_
    refine zc_VV (As := [vI 112]) (rest := []) (wc := [(hd, oB 5 [.ref hdt, .ref hdk, .ref hds, .ref hdv, vI n, vI he0, vI 0, vI sr, vI sl, vI st0]), (hdk, aI ca 201 tk)]) (wr := [(hdv, aI ca 201 va), (hL, oB 2 [.ref hw, .ref he, .ref hdn, .ref hdw, vI du, vI hv, vI mo, vI oft, vI la, vI pA, vI pB]), (hdn, aI ca 6 dn), (hdw, aI ca 6 dw)]) (k_X5_pass l g ca hd hdt hdk hds hdv n he0 0 sr sl st0 t tk sv va mm 112 (by first | assumption | omega) (by first | assumption | omega) (by first | assumption | omega) (by first | assumption | omega) (by first | assumption | omega)) dX5_readDue_21 (cwV 1 hts gX5_readDue_X5_pass rfl rfl rfl (by decide +kernel) (by rw [hR]; exact ⟨Nat.le_of_ble_eq_true rfl, Nat.le_of_ble_eq_true rfl⟩)) ⟨hx, hb, hml, hown, hts⟩ hl.1 hK hP hD hS hA 0 rfl rfl rfl [0, 1] [2, 3, 4, 5] rfl (by decide) rfl (by decide) (by decide) rfl rfl (Nat.le_of_ble_eq_true rfl) (by rw [hR]; exact ⟨Nat.le_of_ble_eq_true rfl, Nat.le_of_ble_eq_true rfl⟩) (fun u H locs q21 hP hD hS => ?_)
    obtain ⟨fa1_21, he1_21⟩ := u
    have q21 : (fa1_21, sv he1_21) = ps t n 112 (0, sv he0) ∧ (he0 ≤ he1_21 ∧ he1_21 ≤ mm) ∧ (fa1_21 = 0 ∨ fa1_21 = 1) := q21
    obtain ⟨q21_0, q21_1, q21_2⟩ := q21
    have hP : va_P g vwCl [(hd, oB 5 [.ref hdt, .ref hdk, .ref hds, .ref hdv, vI n, vI he1_21, vI fa1_21, vI sr, vI sl, vI st0]), (hdk, aI ca 201 tk), (hdv, aI ca 201 va), (hL, oB 2 [.ref hw, .ref he, .ref hdn, .ref hdw, vI du, vI hv, vI mo, vI oft, vI la, vI pA, vI pB]), (hdn, aI ca 6 dn), (hdw, aI ca 6 dw)] H := hP.sub [4, 5, 0, 1, 2, 3] rfl
    have hD : va_D A [(hd, oB 5 [.ref hdt, .ref hdk, .ref hds, .ref hdv, vI n, vI he1_21, vI fa1_21, vI sr, vI sl, vI st0]), (hdk, aI ca 201 tk), (hdv, aI ca 201 va), (hL, oB 2 [.ref hw, .ref he, .ref hdn, .ref hdw, vI du, vI hv, vI mo, vI oft, vI la, vI pA, vI pB]), (hdn, aI ca 6 dn), (hdw, aI ca 6 dw)] := hD.sub [4, 5, 0, 1, 2, 3] (by decide) rfl
    refine lv_aload_n hx hb dX5_readDue_24 rfl (lv_at hl 0 rfl) ?_
    refine lv_iconst (v := Int32.ofInt 1) hx hb dX5_readDue_25 rfl ?_
    refine lv_bipush (v := Int32.ofInt 120) hx hb dX5_readDue_26 (by decide) ?_
    refine zc_VI (As := [vI 1, vI 120]) (rest := []) (wc := [(hd, oB 5 [.ref hdt, .ref hdk, .ref hds, .ref hdv, vI n, vI he1_21, vI fa1_21, vI sr, vI sl, vI st0]), (hdk, aI ca 201 tk), (hdv, aI ca 201 va)]) (wr := [(hL, oB 2 [.ref hw, .ref he, .ref hdn, .ref hdw, vI du, vI hv, vI mo, vI oft, vI la, vI pA, vI pB]), (hdn, aI ca 6 dn), (hdw, aI ca 6 dw)]) (k_X5_readNumber l g ca hd hdt hdk hds hdv n he1_21 fa1_21 sr sl st0 t tk sv va mm 1 120 (by first | assumption | omega) (by first | assumption | omega) (by first | assumption | omega) (by first | assumption | omega) (by first | assumption | omega)) dX5_readDue_28 (cwV 2 hts gX5_readDue_X5_readNumber rfl rfl rfl (by decide +kernel) (by rw [hR]; exact ⟨Nat.le_of_ble_eq_true rfl, Nat.le_of_ble_eq_true rfl⟩)) ⟨hx, hb, hml, hown, hts⟩ hl.1 hK hP hD hS hA 0 rfl rfl rfl [0, 1, 2] [3, 4, 5] rfl (by decide) rfl (by decide) (by decide) rfl rfl (Nat.le_of_ble_eq_true rfl) (by rw [hR]; exact ⟨Nat.le_of_ble_eq_true rfl, Nat.le_of_ble_eq_true rfl⟩) (fun z28 u H locs q28 hP hD hS => ?_)
    obtain ⟨fa1_28, he1_28⟩ := u
    have q28 : z28 = vl t n (sv he1_21) ∧ (fa1_28, sv he1_28) = pn t n 1 120 (fa1_21, sv he1_21) ∧ (he1_21 ≤ he1_28 ∧ he1_28 ≤ mm) ∧ (fa1_28 = 0 ∨ fa1_28 = 1) := q28
    obtain ⟨q28_0, q28_1, q28_2, q28_3⟩ := q28
    have hP : va_P g vwCl [(hd, oB 5 [.ref hdt, .ref hdk, .ref hds, .ref hdv, vI n, vI he1_28, vI fa1_28, vI sr, vI sl, vI st0]), (hdk, aI ca 201 tk), (hdv, aI ca 201 va), (hL, oB 2 [.ref hw, .ref he, .ref hdn, .ref hdw, vI du, vI hv, vI mo, vI oft, vI la, vI pA, vI pB]), (hdn, aI ca 6 dn), (hdw, aI ca 6 dw)] H := hP.sub [3, 4, 5, 0, 1, 2] rfl
    have hD : va_D A [(hd, oB 5 [.ref hdt, .ref hdk, .ref hds, .ref hdv, vI n, vI he1_28, vI fa1_28, vI sr, vI sl, vI st0]), (hdk, aI ca 201 tk), (hdv, aI ca 201 va), (hL, oB 2 [.ref hw, .ref he, .ref hdn, .ref hdw, vI du, vI hv, vI mo, vI oft, vI la, vI pA, vI pB]), (hdn, aI ca 6 dn), (hdw, aI ca 6 dw)] := hD.sub [3, 4, 5, 0, 1, 2] (by decide) rfl
    refine lv_istore_n (lv' := [(2, vI z28), (0, .ref hd), (1, .ref hL)]) hx hb dX5_readDue_31 rfl hl (by decide) rfl (fun ls hl => ?_)
    refine lv_aload_n hx hb dX5_readDue_32 rfl (lv_at hl 1 rfl) ?_
    refine lv_iconst (v := Int32.ofInt 1) hx hb dX5_readDue_33 rfl ?_
    refine lv_sipush (v := Int32.ofInt 200) hx hb dX5_readDue_34 (by decide) ?_
    refine zc_VI (As := [vI 1, vI 200]) (rest := []) (wc := [(hd, oB 5 [.ref hdt, .ref hdk, .ref hds, .ref hdv, vI n, vI he1_28, vI fa1_28, vI sr, vI sl, vI st0]), (hdk, aI ca 201 tk), (hdv, aI ca 201 va)]) (wr := [(hL, oB 2 [.ref hw, .ref he, .ref hdn, .ref hdw, vI du, vI hv, vI mo, vI oft, vI la, vI pA, vI pB]), (hdn, aI ca 6 dn), (hdw, aI ca 6 dw)]) (k_X5_readNumber l g ca hd hdt hdk hds hdv n he1_28 fa1_28 sr sl st0 t tk sv va mm 1 200 (by first | assumption | omega) (by first | assumption | omega) (by first | assumption | omega) (by first | assumption | omega) (by first | assumption | omega)) dX5_readDue_37 (cwV 2 hts gX5_readDue_X5_readNumber rfl rfl rfl (by decide +kernel) (by rw [hR]; exact ⟨Nat.le_of_ble_eq_true rfl, Nat.le_of_ble_eq_true rfl⟩)) ⟨hx, hb, hml, hown, hts⟩ hl.1 hK hP hD hS hA 0 rfl rfl rfl [0, 1, 2] [3, 4, 5] rfl (by decide) rfl (by decide) (by decide) rfl rfl (Nat.le_of_ble_eq_true rfl) (by rw [hR]; exact ⟨Nat.le_of_ble_eq_true rfl, Nat.le_of_ble_eq_true rfl⟩) (fun z37 u H locs q37 hP hD hS => ?_)
    obtain ⟨fa1_37, he1_37⟩ := u
    have q37 : z37 = vl t n (sv he1_28) ∧ (fa1_37, sv he1_37) = pn t n 1 200 (fa1_28, sv he1_28) ∧ (he1_28 ≤ he1_37 ∧ he1_37 ≤ mm) ∧ (fa1_37 = 0 ∨ fa1_37 = 1) := q37
    obtain ⟨q37_0, q37_1, q37_2, q37_3⟩ := q37
    have hP : va_P g vwCl [(hd, oB 5 [.ref hdt, .ref hdk, .ref hds, .ref hdv, vI n, vI he1_37, vI fa1_37, vI sr, vI sl, vI st0]), (hdk, aI ca 201 tk), (hdv, aI ca 201 va), (hL, oB 2 [.ref hw, .ref he, .ref hdn, .ref hdw, vI du, vI hv, vI mo, vI oft, vI la, vI pA, vI pB]), (hdn, aI ca 6 dn), (hdw, aI ca 6 dw)] H := hP.sub [3, 4, 5, 0, 1, 2] rfl
    have hD : va_D A [(hd, oB 5 [.ref hdt, .ref hdk, .ref hds, .ref hdv, vI n, vI he1_37, vI fa1_37, vI sr, vI sl, vI st0]), (hdk, aI ca 201 tk), (hdv, aI ca 201 va), (hL, oB 2 [.ref hw, .ref he, .ref hdn, .ref hdw, vI du, vI hv, vI mo, vI oft, vI la, vI pA, vI pB]), (hdn, aI ca 6 dn), (hdw, aI ca 6 dw)] := hD.sub [3, 4, 5, 0, 1, 2] (by decide) rfl
    refine lv_istore_n (lv' := [(3, vI z37), (2, vI z28), (0, .ref hd), (1, .ref hL)]) hx hb dX5_readDue_40 rfl hl (by decide) rfl (fun ls hl => ?_)
    refine lv_aload_n hx hb dX5_readDue_41 rfl (lv_at hl 3 rfl) ?_
    refine lv_iload_n hx hb dX5_readDue_42 rfl (lv_at hl 1 rfl) ?_
    refine lv_iload_n hx hb dX5_readDue_43 rfl (lv_at hl 0 rfl) ?_
    refine zc_VV (As := [vI z28, vI z37]) (rest := []) (wc := [(hL, oB 2 [.ref hw, .ref he, .ref hdn, .ref hdw, vI du, vI hv, vI mo, vI oft, vI la, vI pA, vI pB]), (hdn, aI ca 6 dn), (hdw, aI ca 6 dw)]) (wr := [(hd, oB 5 [.ref hdt, .ref hdk, .ref hds, .ref hdv, vI n, vI he1_37, vI fa1_37, vI sr, vI sl, vI st0]), (hdk, aI ca 201 tk), (hdv, aI ca 201 va)]) (k_X2_addDue l g ca hL hw he hdn hdw du hv mo oft la pA pB dn dw z28 z37 (by first | assumption | omega)) dX5_readDue_44 (cwV 2 hts gX5_readDue_X2_addDue rfl rfl rfl (by decide +kernel) (by rw [hR]; exact ⟨Nat.le_of_ble_eq_true rfl, Nat.le_of_ble_eq_true rfl⟩)) ⟨hx, hb, hml, hown, hts⟩ hl.1 hK hP hD hS hA 3 rfl rfl rfl [3, 4, 5] [0, 1, 2] rfl (by decide) rfl (by decide) (by decide) rfl rfl (Nat.le_of_ble_eq_true rfl) (by rw [hR]; exact ⟨Nat.le_of_ble_eq_true rfl, Nat.le_of_ble_eq_true rfl⟩) (fun u H locs q44 hP hD hS => ?_)
    obtain ⟨du1_44, dn1_44, dw1_44⟩ := u
    have q44 : (du < 6 ∧ du1_44 = du + 1 ∧ dn1_44 = zu dn du z28 ∧ dw1_44 = zu dw du z37) ∨ (du = 6 ∧ du1_44 = du ∧ dn1_44 = dn ∧ dw1_44 = dw) := q44
    have hP : va_P g vwCl [(hd, oB 5 [.ref hdt, .ref hdk, .ref hds, .ref hdv, vI n, vI he1_37, vI fa1_37, vI sr, vI sl, vI st0]), (hdk, aI ca 201 tk), (hdv, aI ca 201 va), (hL, oB 2 [.ref hw, .ref he, .ref hdn, .ref hdw, vI du1_44, vI hv, vI mo, vI oft, vI la, vI pA, vI pB]), (hdn, aI ca 6 dn1_44), (hdw, aI ca 6 dw1_44)] H := hP.sub [0, 1, 2, 3, 4, 5] rfl
    have hD : va_D A [(hd, oB 5 [.ref hdt, .ref hdk, .ref hds, .ref hdv, vI n, vI he1_37, vI fa1_37, vI sr, vI sl, vI st0]), (hdk, aI ca 201 tk), (hdv, aI ca 201 va), (hL, oB 2 [.ref hw, .ref he, .ref hdn, .ref hdw, vI du1_44, vI hv, vI mo, vI oft, vI la, vI pA, vI pB]), (hdn, aI ca 6 dn1_44), (hdw, aI ca 6 dw1_44)] := hD.sub [0, 1, 2, 3, 4, 5] (by decide) rfl
    refine zr_V hx hb hr hlk hQ (he1_37, fa1_37, du1_44, dn1_44, dw1_44) hP hD hS dX5_readDue_47 (Nat.le_of_ble_eq_true rfl) (Nat.le_of_ble_eq_true rfl) ?_
    show (fa1_37, sv he1_37) = pn t n 1 200 (pn t n 1 120 (ps t n 112 (if du < 6 then 0 else 1, sv he0))) ∧ (he0 ≤ he1_37 ∧ he1_37 ≤ mm) ∧ (fa1_37 = 0 ∨ fa1_37 = 1) ∧ du1_44 = itu t n (sv he0) du ∧ dn1_44 = itn t n (sv he0) du dn ∧ dw1_44 = itw t n (sv he0) du dw
    rw [q21_0] at q28_1
    rw [q28_1] at q37_1
    have h28 : z28 = vl t n (ps t n 112 (if du < 6 then 0 else 1, sv he0)).2 := by
      rw [q28_0]
      refine (congrArg (vl t n) (congrArg Prod.snd q21_0)).trans ?_
      congr 3
      first | rw [if_pos (by omega)] | rw [if_neg (by omega)]
    have h37 : z37 = vl t n (pn t n 1 120 (ps t n 112 (if du < 6 then 0 else 1, sv he0))).2 := by
      rw [q37_0]
      refine (congrArg (vl t n) (congrArg Prod.snd q28_1)).trans ?_
      congr 4
      first | rw [if_pos (by omega)] | rw [if_neg (by omega)]
    unfold itu itn itw
    rcases q44 with ⟨k1, k2, k3, k4⟩ | ⟨k1, k2, k3, k4⟩
    · rw [if_pos k1] at h28 h37 ⊢
      rw [if_pos ⟨hkd, k1⟩, if_pos ⟨hkd, k1⟩, if_pos ⟨hkd, k1⟩]
      first | (exact ⟨q37_1, by omega, q37_3, k2, by rw [k3, h28], by rw [k4, h37]⟩) | (exfalso; omega)
    · rw [if_neg (by omega)] at h28 h37 ⊢
      rw [if_neg (fun q => by omega), if_neg (fun q => by omega), if_neg (fun q => by omega)]
      first | (exact ⟨q37_1, by omega, q37_3, k2, k3, k4⟩) | (exfalso; omega)
  · skip
    refine lv_iconst (v := Int32.ofInt 1) hx hb dX5_readDue_10 rfl ?_
    refine lv_goto (tgt := 15) hx hb dX5_readDue_11 (by decide) ?_
    refine va_put (D := g) (ci := 5) (v := vI 1) (ty := .boolean) (C := RX5) (T := TX5) (N := 10) hx hb hts inF_X5 tyX5 tyX5_ok nmX5 hown hK.1 hP hD hS 0 rfl rfl 6 (by decide) lk_f53 (fun _ h9 => h9) rfl (by decide +kernel) (zb_nar (Or.inr rfl)) (zb_fit (Or.inr rfl)) (Nat.le_of_ble_eq_true rfl) dX5_readDue_15 (fun H locs hP hD hS => ?_)
    have hP : va_P g vwCl [(hd, oB 5 [.ref hdt, .ref hdk, .ref hds, .ref hdv, vI n, vI he0, vI 1, vI sr, vI sl, vI st0]), (hdk, aI ca 201 tk), (hdv, aI ca 201 va), (hL, oB 2 [.ref hw, .ref he, .ref hdn, .ref hdw, vI du, vI hv, vI mo, vI oft, vI la, vI pA, vI pB]), (hdn, aI ca 6 dn), (hdw, aI ca 6 dw)] H := hP
    have hD : va_D A [(hd, oB 5 [.ref hdt, .ref hdk, .ref hds, .ref hdv, vI n, vI he0, vI 1, vI sr, vI sl, vI st0]), (hdk, aI ca 201 tk), (hdv, aI ca 201 va), (hL, oB 2 [.ref hw, .ref he, .ref hdn, .ref hdw, vI du, vI hv, vI mo, vI oft, vI la, vI pA, vI pB]), (hdn, aI ca 6 dn), (hdw, aI ca 6 dw)] := hD
    refine lv_aload_n hx hb dX5_readDue_18 rfl (lv_at hl 0 rfl) ?_
    refine lv_bipush (v := Int32.ofInt 112) hx hb dX5_readDue_19 (by decide) ?_
    refine zc_VV (As := [vI 112]) (rest := []) (wc := [(hd, oB 5 [.ref hdt, .ref hdk, .ref hds, .ref hdv, vI n, vI he0, vI 1, vI sr, vI sl, vI st0]), (hdk, aI ca 201 tk)]) (wr := [(hdv, aI ca 201 va), (hL, oB 2 [.ref hw, .ref he, .ref hdn, .ref hdw, vI du, vI hv, vI mo, vI oft, vI la, vI pA, vI pB]), (hdn, aI ca 6 dn), (hdw, aI ca 6 dw)]) (k_X5_pass l g ca hd hdt hdk hds hdv n he0 1 sr sl st0 t tk sv va mm 112 (by first | assumption | omega) (by first | assumption | omega) (by first | assumption | omega) (by first | assumption | omega) (by first | assumption | omega)) dX5_readDue_21 (cwV 1 hts gX5_readDue_X5_pass rfl rfl rfl (by decide +kernel) (by rw [hR]; exact ⟨Nat.le_of_ble_eq_true rfl, Nat.le_of_ble_eq_true rfl⟩)) ⟨hx, hb, hml, hown, hts⟩ hl.1 hK hP hD hS hA 0 rfl rfl rfl [0, 1] [2, 3, 4, 5] rfl (by decide) rfl (by decide) (by decide) rfl rfl (Nat.le_of_ble_eq_true rfl) (by rw [hR]; exact ⟨Nat.le_of_ble_eq_true rfl, Nat.le_of_ble_eq_true rfl⟩) (fun u H locs q21 hP hD hS => ?_)
    obtain ⟨fa1_21, he1_21⟩ := u
    have q21 : (fa1_21, sv he1_21) = ps t n 112 (1, sv he0) ∧ (he0 ≤ he1_21 ∧ he1_21 ≤ mm) ∧ (fa1_21 = 0 ∨ fa1_21 = 1) := q21
    obtain ⟨q21_0, q21_1, q21_2⟩ := q21
    have hP : va_P g vwCl [(hd, oB 5 [.ref hdt, .ref hdk, .ref hds, .ref hdv, vI n, vI he1_21, vI fa1_21, vI sr, vI sl, vI st0]), (hdk, aI ca 201 tk), (hdv, aI ca 201 va), (hL, oB 2 [.ref hw, .ref he, .ref hdn, .ref hdw, vI du, vI hv, vI mo, vI oft, vI la, vI pA, vI pB]), (hdn, aI ca 6 dn), (hdw, aI ca 6 dw)] H := hP.sub [4, 5, 0, 1, 2, 3] rfl
    have hD : va_D A [(hd, oB 5 [.ref hdt, .ref hdk, .ref hds, .ref hdv, vI n, vI he1_21, vI fa1_21, vI sr, vI sl, vI st0]), (hdk, aI ca 201 tk), (hdv, aI ca 201 va), (hL, oB 2 [.ref hw, .ref he, .ref hdn, .ref hdw, vI du, vI hv, vI mo, vI oft, vI la, vI pA, vI pB]), (hdn, aI ca 6 dn), (hdw, aI ca 6 dw)] := hD.sub [4, 5, 0, 1, 2, 3] (by decide) rfl
    refine lv_aload_n hx hb dX5_readDue_24 rfl (lv_at hl 0 rfl) ?_
    refine lv_iconst (v := Int32.ofInt 1) hx hb dX5_readDue_25 rfl ?_
    refine lv_bipush (v := Int32.ofInt 120) hx hb dX5_readDue_26 (by decide) ?_
    refine zc_VI (As := [vI 1, vI 120]) (rest := []) (wc := [(hd, oB 5 [.ref hdt, .ref hdk, .ref hds, .ref hdv, vI n, vI he1_21, vI fa1_21, vI sr, vI sl, vI st0]), (hdk, aI ca 201 tk), (hdv, aI ca 201 va)]) (wr := [(hL, oB 2 [.ref hw, .ref he, .ref hdn, .ref hdw, vI du, vI hv, vI mo, vI oft, vI la, vI pA, vI pB]), (hdn, aI ca 6 dn), (hdw, aI ca 6 dw)]) (k_X5_readNumber l g ca hd hdt hdk hds hdv n he1_21 fa1_21 sr sl st0 t tk sv va mm 1 120 (by first | assumption | omega) (by first | assumption | omega) (by first | assumption | omega) (by first | assumption | omega) (by first | assumption | omega)) dX5_readDue_28 (cwV 2 hts gX5_readDue_X5_readNumber rfl rfl rfl (by decide +kernel) (by rw [hR]; exact ⟨Nat.le_of_ble_eq_true rfl, Nat.le_of_ble_eq_true rfl⟩)) ⟨hx, hb, hml, hown, hts⟩ hl.1 hK hP hD hS hA 0 rfl rfl rfl [0, 1, 2] [3, 4, 5] rfl (by decide) rfl (by decide) (by decide) rfl rfl (Nat.le_of_ble_eq_true rfl) (by rw [hR]; exact ⟨Nat.le_of_ble_eq_true rfl, Nat.le_of_ble_eq_true rfl⟩) (fun z28 u H locs q28 hP hD hS => ?_)
    obtain ⟨fa1_28, he1_28⟩ := u
    have q28 : z28 = vl t n (sv he1_21) ∧ (fa1_28, sv he1_28) = pn t n 1 120 (fa1_21, sv he1_21) ∧ (he1_21 ≤ he1_28 ∧ he1_28 ≤ mm) ∧ (fa1_28 = 0 ∨ fa1_28 = 1) := q28
    obtain ⟨q28_0, q28_1, q28_2, q28_3⟩ := q28
    have hP : va_P g vwCl [(hd, oB 5 [.ref hdt, .ref hdk, .ref hds, .ref hdv, vI n, vI he1_28, vI fa1_28, vI sr, vI sl, vI st0]), (hdk, aI ca 201 tk), (hdv, aI ca 201 va), (hL, oB 2 [.ref hw, .ref he, .ref hdn, .ref hdw, vI du, vI hv, vI mo, vI oft, vI la, vI pA, vI pB]), (hdn, aI ca 6 dn), (hdw, aI ca 6 dw)] H := hP.sub [3, 4, 5, 0, 1, 2] rfl
    have hD : va_D A [(hd, oB 5 [.ref hdt, .ref hdk, .ref hds, .ref hdv, vI n, vI he1_28, vI fa1_28, vI sr, vI sl, vI st0]), (hdk, aI ca 201 tk), (hdv, aI ca 201 va), (hL, oB 2 [.ref hw, .ref he, .ref hdn, .ref hdw, vI du, vI hv, vI mo, vI oft, vI la, vI pA, vI pB]), (hdn, aI ca 6 dn), (hdw, aI ca 6 dw)] := hD.sub [3, 4, 5, 0, 1, 2] (by decide) rfl
    refine lv_istore_n (lv' := [(2, vI z28), (0, .ref hd), (1, .ref hL)]) hx hb dX5_readDue_31 rfl hl (by decide) rfl (fun ls hl => ?_)
    refine lv_aload_n hx hb dX5_readDue_32 rfl (lv_at hl 1 rfl) ?_
    refine lv_iconst (v := Int32.ofInt 1) hx hb dX5_readDue_33 rfl ?_
    refine lv_sipush (v := Int32.ofInt 200) hx hb dX5_readDue_34 (by decide) ?_
    refine zc_VI (As := [vI 1, vI 200]) (rest := []) (wc := [(hd, oB 5 [.ref hdt, .ref hdk, .ref hds, .ref hdv, vI n, vI he1_28, vI fa1_28, vI sr, vI sl, vI st0]), (hdk, aI ca 201 tk), (hdv, aI ca 201 va)]) (wr := [(hL, oB 2 [.ref hw, .ref he, .ref hdn, .ref hdw, vI du, vI hv, vI mo, vI oft, vI la, vI pA, vI pB]), (hdn, aI ca 6 dn), (hdw, aI ca 6 dw)]) (k_X5_readNumber l g ca hd hdt hdk hds hdv n he1_28 fa1_28 sr sl st0 t tk sv va mm 1 200 (by first | assumption | omega) (by first | assumption | omega) (by first | assumption | omega) (by first | assumption | omega) (by first | assumption | omega)) dX5_readDue_37 (cwV 2 hts gX5_readDue_X5_readNumber rfl rfl rfl (by decide +kernel) (by rw [hR]; exact ⟨Nat.le_of_ble_eq_true rfl, Nat.le_of_ble_eq_true rfl⟩)) ⟨hx, hb, hml, hown, hts⟩ hl.1 hK hP hD hS hA 0 rfl rfl rfl [0, 1, 2] [3, 4, 5] rfl (by decide) rfl (by decide) (by decide) rfl rfl (Nat.le_of_ble_eq_true rfl) (by rw [hR]; exact ⟨Nat.le_of_ble_eq_true rfl, Nat.le_of_ble_eq_true rfl⟩) (fun z37 u H locs q37 hP hD hS => ?_)
    obtain ⟨fa1_37, he1_37⟩ := u
    have q37 : z37 = vl t n (sv he1_28) ∧ (fa1_37, sv he1_37) = pn t n 1 200 (fa1_28, sv he1_28) ∧ (he1_28 ≤ he1_37 ∧ he1_37 ≤ mm) ∧ (fa1_37 = 0 ∨ fa1_37 = 1) := q37
    obtain ⟨q37_0, q37_1, q37_2, q37_3⟩ := q37
    have hP : va_P g vwCl [(hd, oB 5 [.ref hdt, .ref hdk, .ref hds, .ref hdv, vI n, vI he1_37, vI fa1_37, vI sr, vI sl, vI st0]), (hdk, aI ca 201 tk), (hdv, aI ca 201 va), (hL, oB 2 [.ref hw, .ref he, .ref hdn, .ref hdw, vI du, vI hv, vI mo, vI oft, vI la, vI pA, vI pB]), (hdn, aI ca 6 dn), (hdw, aI ca 6 dw)] H := hP.sub [3, 4, 5, 0, 1, 2] rfl
    have hD : va_D A [(hd, oB 5 [.ref hdt, .ref hdk, .ref hds, .ref hdv, vI n, vI he1_37, vI fa1_37, vI sr, vI sl, vI st0]), (hdk, aI ca 201 tk), (hdv, aI ca 201 va), (hL, oB 2 [.ref hw, .ref he, .ref hdn, .ref hdw, vI du, vI hv, vI mo, vI oft, vI la, vI pA, vI pB]), (hdn, aI ca 6 dn), (hdw, aI ca 6 dw)] := hD.sub [3, 4, 5, 0, 1, 2] (by decide) rfl
    refine lv_istore_n (lv' := [(3, vI z37), (2, vI z28), (0, .ref hd), (1, .ref hL)]) hx hb dX5_readDue_40 rfl hl (by decide) rfl (fun ls hl => ?_)
    refine lv_aload_n hx hb dX5_readDue_41 rfl (lv_at hl 3 rfl) ?_
    refine lv_iload_n hx hb dX5_readDue_42 rfl (lv_at hl 1 rfl) ?_
    refine lv_iload_n hx hb dX5_readDue_43 rfl (lv_at hl 0 rfl) ?_
    refine zc_VV (As := [vI z28, vI z37]) (rest := []) (wc := [(hL, oB 2 [.ref hw, .ref he, .ref hdn, .ref hdw, vI du, vI hv, vI mo, vI oft, vI la, vI pA, vI pB]), (hdn, aI ca 6 dn), (hdw, aI ca 6 dw)]) (wr := [(hd, oB 5 [.ref hdt, .ref hdk, .ref hds, .ref hdv, vI n, vI he1_37, vI fa1_37, vI sr, vI sl, vI st0]), (hdk, aI ca 201 tk), (hdv, aI ca 201 va)]) (k_X2_addDue l g ca hL hw he hdn hdw du hv mo oft la pA pB dn dw z28 z37 (by first | assumption | omega)) dX5_readDue_44 (cwV 2 hts gX5_readDue_X2_addDue rfl rfl rfl (by decide +kernel) (by rw [hR]; exact ⟨Nat.le_of_ble_eq_true rfl, Nat.le_of_ble_eq_true rfl⟩)) ⟨hx, hb, hml, hown, hts⟩ hl.1 hK hP hD hS hA 3 rfl rfl rfl [3, 4, 5] [0, 1, 2] rfl (by decide) rfl (by decide) (by decide) rfl rfl (Nat.le_of_ble_eq_true rfl) (by rw [hR]; exact ⟨Nat.le_of_ble_eq_true rfl, Nat.le_of_ble_eq_true rfl⟩) (fun u H locs q44 hP hD hS => ?_)
    obtain ⟨du1_44, dn1_44, dw1_44⟩ := u
    have q44 : (du < 6 ∧ du1_44 = du + 1 ∧ dn1_44 = zu dn du z28 ∧ dw1_44 = zu dw du z37) ∨ (du = 6 ∧ du1_44 = du ∧ dn1_44 = dn ∧ dw1_44 = dw) := q44
    have hP : va_P g vwCl [(hd, oB 5 [.ref hdt, .ref hdk, .ref hds, .ref hdv, vI n, vI he1_37, vI fa1_37, vI sr, vI sl, vI st0]), (hdk, aI ca 201 tk), (hdv, aI ca 201 va), (hL, oB 2 [.ref hw, .ref he, .ref hdn, .ref hdw, vI du1_44, vI hv, vI mo, vI oft, vI la, vI pA, vI pB]), (hdn, aI ca 6 dn1_44), (hdw, aI ca 6 dw1_44)] H := hP.sub [0, 1, 2, 3, 4, 5] rfl
    have hD : va_D A [(hd, oB 5 [.ref hdt, .ref hdk, .ref hds, .ref hdv, vI n, vI he1_37, vI fa1_37, vI sr, vI sl, vI st0]), (hdk, aI ca 201 tk), (hdv, aI ca 201 va), (hL, oB 2 [.ref hw, .ref he, .ref hdn, .ref hdw, vI du1_44, vI hv, vI mo, vI oft, vI la, vI pA, vI pB]), (hdn, aI ca 6 dn1_44), (hdw, aI ca 6 dw1_44)] := hD.sub [0, 1, 2, 3, 4, 5] (by decide) rfl
    refine zr_V hx hb hr hlk hQ (he1_37, fa1_37, du1_44, dn1_44, dw1_44) hP hD hS dX5_readDue_47 (Nat.le_of_ble_eq_true rfl) (Nat.le_of_ble_eq_true rfl) ?_
    show (fa1_37, sv he1_37) = pn t n 1 200 (pn t n 1 120 (ps t n 112 (if du < 6 then 0 else 1, sv he0))) ∧ (he0 ≤ he1_37 ∧ he1_37 ≤ mm) ∧ (fa1_37 = 0 ∨ fa1_37 = 1) ∧ du1_44 = itu t n (sv he0) du ∧ dn1_44 = itn t n (sv he0) du dn ∧ dw1_44 = itw t n (sv he0) du dw
    rw [q21_0] at q28_1
    rw [q28_1] at q37_1
    have h28 : z28 = vl t n (ps t n 112 (if du < 6 then 0 else 1, sv he0)).2 := by
      rw [q28_0]
      refine (congrArg (vl t n) (congrArg Prod.snd q21_0)).trans ?_
      congr 3
      first | rw [if_pos (by omega)] | rw [if_neg (by omega)]
    have h37 : z37 = vl t n (pn t n 1 120 (ps t n 112 (if du < 6 then 0 else 1, sv he0))).2 := by
      rw [q37_0]
      refine (congrArg (vl t n) (congrArg Prod.snd q28_1)).trans ?_
      congr 4
      first | rw [if_pos (by omega)] | rw [if_neg (by omega)]
    unfold itu itn itw
    rcases q44 with ⟨k1, k2, k3, k4⟩ | ⟨k1, k2, k3, k4⟩
    · rw [if_pos k1] at h28 h37 ⊢
      rw [if_pos ⟨hkd, k1⟩, if_pos ⟨hkd, k1⟩, if_pos ⟨hkd, k1⟩]
      first | (exact ⟨q37_1, by omega, q37_3, k2, by rw [k3, h28], by rw [k4, h37]⟩) | (exfalso; omega)
    · rw [if_neg (by omega)] at h28 h37 ⊢
      rw [if_neg (fun q => by omega), if_neg (fun q => by omega), if_neg (fun q => by omega)]
      first | (exact ⟨q37_1, by omega, q37_3, k2, k3, k4⟩) | (exfalso; omega)
set_option maxHeartbeats 4000000 in
set_option maxRecDepth 100000 in
theorem k_X5_readItem (l : Launch) (g : va_G) (ca : Nat → ClassId) (hd : Nat) (hdt : Nat) (hdk : Nat) (hds : Nat) (hdv : Nat) (n : Int) (he0 : Int) (fa : Int) (sr : Int) (sl : Int) (st0 : Int) (t : Int → Int) (tk : Int → Int) (sv : Int → Int) (va : Int → Int) (mm : Int) (hL : Nat) (hw : Nat) (he : Nat) (hdn : Nat) (hdw : Nat) (du : Int) (hv : Int) (mo : Int) (oft : Int) (la : Int) (pA : Int) (pB : Int) (dn : Int → Int) (dw : Int → Int) (hT : TXok t n) (hTK : TOK t n tk sv va mm) (hhe : 0 ≤ he0 ∧ he0 ≤ mm) (hfl : (sr = 0 ∨ sr = 1) ∧ (sl = 0 ∨ sl = 1) ∧ (st0 = 0 ∨ st0 = 1)) (hdu : 0 ≤ du ∧ du ≤ 6) : zV (S := Int × Int × Int × Int × Int × Int × Int × Int × Int × Int × Int × Int × (Int → Int) × (Int → Int)) l yX5_readItem wsX5_readItem ({ frames := 3, cells := 0, slots := 0, locals := 68 } : Room) g ca [.ref hd, .ref hL] [(hd, oB 5 [.ref hdt, .ref hdk, .ref hds, .ref hdv, vI n, vI he0, vI fa, vI sr, vI sl, vI st0]), (hdk, aI ca 201 tk), (hdv, aI ca 201 va), (hL, oB 2 [.ref hw, .ref he, .ref hdn, .ref hdw, vI du, vI hv, vI mo, vI oft, vI la, vI pA, vI pB]), (hdn, aI ca 6 dn), (hdw, aI ca 6 dw)] (fun (u : Int × Int × Int × Int × Int × Int × Int × Int × Int × Int × Int × Int × (Int → Int) × (Int → Int)) => (u.2.1, sv u.1) = itf t n (sv he0) sr sl st0 du ∧ (he0 ≤ u.1 ∧ u.1 ≤ mm) ∧ (u.2.1 = 0 ∨ u.2.1 = 1) ∧ u.2.2.1 = fl t n (sv he0) 114 sr ∧ u.2.2.2.1 = fl t n (sv he0) 108 sl ∧ u.2.2.2.2.1 = fl t n (sv he0) 116 st0 ∧ u.2.2.2.2.2.1 = itu t n (sv he0) du ∧ u.2.2.2.2.2.2.2.2.2.2.2.2.1 = itn t n (sv he0) du dn ∧ u.2.2.2.2.2.2.2.2.2.2.2.2.2 = itw t n (sv he0) du dw ∧ u.2.2.2.2.2.2.1 = itr t n (sv he0) sr sl st0 (rdf hv mo oft pA pB la) 0 ∧ u.2.2.2.2.2.2.2.1 = itr t n (sv he0) sr sl st0 (rdf hv mo oft pA pB la) 1 ∧ u.2.2.2.2.2.2.2.2.1 = itr t n (sv he0) sr sl st0 (rdf hv mo oft pA pB la) 2 ∧ u.2.2.2.2.2.2.2.2.2.2.1 = itr t n (sv he0) sr sl st0 (rdf hv mo oft pA pB la) 3 ∧ u.2.2.2.2.2.2.2.2.2.2.2.1 = itr t n (sv he0) sr sl st0 (rdf hv mo oft pA pB la) 4 ∧ u.2.2.2.2.2.2.2.2.2.1 = itr t n (sv he0) sr sl st0 (rdf hv mo oft pA pB la) 5) (fun (u : Int × Int × Int × Int × Int × Int × Int × Int × Int × Int × Int × Int × (Int → Int) × (Int → Int)) => [(hd, oB 5 [.ref hdt, .ref hdk, .ref hds, .ref hdv, vI n, vI u.1, vI u.2.1, vI u.2.2.1, vI u.2.2.2.1, vI u.2.2.2.2.1]), (hdk, aI ca 201 tk), (hdv, aI ca 201 va), (hL, oB 2 [.ref hw, .ref he, .ref hdn, .ref hdw, vI u.2.2.2.2.2.1, vI u.2.2.2.2.2.2.1, vI u.2.2.2.2.2.2.2.1, vI u.2.2.2.2.2.2.2.2.1, vI u.2.2.2.2.2.2.2.2.2.1, vI u.2.2.2.2.2.2.2.2.2.2.1, vI u.2.2.2.2.2.2.2.2.2.2.2.1]), (hdn, aI ca 6 u.2.2.2.2.2.2.2.2.2.2.2.2.1), (hdw, aI ca 6 u.2.2.2.2.2.2.2.2.2.2.2.2.2)]) 0 0 := by
  refine zm_V (cc := cX5_readItem) (maxL := 2) (ret := none) (by decide) rfl (Nat.le_of_ble_eq_true rfl) ?_
  intro p e s m below meth c A ls R args Q hR hargs hQ hx hb hml hr hts hown hlk hnm hK hP hD hA hS hl
  have hown : s.vm.findClass RX5 = some m.cls := hown
  have hl : lv_has ls 2 [(0, .ref hd), (1, .ref hL)] := hl
  have lk_f15 : (Cond.fieldLink RX5 15 "DripRings$Reader" "tokens" "[I").before args s = true := hts _ (by decide +kernel)
  have inF_X5 : ∀ w ∈ wsX50, w ∈ wsX5_readItem := by decide +kernel
  have lk_f36 : (Cond.fieldLink RX5 36 "DripRings$Reader" "here" "I").before args s = true := hts _ (by decide +kernel)
  have lk_f53 : (Cond.fieldLink RX5 53 "DripRings$Reader" "faulty" "Z").before args s = true := hts _ (by decide +kernel)
  have hmm := hTK.1
  have hrng := TOK_rng hT hTK hhe.1 hhe.2
  have htk := (hTK.2.1 he0 hhe.1 hhe.2).2.2.1
  refine lv_aload_n hx hb dX5_readItem_0 rfl (lv_at hl 0 rfl) ?_
  refine va_get (D := g) (ci := 5) (v := .ref hdk) (C := RX5) (T := TX5) (N := 10) hx hb hts inF_X5 hown hK.1 hP 0 rfl rfl 1 (by decide) lk_f15 (fun _ h9 => h9) rfl dX5_readItem_1 ?_
  refine lv_aload_n hx hb dX5_readItem_4 rfl (lv_at hl 0 rfl) ?_
  refine va_get (D := g) (ci := 5) (v := vI he0) (C := RX5) (T := TX5) (N := 10) hx hb hts inF_X5 hown hK.1 hP 0 rfl rfl 5 (by decide) lk_f36 (fun _ h9 => h9) rfl dX5_readItem_5 ?_
  refine ra_ild hx hb hK hP 1 rfl dX5_readItem_8 ⟨by omega, by omega⟩ (by omega) ?_
  by_cases c9 : (tk he0) = 108
  · skip
    refine ri_to c9 ?_
    refine lv_tableIn (tgt := 68) hx hb dX5_readItem_9 (by rw [xi_to ⟨by omega, by omega⟩]; omega) (by rw [xi_to ⟨by omega, by omega⟩]; omega) (off := 59) (by rw [xi_to ⟨by omega, by omega⟩]; rfl) (by decide) ?_
    refine lv_aload_n hx hb dX5_readItem_68 rfl (lv_at hl 0 rfl) ?_
    refine lv_aload_n hx hb dX5_readItem_69 rfl (lv_at hl 1 rfl) ?_
    refine zc_VV (As := [.ref hL]) (rest := []) (wc := [(hd, oB 5 [.ref hdt, .ref hdk, .ref hds, .ref hdv, vI n, vI he0, vI fa, vI sr, vI sl, vI st0]), (hdk, aI ca 201 tk), (hdv, aI ca 201 va), (hL, oB 2 [.ref hw, .ref he, .ref hdn, .ref hdw, vI du, vI hv, vI mo, vI oft, vI la, vI pA, vI pB])]) (wr := [(hdn, aI ca 6 dn), (hdw, aI ca 6 dw)]) (k_X5_readLess l g ca hd hdt hdk hds hdv n he0 fa sr sl st0 t tk sv va mm hL hw he hdn hdw du hv mo oft la pA pB (by first | assumption | omega) (by first | assumption | omega) (by first | assumption | omega) (by first | assumption | omega)) dX5_readItem_70 (cwV 1 hts gX5_readItem_X5_readLess rfl rfl rfl (by decide +kernel) (by rw [hR]; exact ⟨Nat.le_of_ble_eq_true rfl, Nat.le_of_ble_eq_true rfl⟩)) ⟨hx, hb, hml, hown, hts⟩ hl.1 hK hP hD hS hA 0 rfl rfl rfl [0, 1, 2, 3] [4, 5] rfl (by decide) rfl (by decide) (by decide) rfl rfl (Nat.le_of_ble_eq_true rfl) (by rw [hR]; exact ⟨Nat.le_of_ble_eq_true rfl, Nat.le_of_ble_eq_true rfl⟩) (fun u H locs q70 hP hD hS => ?_)
    obtain ⟨he1_70, fa1_70, pA1_70, pB1_70⟩ := u
    have q70 : (fa1_70, sv he1_70) = pn t n (vl t n (ps t n 108 (sl, sv he0)).2 + 1) 9 (pn t n 1 8 (ps t n 108 (sl, sv he0))) ∧ (he0 ≤ he1_70 ∧ he1_70 ≤ mm) ∧ (fa1_70 = 0 ∨ fa1_70 = 1) ∧ pA1_70 = vl t n (ps t n 108 (sl, sv he0)).2 ∧ pB1_70 = vl t n (pn t n 1 8 (ps t n 108 (sl, sv he0))).2 := q70
    obtain ⟨q70_0, q70_1, q70_2, q70_3, q70_4⟩ := q70
    have hP : va_P g vwCl [(hd, oB 5 [.ref hdt, .ref hdk, .ref hds, .ref hdv, vI n, vI he1_70, vI fa1_70, vI sr, vI 1, vI st0]), (hdk, aI ca 201 tk), (hdv, aI ca 201 va), (hL, oB 2 [.ref hw, .ref he, .ref hdn, .ref hdw, vI du, vI hv, vI mo, vI oft, vI la, vI pA1_70, vI pB1_70]), (hdn, aI ca 6 dn), (hdw, aI ca 6 dw)] H := hP.sub [2, 3, 4, 5, 0, 1] rfl
    have hD : va_D A [(hd, oB 5 [.ref hdt, .ref hdk, .ref hds, .ref hdv, vI n, vI he1_70, vI fa1_70, vI sr, vI 1, vI st0]), (hdk, aI ca 201 tk), (hdv, aI ca 201 va), (hL, oB 2 [.ref hw, .ref he, .ref hdn, .ref hdw, vI du, vI hv, vI mo, vI oft, vI la, vI pA1_70, vI pB1_70]), (hdn, aI ca 6 dn), (hdw, aI ca 6 dw)] := hD.sub [2, 3, 4, 5, 0, 1] (by decide) rfl
    refine lv_goto (tgt := 97) hx hb dX5_readItem_73 (by decide) ?_
    refine lv_aload_n hx hb dX5_readItem_97 rfl (lv_at hl 0 rfl) ?_
    refine lv_bipush (v := Int32.ofInt 59) hx hb dX5_readItem_98 (by decide) ?_
    refine zc_VV (As := [vI 59]) (rest := []) (wc := [(hd, oB 5 [.ref hdt, .ref hdk, .ref hds, .ref hdv, vI n, vI he1_70, vI fa1_70, vI sr, vI 1, vI st0]), (hdk, aI ca 201 tk)]) (wr := [(hdv, aI ca 201 va), (hL, oB 2 [.ref hw, .ref he, .ref hdn, .ref hdw, vI du, vI hv, vI mo, vI oft, vI la, vI pA1_70, vI pB1_70]), (hdn, aI ca 6 dn), (hdw, aI ca 6 dw)]) (k_X5_pass l g ca hd hdt hdk hds hdv n he1_70 fa1_70 sr 1 st0 t tk sv va mm 59 (by first | assumption | omega) (by first | assumption | omega) (by first | assumption | omega) (by first | assumption | omega) (by first | assumption | omega)) dX5_readItem_100 (cwV 1 hts gX5_readItem_X5_pass rfl rfl rfl (by decide +kernel) (by rw [hR]; exact ⟨Nat.le_of_ble_eq_true rfl, Nat.le_of_ble_eq_true rfl⟩)) ⟨hx, hb, hml, hown, hts⟩ hl.1 hK hP hD hS hA 0 rfl rfl rfl [0, 1] [2, 3, 4, 5] rfl (by decide) rfl (by decide) (by decide) rfl rfl (Nat.le_of_ble_eq_true rfl) (by rw [hR]; exact ⟨Nat.le_of_ble_eq_true rfl, Nat.le_of_ble_eq_true rfl⟩) (fun u H locs q100 hP hD hS => ?_)
    obtain ⟨fa1_100, he1_100⟩ := u
    have q100 : (fa1_100, sv he1_100) = ps t n 59 (fa1_70, sv he1_70) ∧ (he1_70 ≤ he1_100 ∧ he1_100 ≤ mm) ∧ (fa1_100 = 0 ∨ fa1_100 = 1) := q100
    obtain ⟨q100_0, q100_1, q100_2⟩ := q100
    have hP : va_P g vwCl [(hd, oB 5 [.ref hdt, .ref hdk, .ref hds, .ref hdv, vI n, vI he1_100, vI fa1_100, vI sr, vI 1, vI st0]), (hdk, aI ca 201 tk), (hdv, aI ca 201 va), (hL, oB 2 [.ref hw, .ref he, .ref hdn, .ref hdw, vI du, vI hv, vI mo, vI oft, vI la, vI pA1_70, vI pB1_70]), (hdn, aI ca 6 dn), (hdw, aI ca 6 dw)] H := hP.sub [4, 5, 0, 1, 2, 3] rfl
    have hD : va_D A [(hd, oB 5 [.ref hdt, .ref hdk, .ref hds, .ref hdv, vI n, vI he1_100, vI fa1_100, vI sr, vI 1, vI st0]), (hdk, aI ca 201 tk), (hdv, aI ca 201 va), (hL, oB 2 [.ref hw, .ref he, .ref hdn, .ref hdw, vI du, vI hv, vI mo, vI oft, vI la, vI pA1_70, vI pB1_70]), (hdn, aI ca 6 dn), (hdw, aI ca 6 dw)] := hD.sub [4, 5, 0, 1, 2, 3] (by decide) rfl
    refine zr_V hx hb hr hlk hQ (he1_100, fa1_100, sr, 1, st0, du, hv, mo, oft, la, pA1_70, pB1_70, dn, dw) hP hD hS dX5_readItem_103 (Nat.le_of_ble_eq_true rfl) (Nat.le_of_ble_eq_true rfl) ?_
    show (fa1_100, sv he1_100) = itf t n (sv he0) sr sl st0 du ∧ (he0 ≤ he1_100 ∧ he1_100 ≤ mm) ∧ (fa1_100 = 0 ∨ fa1_100 = 1) ∧ sr = fl t n (sv he0) 114 sr ∧ 1 = fl t n (sv he0) 108 sl ∧ st0 = fl t n (sv he0) 116 st0 ∧ du = itu t n (sv he0) du ∧ dn = itn t n (sv he0) du dn ∧ dw = itw t n (sv he0) du dw ∧ hv = itr t n (sv he0) sr sl st0 (rdf hv mo oft pA pB la) 0 ∧ mo = itr t n (sv he0) sr sl st0 (rdf hv mo oft pA pB la) 1 ∧ oft = itr t n (sv he0) sr sl st0 (rdf hv mo oft pA pB la) 2 ∧ pA1_70 = itr t n (sv he0) sr sl st0 (rdf hv mo oft pA pB la) 3 ∧ pB1_70 = itr t n (sv he0) sr sl st0 (rdf hv mo oft pA pB la) 4 ∧ la = itr t n (sv he0) sr sl st0 (rdf hv mo oft pA pB la) 5
    have hk : ∀ d : Int, kd t n (sv he0) = d ↔ tk he0 = d := fun d => by rw [htk]
    have f1 : ∀ d sr : Int, tk he0 = d → fl t n (sv he0) d sr = 1 := fun d sr q => if_pos ((hk d).mpr q)
    have f0 : ∀ d sr : Int, ¬ tk he0 = d → fl t n (sv he0) d sr = sr := fun d sr q => if_neg (fun r => q ((hk d).mp r))
    unfold itf itc
    first
    | (have c : tk he0 = 114 := by omega
       rw [if_pos ((hk 114).mpr c), f1 114 _ c, f0 108 _ (by omega), f0 116 _ (by omega)]
       unfold itu itn itw itr
       rw [if_neg (fun q => by have := (hk 112).mp q.1; omega), if_neg (fun q => by have := (hk 112).mp q.1; omega), if_neg (fun q => by have := (hk 112).mp q.1; omega), if_pos ((hk 114).mpr c)]
       rw [q62_0] at q100_0
       exact ⟨q100_0, by omega, q100_2, rfl, rfl, rfl, rfl, rfl, rfl, q62_3, q62_4, q62_5, rfl, rfl, rfl⟩)
    | (have c : tk he0 = 108 := by omega
       rw [if_neg (fun q => by have := (hk 114).mp q; omega), if_pos ((hk 108).mpr c), f0 114 _ (by omega), f1 108 _ c, f0 116 _ (by omega)]
       unfold itu itn itw itr
       rw [if_neg (fun q => by have := (hk 112).mp q.1; omega), if_neg (fun q => by have := (hk 112).mp q.1; omega), if_neg (fun q => by have := (hk 112).mp q.1; omega), if_neg (fun q => by have := (hk 114).mp q; omega), if_pos ((hk 108).mpr c)]
       rw [q70_0] at q100_0
       exact ⟨q100_0, by omega, q100_2, rfl, rfl, rfl, rfl, rfl, rfl, rfl, rfl, rfl, q70_3, q70_4, rfl⟩)
    | (have c : tk he0 = 116 := by omega
       rw [if_neg (fun q => by have := (hk 114).mp q; omega), if_neg (fun q => by have := (hk 108).mp q; omega), if_pos ((hk 116).mpr c), f0 114 _ (by omega), f0 108 _ (by omega), f1 116 _ c]
       unfold itu itn itw itr
       rw [if_neg (fun q => by have := (hk 112).mp q.1; omega), if_neg (fun q => by have := (hk 112).mp q.1; omega), if_neg (fun q => by have := (hk 112).mp q.1; omega), if_neg (fun q => by have := (hk 114).mp q; omega), if_neg (fun q => by have := (hk 108).mp q; omega), if_pos ((hk 116).mpr c)]
       rw [q78_0] at q100_0
       exact ⟨q100_0, by omega, q100_2, rfl, rfl, rfl, rfl, rfl, rfl, rfl, rfl, rfl, rfl, rfl, q78_3⟩)
    | (have c : tk he0 = 112 := by omega
       rw [if_neg (fun q => by have := (hk 114).mp q; omega), if_neg (fun q => by have := (hk 108).mp q; omega), if_neg (fun q => by have := (hk 116).mp q; omega), if_pos ((hk 112).mpr c), f0 114 _ (by omega), f0 108 _ (by omega), f0 116 _ (by omega)]
       generalize (if du < 6 then (0 : Int) else 1) = gg at q86_0 ⊢
       unfold itr
       rw [if_neg (fun q => by have := (hk 114).mp q; omega), if_neg (fun q => by have := (hk 108).mp q; omega), if_neg (fun q => by have := (hk 116).mp q; omega)]
       rw [q86_0] at q100_0
       exact ⟨q100_0, by omega, q100_2, rfl, rfl, rfl, q86_3, q86_4, q86_5, rfl, rfl, rfl, rfl, rfl, rfl⟩)
    | (rw [if_neg (fun q => by have := (hk 114).mp q; omega), if_neg (fun q => by have := (hk 108).mp q; omega), if_neg (fun q => by have := (hk 116).mp q; omega), if_neg (fun q => by have := (hk 112).mp q; omega), f0 114 _ (by omega), f0 108 _ (by omega), f0 116 _ (by omega)]
       unfold itu itn itw itr
       rw [if_neg (fun q => by have := (hk 112).mp q.1; omega), if_neg (fun q => by have := (hk 112).mp q.1; omega), if_neg (fun q => by have := (hk 112).mp q.1; omega), if_neg (fun q => by have := (hk 114).mp q; omega), if_neg (fun q => by have := (hk 108).mp q; omega), if_neg (fun q => by have := (hk 116).mp q; omega)]
       exact ⟨q100_0, by omega, q100_2, rfl, rfl, rfl, rfl, rfl, rfl, rfl, rfl, rfl, rfl, rfl, rfl⟩)
  by_cases c9_2 : (tk he0) = 112
  · skip
    refine ri_to c9_2 ?_
    refine lv_tableIn (tgt := 84) hx hb dX5_readItem_9 (by rw [xi_to ⟨by omega, by omega⟩]; omega) (by rw [xi_to ⟨by omega, by omega⟩]; omega) (off := 75) (by rw [xi_to ⟨by omega, by omega⟩]; rfl) (by decide) ?_
    refine lv_aload_n hx hb dX5_readItem_84 rfl (lv_at hl 0 rfl) ?_
    refine lv_aload_n hx hb dX5_readItem_85 rfl (lv_at hl 1 rfl) ?_
    have hkd86 : kd t n (sv he0) = 112 := by rw [← htk]; omega
    refine zc_VV (As := [.ref hL]) (rest := []) (wc := [(hd, oB 5 [.ref hdt, .ref hdk, .ref hds, .ref hdv, vI n, vI he0, vI fa, vI sr, vI sl, vI st0]), (hdk, aI ca 201 tk), (hdv, aI ca 201 va), (hL, oB 2 [.ref hw, .ref he, .ref hdn, .ref hdw, vI du, vI hv, vI mo, vI oft, vI la, vI pA, vI pB]), (hdn, aI ca 6 dn), (hdw, aI ca 6 dw)]) (wr := []) (k_X5_readDue l g ca hd hdt hdk hds hdv n he0 fa sr sl st0 t tk sv va mm hL hw he hdn hdw du hv mo oft la pA pB dn dw (by first | assumption | omega) (by first | assumption | omega) (by first | assumption | omega) (by first | assumption | omega) (by first | assumption | omega) (by exact hkd86)) dX5_readItem_86 (cwV 1 hts gX5_readItem_X5_readDue rfl rfl rfl (by decide +kernel) (by rw [hR]; exact ⟨Nat.le_of_ble_eq_true rfl, Nat.le_of_ble_eq_true rfl⟩)) ⟨hx, hb, hml, hown, hts⟩ hl.1 hK hP hD hS hA 0 rfl rfl rfl [0, 1, 2, 3, 4, 5] [] rfl (by decide) rfl (by decide) (by decide) rfl rfl (Nat.le_of_ble_eq_true rfl) (by rw [hR]; exact ⟨Nat.le_of_ble_eq_true rfl, Nat.le_of_ble_eq_true rfl⟩) (fun u H locs q86 hP hD hS => ?_)
    obtain ⟨he1_86, fa1_86, du1_86, dn1_86, dw1_86⟩ := u
    have q86 : (fa1_86, sv he1_86) = pn t n 1 200 (pn t n 1 120 (ps t n 112 (if du < 6 then 0 else 1, sv he0))) ∧ (he0 ≤ he1_86 ∧ he1_86 ≤ mm) ∧ (fa1_86 = 0 ∨ fa1_86 = 1) ∧ du1_86 = itu t n (sv he0) du ∧ dn1_86 = itn t n (sv he0) du dn ∧ dw1_86 = itw t n (sv he0) du dw := q86
    obtain ⟨q86_0, q86_1, q86_2, q86_3, q86_4, q86_5⟩ := q86
    have hP : va_P g vwCl [(hd, oB 5 [.ref hdt, .ref hdk, .ref hds, .ref hdv, vI n, vI he1_86, vI fa1_86, vI sr, vI sl, vI st0]), (hdk, aI ca 201 tk), (hdv, aI ca 201 va), (hL, oB 2 [.ref hw, .ref he, .ref hdn, .ref hdw, vI du1_86, vI hv, vI mo, vI oft, vI la, vI pA, vI pB]), (hdn, aI ca 6 dn1_86), (hdw, aI ca 6 dw1_86)] H := hP.sub [0, 1, 2, 3, 4, 5] rfl
    have hD : va_D A [(hd, oB 5 [.ref hdt, .ref hdk, .ref hds, .ref hdv, vI n, vI he1_86, vI fa1_86, vI sr, vI sl, vI st0]), (hdk, aI ca 201 tk), (hdv, aI ca 201 va), (hL, oB 2 [.ref hw, .ref he, .ref hdn, .ref hdw, vI du1_86, vI hv, vI mo, vI oft, vI la, vI pA, vI pB]), (hdn, aI ca 6 dn1_86), (hdw, aI ca 6 dw1_86)] := hD.sub [0, 1, 2, 3, 4, 5] (by decide) rfl
    refine lv_goto (tgt := 97) hx hb dX5_readItem_89 (by decide) ?_
    refine lv_aload_n hx hb dX5_readItem_97 rfl (lv_at hl 0 rfl) ?_
    refine lv_bipush (v := Int32.ofInt 59) hx hb dX5_readItem_98 (by decide) ?_
    refine zc_VV (As := [vI 59]) (rest := []) (wc := [(hd, oB 5 [.ref hdt, .ref hdk, .ref hds, .ref hdv, vI n, vI he1_86, vI fa1_86, vI sr, vI sl, vI st0]), (hdk, aI ca 201 tk)]) (wr := [(hdv, aI ca 201 va), (hL, oB 2 [.ref hw, .ref he, .ref hdn, .ref hdw, vI du1_86, vI hv, vI mo, vI oft, vI la, vI pA, vI pB]), (hdn, aI ca 6 dn1_86), (hdw, aI ca 6 dw1_86)]) (k_X5_pass l g ca hd hdt hdk hds hdv n he1_86 fa1_86 sr sl st0 t tk sv va mm 59 (by first | assumption | omega) (by first | assumption | omega) (by first | assumption | omega) (by first | assumption | omega) (by first | assumption | omega)) dX5_readItem_100 (cwV 1 hts gX5_readItem_X5_pass rfl rfl rfl (by decide +kernel) (by rw [hR]; exact ⟨Nat.le_of_ble_eq_true rfl, Nat.le_of_ble_eq_true rfl⟩)) ⟨hx, hb, hml, hown, hts⟩ hl.1 hK hP hD hS hA 0 rfl rfl rfl [0, 1] [2, 3, 4, 5] rfl (by decide) rfl (by decide) (by decide) rfl rfl (Nat.le_of_ble_eq_true rfl) (by rw [hR]; exact ⟨Nat.le_of_ble_eq_true rfl, Nat.le_of_ble_eq_true rfl⟩) (fun u H locs q100 hP hD hS => ?_)
    obtain ⟨fa1_100, he1_100⟩ := u
    have q100 : (fa1_100, sv he1_100) = ps t n 59 (fa1_86, sv he1_86) ∧ (he1_86 ≤ he1_100 ∧ he1_100 ≤ mm) ∧ (fa1_100 = 0 ∨ fa1_100 = 1) := q100
    obtain ⟨q100_0, q100_1, q100_2⟩ := q100
    have hP : va_P g vwCl [(hd, oB 5 [.ref hdt, .ref hdk, .ref hds, .ref hdv, vI n, vI he1_100, vI fa1_100, vI sr, vI sl, vI st0]), (hdk, aI ca 201 tk), (hdv, aI ca 201 va), (hL, oB 2 [.ref hw, .ref he, .ref hdn, .ref hdw, vI du1_86, vI hv, vI mo, vI oft, vI la, vI pA, vI pB]), (hdn, aI ca 6 dn1_86), (hdw, aI ca 6 dw1_86)] H := hP.sub [4, 5, 0, 1, 2, 3] rfl
    have hD : va_D A [(hd, oB 5 [.ref hdt, .ref hdk, .ref hds, .ref hdv, vI n, vI he1_100, vI fa1_100, vI sr, vI sl, vI st0]), (hdk, aI ca 201 tk), (hdv, aI ca 201 va), (hL, oB 2 [.ref hw, .ref he, .ref hdn, .ref hdw, vI du1_86, vI hv, vI mo, vI oft, vI la, vI pA, vI pB]), (hdn, aI ca 6 dn1_86), (hdw, aI ca 6 dw1_86)] := hD.sub [4, 5, 0, 1, 2, 3] (by decide) rfl
    refine zr_V hx hb hr hlk hQ (he1_100, fa1_100, sr, sl, st0, du1_86, hv, mo, oft, la, pA, pB, dn1_86, dw1_86) hP hD hS dX5_readItem_103 (Nat.le_of_ble_eq_true rfl) (Nat.le_of_ble_eq_true rfl) ?_
    show (fa1_100, sv he1_100) = itf t n (sv he0) sr sl st0 du ∧ (he0 ≤ he1_100 ∧ he1_100 ≤ mm) ∧ (fa1_100 = 0 ∨ fa1_100 = 1) ∧ sr = fl t n (sv he0) 114 sr ∧ sl = fl t n (sv he0) 108 sl ∧ st0 = fl t n (sv he0) 116 st0 ∧ du1_86 = itu t n (sv he0) du ∧ dn1_86 = itn t n (sv he0) du dn ∧ dw1_86 = itw t n (sv he0) du dw ∧ hv = itr t n (sv he0) sr sl st0 (rdf hv mo oft pA pB la) 0 ∧ mo = itr t n (sv he0) sr sl st0 (rdf hv mo oft pA pB la) 1 ∧ oft = itr t n (sv he0) sr sl st0 (rdf hv mo oft pA pB la) 2 ∧ pA = itr t n (sv he0) sr sl st0 (rdf hv mo oft pA pB la) 3 ∧ pB = itr t n (sv he0) sr sl st0 (rdf hv mo oft pA pB la) 4 ∧ la = itr t n (sv he0) sr sl st0 (rdf hv mo oft pA pB la) 5
    have hk : ∀ d : Int, kd t n (sv he0) = d ↔ tk he0 = d := fun d => by rw [htk]
    have f1 : ∀ d sr : Int, tk he0 = d → fl t n (sv he0) d sr = 1 := fun d sr q => if_pos ((hk d).mpr q)
    have f0 : ∀ d sr : Int, ¬ tk he0 = d → fl t n (sv he0) d sr = sr := fun d sr q => if_neg (fun r => q ((hk d).mp r))
    unfold itf itc
    first
    | (have c : tk he0 = 114 := by omega
       rw [if_pos ((hk 114).mpr c), f1 114 _ c, f0 108 _ (by omega), f0 116 _ (by omega)]
       unfold itu itn itw itr
       rw [if_neg (fun q => by have := (hk 112).mp q.1; omega), if_neg (fun q => by have := (hk 112).mp q.1; omega), if_neg (fun q => by have := (hk 112).mp q.1; omega), if_pos ((hk 114).mpr c)]
       rw [q62_0] at q100_0
       exact ⟨q100_0, by omega, q100_2, rfl, rfl, rfl, rfl, rfl, rfl, q62_3, q62_4, q62_5, rfl, rfl, rfl⟩)
    | (have c : tk he0 = 108 := by omega
       rw [if_neg (fun q => by have := (hk 114).mp q; omega), if_pos ((hk 108).mpr c), f0 114 _ (by omega), f1 108 _ c, f0 116 _ (by omega)]
       unfold itu itn itw itr
       rw [if_neg (fun q => by have := (hk 112).mp q.1; omega), if_neg (fun q => by have := (hk 112).mp q.1; omega), if_neg (fun q => by have := (hk 112).mp q.1; omega), if_neg (fun q => by have := (hk 114).mp q; omega), if_pos ((hk 108).mpr c)]
       rw [q70_0] at q100_0
       exact ⟨q100_0, by omega, q100_2, rfl, rfl, rfl, rfl, rfl, rfl, rfl, rfl, rfl, q70_3, q70_4, rfl⟩)
    | (have c : tk he0 = 116 := by omega
       rw [if_neg (fun q => by have := (hk 114).mp q; omega), if_neg (fun q => by have := (hk 108).mp q; omega), if_pos ((hk 116).mpr c), f0 114 _ (by omega), f0 108 _ (by omega), f1 116 _ c]
       unfold itu itn itw itr
       rw [if_neg (fun q => by have := (hk 112).mp q.1; omega), if_neg (fun q => by have := (hk 112).mp q.1; omega), if_neg (fun q => by have := (hk 112).mp q.1; omega), if_neg (fun q => by have := (hk 114).mp q; omega), if_neg (fun q => by have := (hk 108).mp q; omega), if_pos ((hk 116).mpr c)]
       rw [q78_0] at q100_0
       exact ⟨q100_0, by omega, q100_2, rfl, rfl, rfl, rfl, rfl, rfl, rfl, rfl, rfl, rfl, rfl, q78_3⟩)
    | (have c : tk he0 = 112 := by omega
       rw [if_neg (fun q => by have := (hk 114).mp q; omega), if_neg (fun q => by have := (hk 108).mp q; omega), if_neg (fun q => by have := (hk 116).mp q; omega), if_pos ((hk 112).mpr c), f0 114 _ (by omega), f0 108 _ (by omega), f0 116 _ (by omega)]
       generalize (if du < 6 then (0 : Int) else 1) = gg at q86_0 ⊢
       unfold itr
       rw [if_neg (fun q => by have := (hk 114).mp q; omega), if_neg (fun q => by have := (hk 108).mp q; omega), if_neg (fun q => by have := (hk 116).mp q; omega)]
       rw [q86_0] at q100_0
       exact ⟨q100_0, by omega, q100_2, rfl, rfl, rfl, q86_3, q86_4, q86_5, rfl, rfl, rfl, rfl, rfl, rfl⟩)
    | (rw [if_neg (fun q => by have := (hk 114).mp q; omega), if_neg (fun q => by have := (hk 108).mp q; omega), if_neg (fun q => by have := (hk 116).mp q; omega), if_neg (fun q => by have := (hk 112).mp q; omega), f0 114 _ (by omega), f0 108 _ (by omega), f0 116 _ (by omega)]
       unfold itu itn itw itr
       rw [if_neg (fun q => by have := (hk 112).mp q.1; omega), if_neg (fun q => by have := (hk 112).mp q.1; omega), if_neg (fun q => by have := (hk 112).mp q.1; omega), if_neg (fun q => by have := (hk 114).mp q; omega), if_neg (fun q => by have := (hk 108).mp q; omega), if_neg (fun q => by have := (hk 116).mp q; omega)]
       exact ⟨q100_0, by omega, q100_2, rfl, rfl, rfl, rfl, rfl, rfl, rfl, rfl, rfl, rfl, rfl, rfl⟩)
  by_cases c9_3 : (tk he0) = 114
  · skip
    refine ri_to c9_3 ?_
    refine lv_tableIn (tgt := 60) hx hb dX5_readItem_9 (by rw [xi_to ⟨by omega, by omega⟩]; omega) (by rw [xi_to ⟨by omega, by omega⟩]; omega) (off := 51) (by rw [xi_to ⟨by omega, by omega⟩]; rfl) (by decide) ?_
    refine lv_aload_n hx hb dX5_readItem_60 rfl (lv_at hl 0 rfl) ?_
    refine lv_aload_n hx hb dX5_readItem_61 rfl (lv_at hl 1 rfl) ?_
    refine zc_VV (As := [.ref hL]) (rest := []) (wc := [(hd, oB 5 [.ref hdt, .ref hdk, .ref hds, .ref hdv, vI n, vI he0, vI fa, vI sr, vI sl, vI st0]), (hdk, aI ca 201 tk), (hdv, aI ca 201 va), (hL, oB 2 [.ref hw, .ref he, .ref hdn, .ref hdw, vI du, vI hv, vI mo, vI oft, vI la, vI pA, vI pB])]) (wr := [(hdn, aI ca 6 dn), (hdw, aI ca 6 dw)]) (k_X5_readRing l g ca hd hdt hdk hds hdv n he0 fa sr sl st0 t tk sv va mm hL hw he hdn hdw du hv mo oft la pA pB (by first | assumption | omega) (by first | assumption | omega) (by first | assumption | omega) (by first | assumption | omega)) dX5_readItem_62 (cwV 1 hts gX5_readItem_X5_readRing rfl rfl rfl (by decide +kernel) (by rw [hR]; exact ⟨Nat.le_of_ble_eq_true rfl, Nat.le_of_ble_eq_true rfl⟩)) ⟨hx, hb, hml, hown, hts⟩ hl.1 hK hP hD hS hA 0 rfl rfl rfl [0, 1, 2, 3] [4, 5] rfl (by decide) rfl (by decide) (by decide) rfl rfl (Nat.le_of_ble_eq_true rfl) (by rw [hR]; exact ⟨Nat.le_of_ble_eq_true rfl, Nat.le_of_ble_eq_true rfl⟩) (fun u H locs q62 hP hD hS => ?_)
    obtain ⟨he1_62, fa1_62, hv1_62, mo1_62, oft1_62⟩ := u
    have q62 : (fa1_62, sv he1_62) = pn t n 1 20 (pn t n 1 9 (pn t n 1 99 (ps t n 114 (sr, sv he0)))) ∧ (he0 ≤ he1_62 ∧ he1_62 ≤ mm) ∧ (fa1_62 = 0 ∨ fa1_62 = 1) ∧ hv1_62 = vl t n (ps t n 114 (sr, sv he0)).2 ∧ mo1_62 = vl t n (pn t n 1 99 (ps t n 114 (sr, sv he0))).2 ∧ oft1_62 = vl t n (pn t n 1 9 (pn t n 1 99 (ps t n 114 (sr, sv he0)))).2 := q62
    obtain ⟨q62_0, q62_1, q62_2, q62_3, q62_4, q62_5⟩ := q62
    have hP : va_P g vwCl [(hd, oB 5 [.ref hdt, .ref hdk, .ref hds, .ref hdv, vI n, vI he1_62, vI fa1_62, vI 1, vI sl, vI st0]), (hdk, aI ca 201 tk), (hdv, aI ca 201 va), (hL, oB 2 [.ref hw, .ref he, .ref hdn, .ref hdw, vI du, vI hv1_62, vI mo1_62, vI oft1_62, vI la, vI pA, vI pB]), (hdn, aI ca 6 dn), (hdw, aI ca 6 dw)] H := hP.sub [2, 3, 4, 5, 0, 1] rfl
    have hD : va_D A [(hd, oB 5 [.ref hdt, .ref hdk, .ref hds, .ref hdv, vI n, vI he1_62, vI fa1_62, vI 1, vI sl, vI st0]), (hdk, aI ca 201 tk), (hdv, aI ca 201 va), (hL, oB 2 [.ref hw, .ref he, .ref hdn, .ref hdw, vI du, vI hv1_62, vI mo1_62, vI oft1_62, vI la, vI pA, vI pB]), (hdn, aI ca 6 dn), (hdw, aI ca 6 dw)] := hD.sub [2, 3, 4, 5, 0, 1] (by decide) rfl
    refine lv_goto (tgt := 97) hx hb dX5_readItem_65 (by decide) ?_
    refine lv_aload_n hx hb dX5_readItem_97 rfl (lv_at hl 0 rfl) ?_
    refine lv_bipush (v := Int32.ofInt 59) hx hb dX5_readItem_98 (by decide) ?_
    refine zc_VV (As := [vI 59]) (rest := []) (wc := [(hd, oB 5 [.ref hdt, .ref hdk, .ref hds, .ref hdv, vI n, vI he1_62, vI fa1_62, vI 1, vI sl, vI st0]), (hdk, aI ca 201 tk)]) (wr := [(hdv, aI ca 201 va), (hL, oB 2 [.ref hw, .ref he, .ref hdn, .ref hdw, vI du, vI hv1_62, vI mo1_62, vI oft1_62, vI la, vI pA, vI pB]), (hdn, aI ca 6 dn), (hdw, aI ca 6 dw)]) (k_X5_pass l g ca hd hdt hdk hds hdv n he1_62 fa1_62 1 sl st0 t tk sv va mm 59 (by first | assumption | omega) (by first | assumption | omega) (by first | assumption | omega) (by first | assumption | omega) (by first | assumption | omega)) dX5_readItem_100 (cwV 1 hts gX5_readItem_X5_pass rfl rfl rfl (by decide +kernel) (by rw [hR]; exact ⟨Nat.le_of_ble_eq_true rfl, Nat.le_of_ble_eq_true rfl⟩)) ⟨hx, hb, hml, hown, hts⟩ hl.1 hK hP hD hS hA 0 rfl rfl rfl [0, 1] [2, 3, 4, 5] rfl (by decide) rfl (by decide) (by decide) rfl rfl (Nat.le_of_ble_eq_true rfl) (by rw [hR]; exact ⟨Nat.le_of_ble_eq_true rfl, Nat.le_of_ble_eq_true rfl⟩) (fun u H locs q100 hP hD hS => ?_)
    obtain ⟨fa1_100, he1_100⟩ := u
    have q100 : (fa1_100, sv he1_100) = ps t n 59 (fa1_62, sv he1_62) ∧ (he1_62 ≤ he1_100 ∧ he1_100 ≤ mm) ∧ (fa1_100 = 0 ∨ fa1_100 = 1) := q100
    obtain ⟨q100_0, q100_1, q100_2⟩ := q100
    have hP : va_P g vwCl [(hd, oB 5 [.ref hdt, .ref hdk, .ref hds, .ref hdv, vI n, vI he1_100, vI fa1_100, vI 1, vI sl, vI st0]), (hdk, aI ca 201 tk), (hdv, aI ca 201 va), (hL, oB 2 [.ref hw, .ref he, .ref hdn, .ref hdw, vI du, vI hv1_62, vI mo1_62, vI oft1_62, vI la, vI pA, vI pB]), (hdn, aI ca 6 dn), (hdw, aI ca 6 dw)] H := hP.sub [4, 5, 0, 1, 2, 3] rfl
    have hD : va_D A [(hd, oB 5 [.ref hdt, .ref hdk, .ref hds, .ref hdv, vI n, vI he1_100, vI fa1_100, vI 1, vI sl, vI st0]), (hdk, aI ca 201 tk), (hdv, aI ca 201 va), (hL, oB 2 [.ref hw, .ref he, .ref hdn, .ref hdw, vI du, vI hv1_62, vI mo1_62, vI oft1_62, vI la, vI pA, vI pB]), (hdn, aI ca 6 dn), (hdw, aI ca 6 dw)] := hD.sub [4, 5, 0, 1, 2, 3] (by decide) rfl
    refine zr_V hx hb hr hlk hQ (he1_100, fa1_100, 1, sl, st0, du, hv1_62, mo1_62, oft1_62, la, pA, pB, dn, dw) hP hD hS dX5_readItem_103 (Nat.le_of_ble_eq_true rfl) (Nat.le_of_ble_eq_true rfl) ?_
    show (fa1_100, sv he1_100) = itf t n (sv he0) sr sl st0 du ∧ (he0 ≤ he1_100 ∧ he1_100 ≤ mm) ∧ (fa1_100 = 0 ∨ fa1_100 = 1) ∧ 1 = fl t n (sv he0) 114 sr ∧ sl = fl t n (sv he0) 108 sl ∧ st0 = fl t n (sv he0) 116 st0 ∧ du = itu t n (sv he0) du ∧ dn = itn t n (sv he0) du dn ∧ dw = itw t n (sv he0) du dw ∧ hv1_62 = itr t n (sv he0) sr sl st0 (rdf hv mo oft pA pB la) 0 ∧ mo1_62 = itr t n (sv he0) sr sl st0 (rdf hv mo oft pA pB la) 1 ∧ oft1_62 = itr t n (sv he0) sr sl st0 (rdf hv mo oft pA pB la) 2 ∧ pA = itr t n (sv he0) sr sl st0 (rdf hv mo oft pA pB la) 3 ∧ pB = itr t n (sv he0) sr sl st0 (rdf hv mo oft pA pB la) 4 ∧ la = itr t n (sv he0) sr sl st0 (rdf hv mo oft pA pB la) 5
    have hk : ∀ d : Int, kd t n (sv he0) = d ↔ tk he0 = d := fun d => by rw [htk]
    have f1 : ∀ d sr : Int, tk he0 = d → fl t n (sv he0) d sr = 1 := fun d sr q => if_pos ((hk d).mpr q)
    have f0 : ∀ d sr : Int, ¬ tk he0 = d → fl t n (sv he0) d sr = sr := fun d sr q => if_neg (fun r => q ((hk d).mp r))
    unfold itf itc
    first
    | (have c : tk he0 = 114 := by omega
       rw [if_pos ((hk 114).mpr c), f1 114 _ c, f0 108 _ (by omega), f0 116 _ (by omega)]
       unfold itu itn itw itr
       rw [if_neg (fun q => by have := (hk 112).mp q.1; omega), if_neg (fun q => by have := (hk 112).mp q.1; omega), if_neg (fun q => by have := (hk 112).mp q.1; omega), if_pos ((hk 114).mpr c)]
       rw [q62_0] at q100_0
       exact ⟨q100_0, by omega, q100_2, rfl, rfl, rfl, rfl, rfl, rfl, q62_3, q62_4, q62_5, rfl, rfl, rfl⟩)
    | (have c : tk he0 = 108 := by omega
       rw [if_neg (fun q => by have := (hk 114).mp q; omega), if_pos ((hk 108).mpr c), f0 114 _ (by omega), f1 108 _ c, f0 116 _ (by omega)]
       unfold itu itn itw itr
       rw [if_neg (fun q => by have := (hk 112).mp q.1; omega), if_neg (fun q => by have := (hk 112).mp q.1; omega), if_neg (fun q => by have := (hk 112).mp q.1; omega), if_neg (fun q => by have := (hk 114).mp q; omega), if_pos ((hk 108).mpr c)]
       rw [q70_0] at q100_0
       exact ⟨q100_0, by omega, q100_2, rfl, rfl, rfl, rfl, rfl, rfl, rfl, rfl, rfl, q70_3, q70_4, rfl⟩)
    | (have c : tk he0 = 116 := by omega
       rw [if_neg (fun q => by have := (hk 114).mp q; omega), if_neg (fun q => by have := (hk 108).mp q; omega), if_pos ((hk 116).mpr c), f0 114 _ (by omega), f0 108 _ (by omega), f1 116 _ c]
       unfold itu itn itw itr
       rw [if_neg (fun q => by have := (hk 112).mp q.1; omega), if_neg (fun q => by have := (hk 112).mp q.1; omega), if_neg (fun q => by have := (hk 112).mp q.1; omega), if_neg (fun q => by have := (hk 114).mp q; omega), if_neg (fun q => by have := (hk 108).mp q; omega), if_pos ((hk 116).mpr c)]
       rw [q78_0] at q100_0
       exact ⟨q100_0, by omega, q100_2, rfl, rfl, rfl, rfl, rfl, rfl, rfl, rfl, rfl, rfl, rfl, q78_3⟩)
    | (have c : tk he0 = 112 := by omega
       rw [if_neg (fun q => by have := (hk 114).mp q; omega), if_neg (fun q => by have := (hk 108).mp q; omega), if_neg (fun q => by have := (hk 116).mp q; omega), if_pos ((hk 112).mpr c), f0 114 _ (by omega), f0 108 _ (by omega), f0 116 _ (by omega)]
       generalize (if du < 6 then (0 : Int) else 1) = gg at q86_0 ⊢
       unfold itr
       rw [if_neg (fun q => by have := (hk 114).mp q; omega), if_neg (fun q => by have := (hk 108).mp q; omega), if_neg (fun q => by have := (hk 116).mp q; omega)]
       rw [q86_0] at q100_0
       exact ⟨q100_0, by omega, q100_2, rfl, rfl, rfl, q86_3, q86_4, q86_5, rfl, rfl, rfl, rfl, rfl, rfl⟩)
    | (rw [if_neg (fun q => by have := (hk 114).mp q; omega), if_neg (fun q => by have := (hk 108).mp q; omega), if_neg (fun q => by have := (hk 116).mp q; omega), if_neg (fun q => by have := (hk 112).mp q; omega), f0 114 _ (by omega), f0 108 _ (by omega), f0 116 _ (by omega)]
       unfold itu itn itw itr
       rw [if_neg (fun q => by have := (hk 112).mp q.1; omega), if_neg (fun q => by have := (hk 112).mp q.1; omega), if_neg (fun q => by have := (hk 112).mp q.1; omega), if_neg (fun q => by have := (hk 114).mp q; omega), if_neg (fun q => by have := (hk 108).mp q; omega), if_neg (fun q => by have := (hk 116).mp q; omega)]
       exact ⟨q100_0, by omega, q100_2, rfl, rfl, rfl, rfl, rfl, rfl, rfl, rfl, rfl, rfl, rfl, rfl⟩)
  by_cases c9_4 : (tk he0) = 116
  · skip
    refine ri_to c9_4 ?_
    refine lv_tableIn (tgt := 76) hx hb dX5_readItem_9 (by rw [xi_to ⟨by omega, by omega⟩]; omega) (by rw [xi_to ⟨by omega, by omega⟩]; omega) (off := 67) (by rw [xi_to ⟨by omega, by omega⟩]; rfl) (by decide) ?_
    refine lv_aload_n hx hb dX5_readItem_76 rfl (lv_at hl 0 rfl) ?_
    refine lv_aload_n hx hb dX5_readItem_77 rfl (lv_at hl 1 rfl) ?_
    refine zc_VV (As := [.ref hL]) (rest := []) (wc := [(hd, oB 5 [.ref hdt, .ref hdk, .ref hds, .ref hdv, vI n, vI he0, vI fa, vI sr, vI sl, vI st0]), (hdk, aI ca 201 tk), (hdv, aI ca 201 va), (hL, oB 2 [.ref hw, .ref he, .ref hdn, .ref hdw, vI du, vI hv, vI mo, vI oft, vI la, vI pA, vI pB])]) (wr := [(hdn, aI ca 6 dn), (hdw, aI ca 6 dw)]) (k_X5_readLater l g ca hd hdt hdk hds hdv n he0 fa sr sl st0 t tk sv va mm hL hw he hdn hdw du hv mo oft la pA pB (by first | assumption | omega) (by first | assumption | omega) (by first | assumption | omega) (by first | assumption | omega)) dX5_readItem_78 (cwV 1 hts gX5_readItem_X5_readLater rfl rfl rfl (by decide +kernel) (by rw [hR]; exact ⟨Nat.le_of_ble_eq_true rfl, Nat.le_of_ble_eq_true rfl⟩)) ⟨hx, hb, hml, hown, hts⟩ hl.1 hK hP hD hS hA 0 rfl rfl rfl [0, 1, 2, 3] [4, 5] rfl (by decide) rfl (by decide) (by decide) rfl rfl (Nat.le_of_ble_eq_true rfl) (by rw [hR]; exact ⟨Nat.le_of_ble_eq_true rfl, Nat.le_of_ble_eq_true rfl⟩) (fun u H locs q78 hP hD hS => ?_)
    obtain ⟨he1_78, fa1_78, la1_78⟩ := u
    have q78 : (fa1_78, sv he1_78) = pn t n 0 9 (ps t n 116 (st0, sv he0)) ∧ (he0 ≤ he1_78 ∧ he1_78 ≤ mm) ∧ (fa1_78 = 0 ∨ fa1_78 = 1) ∧ la1_78 = vl t n (ps t n 116 (st0, sv he0)).2 := q78
    obtain ⟨q78_0, q78_1, q78_2, q78_3⟩ := q78
    have hP : va_P g vwCl [(hd, oB 5 [.ref hdt, .ref hdk, .ref hds, .ref hdv, vI n, vI he1_78, vI fa1_78, vI sr, vI sl, vI 1]), (hdk, aI ca 201 tk), (hdv, aI ca 201 va), (hL, oB 2 [.ref hw, .ref he, .ref hdn, .ref hdw, vI du, vI hv, vI mo, vI oft, vI la1_78, vI pA, vI pB]), (hdn, aI ca 6 dn), (hdw, aI ca 6 dw)] H := hP.sub [2, 3, 4, 5, 0, 1] rfl
    have hD : va_D A [(hd, oB 5 [.ref hdt, .ref hdk, .ref hds, .ref hdv, vI n, vI he1_78, vI fa1_78, vI sr, vI sl, vI 1]), (hdk, aI ca 201 tk), (hdv, aI ca 201 va), (hL, oB 2 [.ref hw, .ref he, .ref hdn, .ref hdw, vI du, vI hv, vI mo, vI oft, vI la1_78, vI pA, vI pB]), (hdn, aI ca 6 dn), (hdw, aI ca 6 dw)] := hD.sub [2, 3, 4, 5, 0, 1] (by decide) rfl
    refine lv_goto (tgt := 97) hx hb dX5_readItem_81 (by decide) ?_
    refine lv_aload_n hx hb dX5_readItem_97 rfl (lv_at hl 0 rfl) ?_
    refine lv_bipush (v := Int32.ofInt 59) hx hb dX5_readItem_98 (by decide) ?_
    refine zc_VV (As := [vI 59]) (rest := []) (wc := [(hd, oB 5 [.ref hdt, .ref hdk, .ref hds, .ref hdv, vI n, vI he1_78, vI fa1_78, vI sr, vI sl, vI 1]), (hdk, aI ca 201 tk)]) (wr := [(hdv, aI ca 201 va), (hL, oB 2 [.ref hw, .ref he, .ref hdn, .ref hdw, vI du, vI hv, vI mo, vI oft, vI la1_78, vI pA, vI pB]), (hdn, aI ca 6 dn), (hdw, aI ca 6 dw)]) (k_X5_pass l g ca hd hdt hdk hds hdv n he1_78 fa1_78 sr sl 1 t tk sv va mm 59 (by first | assumption | omega) (by first | assumption | omega) (by first | assumption | omega) (by first | assumption | omega) (by first | assumption | omega)) dX5_readItem_100 (cwV 1 hts gX5_readItem_X5_pass rfl rfl rfl (by decide +kernel) (by rw [hR]; exact ⟨Nat.le_of_ble_eq_true rfl, Nat.le_of_ble_eq_true rfl⟩)) ⟨hx, hb, hml, hown, hts⟩ hl.1 hK hP hD hS hA 0 rfl rfl rfl [0, 1] [2, 3, 4, 5] rfl (by decide) rfl (by decide) (by decide) rfl rfl (Nat.le_of_ble_eq_true rfl) (by rw [hR]; exact ⟨Nat.le_of_ble_eq_true rfl, Nat.le_of_ble_eq_true rfl⟩) (fun u H locs q100 hP hD hS => ?_)
    obtain ⟨fa1_100, he1_100⟩ := u
    have q100 : (fa1_100, sv he1_100) = ps t n 59 (fa1_78, sv he1_78) ∧ (he1_78 ≤ he1_100 ∧ he1_100 ≤ mm) ∧ (fa1_100 = 0 ∨ fa1_100 = 1) := q100
    obtain ⟨q100_0, q100_1, q100_2⟩ := q100
    have hP : va_P g vwCl [(hd, oB 5 [.ref hdt, .ref hdk, .ref hds, .ref hdv, vI n, vI he1_100, vI fa1_100, vI sr, vI sl, vI 1]), (hdk, aI ca 201 tk), (hdv, aI ca 201 va), (hL, oB 2 [.ref hw, .ref he, .ref hdn, .ref hdw, vI du, vI hv, vI mo, vI oft, vI la1_78, vI pA, vI pB]), (hdn, aI ca 6 dn), (hdw, aI ca 6 dw)] H := hP.sub [4, 5, 0, 1, 2, 3] rfl
    have hD : va_D A [(hd, oB 5 [.ref hdt, .ref hdk, .ref hds, .ref hdv, vI n, vI he1_100, vI fa1_100, vI sr, vI sl, vI 1]), (hdk, aI ca 201 tk), (hdv, aI ca 201 va), (hL, oB 2 [.ref hw, .ref he, .ref hdn, .ref hdw, vI du, vI hv, vI mo, vI oft, vI la1_78, vI pA, vI pB]), (hdn, aI ca 6 dn), (hdw, aI ca 6 dw)] := hD.sub [4, 5, 0, 1, 2, 3] (by decide) rfl
    refine zr_V hx hb hr hlk hQ (he1_100, fa1_100, sr, sl, 1, du, hv, mo, oft, la1_78, pA, pB, dn, dw) hP hD hS dX5_readItem_103 (Nat.le_of_ble_eq_true rfl) (Nat.le_of_ble_eq_true rfl) ?_
    show (fa1_100, sv he1_100) = itf t n (sv he0) sr sl st0 du ∧ (he0 ≤ he1_100 ∧ he1_100 ≤ mm) ∧ (fa1_100 = 0 ∨ fa1_100 = 1) ∧ sr = fl t n (sv he0) 114 sr ∧ sl = fl t n (sv he0) 108 sl ∧ 1 = fl t n (sv he0) 116 st0 ∧ du = itu t n (sv he0) du ∧ dn = itn t n (sv he0) du dn ∧ dw = itw t n (sv he0) du dw ∧ hv = itr t n (sv he0) sr sl st0 (rdf hv mo oft pA pB la) 0 ∧ mo = itr t n (sv he0) sr sl st0 (rdf hv mo oft pA pB la) 1 ∧ oft = itr t n (sv he0) sr sl st0 (rdf hv mo oft pA pB la) 2 ∧ pA = itr t n (sv he0) sr sl st0 (rdf hv mo oft pA pB la) 3 ∧ pB = itr t n (sv he0) sr sl st0 (rdf hv mo oft pA pB la) 4 ∧ la1_78 = itr t n (sv he0) sr sl st0 (rdf hv mo oft pA pB la) 5
    have hk : ∀ d : Int, kd t n (sv he0) = d ↔ tk he0 = d := fun d => by rw [htk]
    have f1 : ∀ d sr : Int, tk he0 = d → fl t n (sv he0) d sr = 1 := fun d sr q => if_pos ((hk d).mpr q)
    have f0 : ∀ d sr : Int, ¬ tk he0 = d → fl t n (sv he0) d sr = sr := fun d sr q => if_neg (fun r => q ((hk d).mp r))
    unfold itf itc
    first
    | (have c : tk he0 = 114 := by omega
       rw [if_pos ((hk 114).mpr c), f1 114 _ c, f0 108 _ (by omega), f0 116 _ (by omega)]
       unfold itu itn itw itr
       rw [if_neg (fun q => by have := (hk 112).mp q.1; omega), if_neg (fun q => by have := (hk 112).mp q.1; omega), if_neg (fun q => by have := (hk 112).mp q.1; omega), if_pos ((hk 114).mpr c)]
       rw [q62_0] at q100_0
       exact ⟨q100_0, by omega, q100_2, rfl, rfl, rfl, rfl, rfl, rfl, q62_3, q62_4, q62_5, rfl, rfl, rfl⟩)
    | (have c : tk he0 = 108 := by omega
       rw [if_neg (fun q => by have := (hk 114).mp q; omega), if_pos ((hk 108).mpr c), f0 114 _ (by omega), f1 108 _ c, f0 116 _ (by omega)]
       unfold itu itn itw itr
       rw [if_neg (fun q => by have := (hk 112).mp q.1; omega), if_neg (fun q => by have := (hk 112).mp q.1; omega), if_neg (fun q => by have := (hk 112).mp q.1; omega), if_neg (fun q => by have := (hk 114).mp q; omega), if_pos ((hk 108).mpr c)]
       rw [q70_0] at q100_0
       exact ⟨q100_0, by omega, q100_2, rfl, rfl, rfl, rfl, rfl, rfl, rfl, rfl, rfl, q70_3, q70_4, rfl⟩)
    | (have c : tk he0 = 116 := by omega
       rw [if_neg (fun q => by have := (hk 114).mp q; omega), if_neg (fun q => by have := (hk 108).mp q; omega), if_pos ((hk 116).mpr c), f0 114 _ (by omega), f0 108 _ (by omega), f1 116 _ c]
       unfold itu itn itw itr
       rw [if_neg (fun q => by have := (hk 112).mp q.1; omega), if_neg (fun q => by have := (hk 112).mp q.1; omega), if_neg (fun q => by have := (hk 112).mp q.1; omega), if_neg (fun q => by have := (hk 114).mp q; omega), if_neg (fun q => by have := (hk 108).mp q; omega), if_pos ((hk 116).mpr c)]
       rw [q78_0] at q100_0
       exact ⟨q100_0, by omega, q100_2, rfl, rfl, rfl, rfl, rfl, rfl, rfl, rfl, rfl, rfl, rfl, q78_3⟩)
    | (have c : tk he0 = 112 := by omega
       rw [if_neg (fun q => by have := (hk 114).mp q; omega), if_neg (fun q => by have := (hk 108).mp q; omega), if_neg (fun q => by have := (hk 116).mp q; omega), if_pos ((hk 112).mpr c), f0 114 _ (by omega), f0 108 _ (by omega), f0 116 _ (by omega)]
       generalize (if du < 6 then (0 : Int) else 1) = gg at q86_0 ⊢
       unfold itr
       rw [if_neg (fun q => by have := (hk 114).mp q; omega), if_neg (fun q => by have := (hk 108).mp q; omega), if_neg (fun q => by have := (hk 116).mp q; omega)]
       rw [q86_0] at q100_0
       exact ⟨q100_0, by omega, q100_2, rfl, rfl, rfl, q86_3, q86_4, q86_5, rfl, rfl, rfl, rfl, rfl, rfl⟩)
    | (rw [if_neg (fun q => by have := (hk 114).mp q; omega), if_neg (fun q => by have := (hk 108).mp q; omega), if_neg (fun q => by have := (hk 116).mp q; omega), if_neg (fun q => by have := (hk 112).mp q; omega), f0 114 _ (by omega), f0 108 _ (by omega), f0 116 _ (by omega)]
       unfold itu itn itw itr
       rw [if_neg (fun q => by have := (hk 112).mp q.1; omega), if_neg (fun q => by have := (hk 112).mp q.1; omega), if_neg (fun q => by have := (hk 112).mp q.1; omega), if_neg (fun q => by have := (hk 114).mp q; omega), if_neg (fun q => by have := (hk 108).mp q; omega), if_neg (fun q => by have := (hk 116).mp q; omega)]
       exact ⟨q100_0, by omega, q100_2, rfl, rfl, rfl, rfl, rfl, rfl, rfl, rfl, rfl, rfl, rfl, rfl⟩)
  by_cases c9_5 : (tk he0) = 109
  · skip
    refine ri_to c9_5 ?_
    refine lv_tableIn (tgt := 92) hx hb dX5_readItem_9 (by rw [xi_to ⟨by omega, by omega⟩]; omega) (by rw [xi_to ⟨by omega, by omega⟩]; omega) (off := 83) (by rw [xi_to ⟨by omega, by omega⟩]; rfl) (by decide) ?_
    refine lv_aload_n hx hb dX5_readItem_92 rfl (lv_at hl 0 rfl) ?_
    refine lv_iconst (v := Int32.ofInt 1) hx hb dX5_readItem_93 rfl ?_
    refine va_put (D := g) (ci := 5) (v := vI 1) (ty := .boolean) (C := RX5) (T := TX5) (N := 10) hx hb hts inF_X5 tyX5 tyX5_ok nmX5 hown hK.1 hP hD hS 0 rfl rfl 6 (by decide) lk_f53 (fun _ h9 => h9) rfl (by decide +kernel) (zb_nar (Or.inr rfl)) (zb_fit (Or.inr rfl)) (Nat.le_of_ble_eq_true rfl) dX5_readItem_94 (fun H locs hP hD hS => ?_)
    have hP : va_P g vwCl [(hd, oB 5 [.ref hdt, .ref hdk, .ref hds, .ref hdv, vI n, vI he0, vI 1, vI sr, vI sl, vI st0]), (hdk, aI ca 201 tk), (hdv, aI ca 201 va), (hL, oB 2 [.ref hw, .ref he, .ref hdn, .ref hdw, vI du, vI hv, vI mo, vI oft, vI la, vI pA, vI pB]), (hdn, aI ca 6 dn), (hdw, aI ca 6 dw)] H := hP
    have hD : va_D A [(hd, oB 5 [.ref hdt, .ref hdk, .ref hds, .ref hdv, vI n, vI he0, vI 1, vI sr, vI sl, vI st0]), (hdk, aI ca 201 tk), (hdv, aI ca 201 va), (hL, oB 2 [.ref hw, .ref he, .ref hdn, .ref hdw, vI du, vI hv, vI mo, vI oft, vI la, vI pA, vI pB]), (hdn, aI ca 6 dn), (hdw, aI ca 6 dw)] := hD
    refine lv_aload_n hx hb dX5_readItem_97 rfl (lv_at hl 0 rfl) ?_
    refine lv_bipush (v := Int32.ofInt 59) hx hb dX5_readItem_98 (by decide) ?_
    refine zc_VV (As := [vI 59]) (rest := []) (wc := [(hd, oB 5 [.ref hdt, .ref hdk, .ref hds, .ref hdv, vI n, vI he0, vI 1, vI sr, vI sl, vI st0]), (hdk, aI ca 201 tk)]) (wr := [(hdv, aI ca 201 va), (hL, oB 2 [.ref hw, .ref he, .ref hdn, .ref hdw, vI du, vI hv, vI mo, vI oft, vI la, vI pA, vI pB]), (hdn, aI ca 6 dn), (hdw, aI ca 6 dw)]) (k_X5_pass l g ca hd hdt hdk hds hdv n he0 1 sr sl st0 t tk sv va mm 59 (by first | assumption | omega) (by first | assumption | omega) (by first | assumption | omega) (by first | assumption | omega) (by first | assumption | omega)) dX5_readItem_100 (cwV 1 hts gX5_readItem_X5_pass rfl rfl rfl (by decide +kernel) (by rw [hR]; exact ⟨Nat.le_of_ble_eq_true rfl, Nat.le_of_ble_eq_true rfl⟩)) ⟨hx, hb, hml, hown, hts⟩ hl.1 hK hP hD hS hA 0 rfl rfl rfl [0, 1] [2, 3, 4, 5] rfl (by decide) rfl (by decide) (by decide) rfl rfl (Nat.le_of_ble_eq_true rfl) (by rw [hR]; exact ⟨Nat.le_of_ble_eq_true rfl, Nat.le_of_ble_eq_true rfl⟩) (fun u H locs q100 hP hD hS => ?_)
    obtain ⟨fa1_100, he1_100⟩ := u
    have q100 : (fa1_100, sv he1_100) = ps t n 59 (1, sv he0) ∧ (he0 ≤ he1_100 ∧ he1_100 ≤ mm) ∧ (fa1_100 = 0 ∨ fa1_100 = 1) := q100
    obtain ⟨q100_0, q100_1, q100_2⟩ := q100
    have hP : va_P g vwCl [(hd, oB 5 [.ref hdt, .ref hdk, .ref hds, .ref hdv, vI n, vI he1_100, vI fa1_100, vI sr, vI sl, vI st0]), (hdk, aI ca 201 tk), (hdv, aI ca 201 va), (hL, oB 2 [.ref hw, .ref he, .ref hdn, .ref hdw, vI du, vI hv, vI mo, vI oft, vI la, vI pA, vI pB]), (hdn, aI ca 6 dn), (hdw, aI ca 6 dw)] H := hP.sub [4, 5, 0, 1, 2, 3] rfl
    have hD : va_D A [(hd, oB 5 [.ref hdt, .ref hdk, .ref hds, .ref hdv, vI n, vI he1_100, vI fa1_100, vI sr, vI sl, vI st0]), (hdk, aI ca 201 tk), (hdv, aI ca 201 va), (hL, oB 2 [.ref hw, .ref he, .ref hdn, .ref hdw, vI du, vI hv, vI mo, vI oft, vI la, vI pA, vI pB]), (hdn, aI ca 6 dn), (hdw, aI ca 6 dw)] := hD.sub [4, 5, 0, 1, 2, 3] (by decide) rfl
    refine zr_V hx hb hr hlk hQ (he1_100, fa1_100, sr, sl, st0, du, hv, mo, oft, la, pA, pB, dn, dw) hP hD hS dX5_readItem_103 (Nat.le_of_ble_eq_true rfl) (Nat.le_of_ble_eq_true rfl) ?_
    show (fa1_100, sv he1_100) = itf t n (sv he0) sr sl st0 du ∧ (he0 ≤ he1_100 ∧ he1_100 ≤ mm) ∧ (fa1_100 = 0 ∨ fa1_100 = 1) ∧ sr = fl t n (sv he0) 114 sr ∧ sl = fl t n (sv he0) 108 sl ∧ st0 = fl t n (sv he0) 116 st0 ∧ du = itu t n (sv he0) du ∧ dn = itn t n (sv he0) du dn ∧ dw = itw t n (sv he0) du dw ∧ hv = itr t n (sv he0) sr sl st0 (rdf hv mo oft pA pB la) 0 ∧ mo = itr t n (sv he0) sr sl st0 (rdf hv mo oft pA pB la) 1 ∧ oft = itr t n (sv he0) sr sl st0 (rdf hv mo oft pA pB la) 2 ∧ pA = itr t n (sv he0) sr sl st0 (rdf hv mo oft pA pB la) 3 ∧ pB = itr t n (sv he0) sr sl st0 (rdf hv mo oft pA pB la) 4 ∧ la = itr t n (sv he0) sr sl st0 (rdf hv mo oft pA pB la) 5
    have hk : ∀ d : Int, kd t n (sv he0) = d ↔ tk he0 = d := fun d => by rw [htk]
    have f1 : ∀ d sr : Int, tk he0 = d → fl t n (sv he0) d sr = 1 := fun d sr q => if_pos ((hk d).mpr q)
    have f0 : ∀ d sr : Int, ¬ tk he0 = d → fl t n (sv he0) d sr = sr := fun d sr q => if_neg (fun r => q ((hk d).mp r))
    unfold itf itc
    first
    | (have c : tk he0 = 114 := by omega
       rw [if_pos ((hk 114).mpr c), f1 114 _ c, f0 108 _ (by omega), f0 116 _ (by omega)]
       unfold itu itn itw itr
       rw [if_neg (fun q => by have := (hk 112).mp q.1; omega), if_neg (fun q => by have := (hk 112).mp q.1; omega), if_neg (fun q => by have := (hk 112).mp q.1; omega), if_pos ((hk 114).mpr c)]
       rw [q62_0] at q100_0
       exact ⟨q100_0, by omega, q100_2, rfl, rfl, rfl, rfl, rfl, rfl, q62_3, q62_4, q62_5, rfl, rfl, rfl⟩)
    | (have c : tk he0 = 108 := by omega
       rw [if_neg (fun q => by have := (hk 114).mp q; omega), if_pos ((hk 108).mpr c), f0 114 _ (by omega), f1 108 _ c, f0 116 _ (by omega)]
       unfold itu itn itw itr
       rw [if_neg (fun q => by have := (hk 112).mp q.1; omega), if_neg (fun q => by have := (hk 112).mp q.1; omega), if_neg (fun q => by have := (hk 112).mp q.1; omega), if_neg (fun q => by have := (hk 114).mp q; omega), if_pos ((hk 108).mpr c)]
       rw [q70_0] at q100_0
       exact ⟨q100_0, by omega, q100_2, rfl, rfl, rfl, rfl, rfl, rfl, rfl, rfl, rfl, q70_3, q70_4, rfl⟩)
    | (have c : tk he0 = 116 := by omega
       rw [if_neg (fun q => by have := (hk 114).mp q; omega), if_neg (fun q => by have := (hk 108).mp q; omega), if_pos ((hk 116).mpr c), f0 114 _ (by omega), f0 108 _ (by omega), f1 116 _ c]
       unfold itu itn itw itr
       rw [if_neg (fun q => by have := (hk 112).mp q.1; omega), if_neg (fun q => by have := (hk 112).mp q.1; omega), if_neg (fun q => by have := (hk 112).mp q.1; omega), if_neg (fun q => by have := (hk 114).mp q; omega), if_neg (fun q => by have := (hk 108).mp q; omega), if_pos ((hk 116).mpr c)]
       rw [q78_0] at q100_0
       exact ⟨q100_0, by omega, q100_2, rfl, rfl, rfl, rfl, rfl, rfl, rfl, rfl, rfl, rfl, rfl, q78_3⟩)
    | (have c : tk he0 = 112 := by omega
       rw [if_neg (fun q => by have := (hk 114).mp q; omega), if_neg (fun q => by have := (hk 108).mp q; omega), if_neg (fun q => by have := (hk 116).mp q; omega), if_pos ((hk 112).mpr c), f0 114 _ (by omega), f0 108 _ (by omega), f0 116 _ (by omega)]
       generalize (if du < 6 then (0 : Int) else 1) = gg at q86_0 ⊢
       unfold itr
       rw [if_neg (fun q => by have := (hk 114).mp q; omega), if_neg (fun q => by have := (hk 108).mp q; omega), if_neg (fun q => by have := (hk 116).mp q; omega)]
       rw [q86_0] at q100_0
       exact ⟨q100_0, by omega, q100_2, rfl, rfl, rfl, q86_3, q86_4, q86_5, rfl, rfl, rfl, rfl, rfl, rfl⟩)
    | (rw [if_neg (fun q => by have := (hk 114).mp q; omega), if_neg (fun q => by have := (hk 108).mp q; omega), if_neg (fun q => by have := (hk 116).mp q; omega), if_neg (fun q => by have := (hk 112).mp q; omega), f0 114 _ (by omega), f0 108 _ (by omega), f0 116 _ (by omega)]
       unfold itu itn itw itr
       rw [if_neg (fun q => by have := (hk 112).mp q.1; omega), if_neg (fun q => by have := (hk 112).mp q.1; omega), if_neg (fun q => by have := (hk 112).mp q.1; omega), if_neg (fun q => by have := (hk 114).mp q; omega), if_neg (fun q => by have := (hk 108).mp q; omega), if_neg (fun q => by have := (hk 116).mp q; omega)]
       exact ⟨q100_0, by omega, q100_2, rfl, rfl, rfl, rfl, rfl, rfl, rfl, rfl, rfl, rfl, rfl, rfl⟩)
  by_cases c9_6 : (tk he0) = 110
  · skip
    refine ri_to c9_6 ?_
    refine lv_tableIn (tgt := 92) hx hb dX5_readItem_9 (by rw [xi_to ⟨by omega, by omega⟩]; omega) (by rw [xi_to ⟨by omega, by omega⟩]; omega) (off := 83) (by rw [xi_to ⟨by omega, by omega⟩]; rfl) (by decide) ?_
    refine lv_aload_n hx hb dX5_readItem_92 rfl (lv_at hl 0 rfl) ?_
    refine lv_iconst (v := Int32.ofInt 1) hx hb dX5_readItem_93 rfl ?_
    refine va_put (D := g) (ci := 5) (v := vI 1) (ty := .boolean) (C := RX5) (T := TX5) (N := 10) hx hb hts inF_X5 tyX5 tyX5_ok nmX5 hown hK.1 hP hD hS 0 rfl rfl 6 (by decide) lk_f53 (fun _ h9 => h9) rfl (by decide +kernel) (zb_nar (Or.inr rfl)) (zb_fit (Or.inr rfl)) (Nat.le_of_ble_eq_true rfl) dX5_readItem_94 (fun H locs hP hD hS => ?_)
    have hP : va_P g vwCl [(hd, oB 5 [.ref hdt, .ref hdk, .ref hds, .ref hdv, vI n, vI he0, vI 1, vI sr, vI sl, vI st0]), (hdk, aI ca 201 tk), (hdv, aI ca 201 va), (hL, oB 2 [.ref hw, .ref he, .ref hdn, .ref hdw, vI du, vI hv, vI mo, vI oft, vI la, vI pA, vI pB]), (hdn, aI ca 6 dn), (hdw, aI ca 6 dw)] H := hP
    have hD : va_D A [(hd, oB 5 [.ref hdt, .ref hdk, .ref hds, .ref hdv, vI n, vI he0, vI 1, vI sr, vI sl, vI st0]), (hdk, aI ca 201 tk), (hdv, aI ca 201 va), (hL, oB 2 [.ref hw, .ref he, .ref hdn, .ref hdw, vI du, vI hv, vI mo, vI oft, vI la, vI pA, vI pB]), (hdn, aI ca 6 dn), (hdw, aI ca 6 dw)] := hD
    refine lv_aload_n hx hb dX5_readItem_97 rfl (lv_at hl 0 rfl) ?_
    refine lv_bipush (v := Int32.ofInt 59) hx hb dX5_readItem_98 (by decide) ?_
    refine zc_VV (As := [vI 59]) (rest := []) (wc := [(hd, oB 5 [.ref hdt, .ref hdk, .ref hds, .ref hdv, vI n, vI he0, vI 1, vI sr, vI sl, vI st0]), (hdk, aI ca 201 tk)]) (wr := [(hdv, aI ca 201 va), (hL, oB 2 [.ref hw, .ref he, .ref hdn, .ref hdw, vI du, vI hv, vI mo, vI oft, vI la, vI pA, vI pB]), (hdn, aI ca 6 dn), (hdw, aI ca 6 dw)]) (k_X5_pass l g ca hd hdt hdk hds hdv n he0 1 sr sl st0 t tk sv va mm 59 (by first | assumption | omega) (by first | assumption | omega) (by first | assumption | omega) (by first | assumption | omega) (by first | assumption | omega)) dX5_readItem_100 (cwV 1 hts gX5_readItem_X5_pass rfl rfl rfl (by decide +kernel) (by rw [hR]; exact ⟨Nat.le_of_ble_eq_true rfl, Nat.le_of_ble_eq_true rfl⟩)) ⟨hx, hb, hml, hown, hts⟩ hl.1 hK hP hD hS hA 0 rfl rfl rfl [0, 1] [2, 3, 4, 5] rfl (by decide) rfl (by decide) (by decide) rfl rfl (Nat.le_of_ble_eq_true rfl) (by rw [hR]; exact ⟨Nat.le_of_ble_eq_true rfl, Nat.le_of_ble_eq_true rfl⟩) (fun u H locs q100 hP hD hS => ?_)
    obtain ⟨fa1_100, he1_100⟩ := u
    have q100 : (fa1_100, sv he1_100) = ps t n 59 (1, sv he0) ∧ (he0 ≤ he1_100 ∧ he1_100 ≤ mm) ∧ (fa1_100 = 0 ∨ fa1_100 = 1) := q100
    obtain ⟨q100_0, q100_1, q100_2⟩ := q100
    have hP : va_P g vwCl [(hd, oB 5 [.ref hdt, .ref hdk, .ref hds, .ref hdv, vI n, vI he1_100, vI fa1_100, vI sr, vI sl, vI st0]), (hdk, aI ca 201 tk), (hdv, aI ca 201 va), (hL, oB 2 [.ref hw, .ref he, .ref hdn, .ref hdw, vI du, vI hv, vI mo, vI oft, vI la, vI pA, vI pB]), (hdn, aI ca 6 dn), (hdw, aI ca 6 dw)] H := hP.sub [4, 5, 0, 1, 2, 3] rfl
    have hD : va_D A [(hd, oB 5 [.ref hdt, .ref hdk, .ref hds, .ref hdv, vI n, vI he1_100, vI fa1_100, vI sr, vI sl, vI st0]), (hdk, aI ca 201 tk), (hdv, aI ca 201 va), (hL, oB 2 [.ref hw, .ref he, .ref hdn, .ref hdw, vI du, vI hv, vI mo, vI oft, vI la, vI pA, vI pB]), (hdn, aI ca 6 dn), (hdw, aI ca 6 dw)] := hD.sub [4, 5, 0, 1, 2, 3] (by decide) rfl
    refine zr_V hx hb hr hlk hQ (he1_100, fa1_100, sr, sl, st0, du, hv, mo, oft, la, pA, pB, dn, dw) hP hD hS dX5_readItem_103 (Nat.le_of_ble_eq_true rfl) (Nat.le_of_ble_eq_true rfl) ?_
    show (fa1_100, sv he1_100) = itf t n (sv he0) sr sl st0 du ∧ (he0 ≤ he1_100 ∧ he1_100 ≤ mm) ∧ (fa1_100 = 0 ∨ fa1_100 = 1) ∧ sr = fl t n (sv he0) 114 sr ∧ sl = fl t n (sv he0) 108 sl ∧ st0 = fl t n (sv he0) 116 st0 ∧ du = itu t n (sv he0) du ∧ dn = itn t n (sv he0) du dn ∧ dw = itw t n (sv he0) du dw ∧ hv = itr t n (sv he0) sr sl st0 (rdf hv mo oft pA pB la) 0 ∧ mo = itr t n (sv he0) sr sl st0 (rdf hv mo oft pA pB la) 1 ∧ oft = itr t n (sv he0) sr sl st0 (rdf hv mo oft pA pB la) 2 ∧ pA = itr t n (sv he0) sr sl st0 (rdf hv mo oft pA pB la) 3 ∧ pB = itr t n (sv he0) sr sl st0 (rdf hv mo oft pA pB la) 4 ∧ la = itr t n (sv he0) sr sl st0 (rdf hv mo oft pA pB la) 5
    have hk : ∀ d : Int, kd t n (sv he0) = d ↔ tk he0 = d := fun d => by rw [htk]
    have f1 : ∀ d sr : Int, tk he0 = d → fl t n (sv he0) d sr = 1 := fun d sr q => if_pos ((hk d).mpr q)
    have f0 : ∀ d sr : Int, ¬ tk he0 = d → fl t n (sv he0) d sr = sr := fun d sr q => if_neg (fun r => q ((hk d).mp r))
    unfold itf itc
    first
    | (have c : tk he0 = 114 := by omega
       rw [if_pos ((hk 114).mpr c), f1 114 _ c, f0 108 _ (by omega), f0 116 _ (by omega)]
       unfold itu itn itw itr
       rw [if_neg (fun q => by have := (hk 112).mp q.1; omega), if_neg (fun q => by have := (hk 112).mp q.1; omega), if_neg (fun q => by have := (hk 112).mp q.1; omega), if_pos ((hk 114).mpr c)]
       rw [q62_0] at q100_0
       exact ⟨q100_0, by omega, q100_2, rfl, rfl, rfl, rfl, rfl, rfl, q62_3, q62_4, q62_5, rfl, rfl, rfl⟩)
    | (have c : tk he0 = 108 := by omega
       rw [if_neg (fun q => by have := (hk 114).mp q; omega), if_pos ((hk 108).mpr c), f0 114 _ (by omega), f1 108 _ c, f0 116 _ (by omega)]
       unfold itu itn itw itr
       rw [if_neg (fun q => by have := (hk 112).mp q.1; omega), if_neg (fun q => by have := (hk 112).mp q.1; omega), if_neg (fun q => by have := (hk 112).mp q.1; omega), if_neg (fun q => by have := (hk 114).mp q; omega), if_pos ((hk 108).mpr c)]
       rw [q70_0] at q100_0
       exact ⟨q100_0, by omega, q100_2, rfl, rfl, rfl, rfl, rfl, rfl, rfl, rfl, rfl, q70_3, q70_4, rfl⟩)
    | (have c : tk he0 = 116 := by omega
       rw [if_neg (fun q => by have := (hk 114).mp q; omega), if_neg (fun q => by have := (hk 108).mp q; omega), if_pos ((hk 116).mpr c), f0 114 _ (by omega), f0 108 _ (by omega), f1 116 _ c]
       unfold itu itn itw itr
       rw [if_neg (fun q => by have := (hk 112).mp q.1; omega), if_neg (fun q => by have := (hk 112).mp q.1; omega), if_neg (fun q => by have := (hk 112).mp q.1; omega), if_neg (fun q => by have := (hk 114).mp q; omega), if_neg (fun q => by have := (hk 108).mp q; omega), if_pos ((hk 116).mpr c)]
       rw [q78_0] at q100_0
       exact ⟨q100_0, by omega, q100_2, rfl, rfl, rfl, rfl, rfl, rfl, rfl, rfl, rfl, rfl, rfl, q78_3⟩)
    | (have c : tk he0 = 112 := by omega
       rw [if_neg (fun q => by have := (hk 114).mp q; omega), if_neg (fun q => by have := (hk 108).mp q; omega), if_neg (fun q => by have := (hk 116).mp q; omega), if_pos ((hk 112).mpr c), f0 114 _ (by omega), f0 108 _ (by omega), f0 116 _ (by omega)]
       generalize (if du < 6 then (0 : Int) else 1) = gg at q86_0 ⊢
       unfold itr
       rw [if_neg (fun q => by have := (hk 114).mp q; omega), if_neg (fun q => by have := (hk 108).mp q; omega), if_neg (fun q => by have := (hk 116).mp q; omega)]
       rw [q86_0] at q100_0
       exact ⟨q100_0, by omega, q100_2, rfl, rfl, rfl, q86_3, q86_4, q86_5, rfl, rfl, rfl, rfl, rfl, rfl⟩)
    | (rw [if_neg (fun q => by have := (hk 114).mp q; omega), if_neg (fun q => by have := (hk 108).mp q; omega), if_neg (fun q => by have := (hk 116).mp q; omega), if_neg (fun q => by have := (hk 112).mp q; omega), f0 114 _ (by omega), f0 108 _ (by omega), f0 116 _ (by omega)]
       unfold itu itn itw itr
       rw [if_neg (fun q => by have := (hk 112).mp q.1; omega), if_neg (fun q => by have := (hk 112).mp q.1; omega), if_neg (fun q => by have := (hk 112).mp q.1; omega), if_neg (fun q => by have := (hk 114).mp q; omega), if_neg (fun q => by have := (hk 108).mp q; omega), if_neg (fun q => by have := (hk 116).mp q; omega)]
       exact ⟨q100_0, by omega, q100_2, rfl, rfl, rfl, rfl, rfl, rfl, rfl, rfl, rfl, rfl, rfl, rfl⟩)
  by_cases c9_7 : (tk he0) = 111
  · skip
    refine ri_to c9_7 ?_
    refine lv_tableIn (tgt := 92) hx hb dX5_readItem_9 (by rw [xi_to ⟨by omega, by omega⟩]; omega) (by rw [xi_to ⟨by omega, by omega⟩]; omega) (off := 83) (by rw [xi_to ⟨by omega, by omega⟩]; rfl) (by decide) ?_
    refine lv_aload_n hx hb dX5_readItem_92 rfl (lv_at hl 0 rfl) ?_
    refine lv_iconst (v := Int32.ofInt 1) hx hb dX5_readItem_93 rfl ?_
    refine va_put (D := g) (ci := 5) (v := vI 1) (ty := .boolean) (C := RX5) (T := TX5) (N := 10) hx hb hts inF_X5 tyX5 tyX5_ok nmX5 hown hK.1 hP hD hS 0 rfl rfl 6 (by decide) lk_f53 (fun _ h9 => h9) rfl (by decide +kernel) (zb_nar (Or.inr rfl)) (zb_fit (Or.inr rfl)) (Nat.le_of_ble_eq_true rfl) dX5_readItem_94 (fun H locs hP hD hS => ?_)
    have hP : va_P g vwCl [(hd, oB 5 [.ref hdt, .ref hdk, .ref hds, .ref hdv, vI n, vI he0, vI 1, vI sr, vI sl, vI st0]), (hdk, aI ca 201 tk), (hdv, aI ca 201 va), (hL, oB 2 [.ref hw, .ref he, .ref hdn, .ref hdw, vI du, vI hv, vI mo, vI oft, vI la, vI pA, vI pB]), (hdn, aI ca 6 dn), (hdw, aI ca 6 dw)] H := hP
    have hD : va_D A [(hd, oB 5 [.ref hdt, .ref hdk, .ref hds, .ref hdv, vI n, vI he0, vI 1, vI sr, vI sl, vI st0]), (hdk, aI ca 201 tk), (hdv, aI ca 201 va), (hL, oB 2 [.ref hw, .ref he, .ref hdn, .ref hdw, vI du, vI hv, vI mo, vI oft, vI la, vI pA, vI pB]), (hdn, aI ca 6 dn), (hdw, aI ca 6 dw)] := hD
    refine lv_aload_n hx hb dX5_readItem_97 rfl (lv_at hl 0 rfl) ?_
    refine lv_bipush (v := Int32.ofInt 59) hx hb dX5_readItem_98 (by decide) ?_
    refine zc_VV (As := [vI 59]) (rest := []) (wc := [(hd, oB 5 [.ref hdt, .ref hdk, .ref hds, .ref hdv, vI n, vI he0, vI 1, vI sr, vI sl, vI st0]), (hdk, aI ca 201 tk)]) (wr := [(hdv, aI ca 201 va), (hL, oB 2 [.ref hw, .ref he, .ref hdn, .ref hdw, vI du, vI hv, vI mo, vI oft, vI la, vI pA, vI pB]), (hdn, aI ca 6 dn), (hdw, aI ca 6 dw)]) (k_X5_pass l g ca hd hdt hdk hds hdv n he0 1 sr sl st0 t tk sv va mm 59 (by first | assumption | omega) (by first | assumption | omega) (by first | assumption | omega) (by first | assumption | omega) (by first | assumption | omega)) dX5_readItem_100 (cwV 1 hts gX5_readItem_X5_pass rfl rfl rfl (by decide +kernel) (by rw [hR]; exact ⟨Nat.le_of_ble_eq_true rfl, Nat.le_of_ble_eq_true rfl⟩)) ⟨hx, hb, hml, hown, hts⟩ hl.1 hK hP hD hS hA 0 rfl rfl rfl [0, 1] [2, 3, 4, 5] rfl (by decide) rfl (by decide) (by decide) rfl rfl (Nat.le_of_ble_eq_true rfl) (by rw [hR]; exact ⟨Nat.le_of_ble_eq_true rfl, Nat.le_of_ble_eq_true rfl⟩) (fun u H locs q100 hP hD hS => ?_)
    obtain ⟨fa1_100, he1_100⟩ := u
    have q100 : (fa1_100, sv he1_100) = ps t n 59 (1, sv he0) ∧ (he0 ≤ he1_100 ∧ he1_100 ≤ mm) ∧ (fa1_100 = 0 ∨ fa1_100 = 1) := q100
    obtain ⟨q100_0, q100_1, q100_2⟩ := q100
    have hP : va_P g vwCl [(hd, oB 5 [.ref hdt, .ref hdk, .ref hds, .ref hdv, vI n, vI he1_100, vI fa1_100, vI sr, vI sl, vI st0]), (hdk, aI ca 201 tk), (hdv, aI ca 201 va), (hL, oB 2 [.ref hw, .ref he, .ref hdn, .ref hdw, vI du, vI hv, vI mo, vI oft, vI la, vI pA, vI pB]), (hdn, aI ca 6 dn), (hdw, aI ca 6 dw)] H := hP.sub [4, 5, 0, 1, 2, 3] rfl
    have hD : va_D A [(hd, oB 5 [.ref hdt, .ref hdk, .ref hds, .ref hdv, vI n, vI he1_100, vI fa1_100, vI sr, vI sl, vI st0]), (hdk, aI ca 201 tk), (hdv, aI ca 201 va), (hL, oB 2 [.ref hw, .ref he, .ref hdn, .ref hdw, vI du, vI hv, vI mo, vI oft, vI la, vI pA, vI pB]), (hdn, aI ca 6 dn), (hdw, aI ca 6 dw)] := hD.sub [4, 5, 0, 1, 2, 3] (by decide) rfl
    refine zr_V hx hb hr hlk hQ (he1_100, fa1_100, sr, sl, st0, du, hv, mo, oft, la, pA, pB, dn, dw) hP hD hS dX5_readItem_103 (Nat.le_of_ble_eq_true rfl) (Nat.le_of_ble_eq_true rfl) ?_
    show (fa1_100, sv he1_100) = itf t n (sv he0) sr sl st0 du ∧ (he0 ≤ he1_100 ∧ he1_100 ≤ mm) ∧ (fa1_100 = 0 ∨ fa1_100 = 1) ∧ sr = fl t n (sv he0) 114 sr ∧ sl = fl t n (sv he0) 108 sl ∧ st0 = fl t n (sv he0) 116 st0 ∧ du = itu t n (sv he0) du ∧ dn = itn t n (sv he0) du dn ∧ dw = itw t n (sv he0) du dw ∧ hv = itr t n (sv he0) sr sl st0 (rdf hv mo oft pA pB la) 0 ∧ mo = itr t n (sv he0) sr sl st0 (rdf hv mo oft pA pB la) 1 ∧ oft = itr t n (sv he0) sr sl st0 (rdf hv mo oft pA pB la) 2 ∧ pA = itr t n (sv he0) sr sl st0 (rdf hv mo oft pA pB la) 3 ∧ pB = itr t n (sv he0) sr sl st0 (rdf hv mo oft pA pB la) 4 ∧ la = itr t n (sv he0) sr sl st0 (rdf hv mo oft pA pB la) 5
    have hk : ∀ d : Int, kd t n (sv he0) = d ↔ tk he0 = d := fun d => by rw [htk]
    have f1 : ∀ d sr : Int, tk he0 = d → fl t n (sv he0) d sr = 1 := fun d sr q => if_pos ((hk d).mpr q)
    have f0 : ∀ d sr : Int, ¬ tk he0 = d → fl t n (sv he0) d sr = sr := fun d sr q => if_neg (fun r => q ((hk d).mp r))
    unfold itf itc
    first
    | (have c : tk he0 = 114 := by omega
       rw [if_pos ((hk 114).mpr c), f1 114 _ c, f0 108 _ (by omega), f0 116 _ (by omega)]
       unfold itu itn itw itr
       rw [if_neg (fun q => by have := (hk 112).mp q.1; omega), if_neg (fun q => by have := (hk 112).mp q.1; omega), if_neg (fun q => by have := (hk 112).mp q.1; omega), if_pos ((hk 114).mpr c)]
       rw [q62_0] at q100_0
       exact ⟨q100_0, by omega, q100_2, rfl, rfl, rfl, rfl, rfl, rfl, q62_3, q62_4, q62_5, rfl, rfl, rfl⟩)
    | (have c : tk he0 = 108 := by omega
       rw [if_neg (fun q => by have := (hk 114).mp q; omega), if_pos ((hk 108).mpr c), f0 114 _ (by omega), f1 108 _ c, f0 116 _ (by omega)]
       unfold itu itn itw itr
       rw [if_neg (fun q => by have := (hk 112).mp q.1; omega), if_neg (fun q => by have := (hk 112).mp q.1; omega), if_neg (fun q => by have := (hk 112).mp q.1; omega), if_neg (fun q => by have := (hk 114).mp q; omega), if_pos ((hk 108).mpr c)]
       rw [q70_0] at q100_0
       exact ⟨q100_0, by omega, q100_2, rfl, rfl, rfl, rfl, rfl, rfl, rfl, rfl, rfl, q70_3, q70_4, rfl⟩)
    | (have c : tk he0 = 116 := by omega
       rw [if_neg (fun q => by have := (hk 114).mp q; omega), if_neg (fun q => by have := (hk 108).mp q; omega), if_pos ((hk 116).mpr c), f0 114 _ (by omega), f0 108 _ (by omega), f1 116 _ c]
       unfold itu itn itw itr
       rw [if_neg (fun q => by have := (hk 112).mp q.1; omega), if_neg (fun q => by have := (hk 112).mp q.1; omega), if_neg (fun q => by have := (hk 112).mp q.1; omega), if_neg (fun q => by have := (hk 114).mp q; omega), if_neg (fun q => by have := (hk 108).mp q; omega), if_pos ((hk 116).mpr c)]
       rw [q78_0] at q100_0
       exact ⟨q100_0, by omega, q100_2, rfl, rfl, rfl, rfl, rfl, rfl, rfl, rfl, rfl, rfl, rfl, q78_3⟩)
    | (have c : tk he0 = 112 := by omega
       rw [if_neg (fun q => by have := (hk 114).mp q; omega), if_neg (fun q => by have := (hk 108).mp q; omega), if_neg (fun q => by have := (hk 116).mp q; omega), if_pos ((hk 112).mpr c), f0 114 _ (by omega), f0 108 _ (by omega), f0 116 _ (by omega)]
       generalize (if du < 6 then (0 : Int) else 1) = gg at q86_0 ⊢
       unfold itr
       rw [if_neg (fun q => by have := (hk 114).mp q; omega), if_neg (fun q => by have := (hk 108).mp q; omega), if_neg (fun q => by have := (hk 116).mp q; omega)]
       rw [q86_0] at q100_0
       exact ⟨q100_0, by omega, q100_2, rfl, rfl, rfl, q86_3, q86_4, q86_5, rfl, rfl, rfl, rfl, rfl, rfl⟩)
    | (rw [if_neg (fun q => by have := (hk 114).mp q; omega), if_neg (fun q => by have := (hk 108).mp q; omega), if_neg (fun q => by have := (hk 116).mp q; omega), if_neg (fun q => by have := (hk 112).mp q; omega), f0 114 _ (by omega), f0 108 _ (by omega), f0 116 _ (by omega)]
       unfold itu itn itw itr
       rw [if_neg (fun q => by have := (hk 112).mp q.1; omega), if_neg (fun q => by have := (hk 112).mp q.1; omega), if_neg (fun q => by have := (hk 112).mp q.1; omega), if_neg (fun q => by have := (hk 114).mp q; omega), if_neg (fun q => by have := (hk 108).mp q; omega), if_neg (fun q => by have := (hk 116).mp q; omega)]
       exact ⟨q100_0, by omega, q100_2, rfl, rfl, rfl, rfl, rfl, rfl, rfl, rfl, rfl, rfl, rfl, rfl⟩)
  by_cases c9_8 : (tk he0) = 113
  · skip
    refine ri_to c9_8 ?_
    refine lv_tableIn (tgt := 92) hx hb dX5_readItem_9 (by rw [xi_to ⟨by omega, by omega⟩]; omega) (by rw [xi_to ⟨by omega, by omega⟩]; omega) (off := 83) (by rw [xi_to ⟨by omega, by omega⟩]; rfl) (by decide) ?_
    refine lv_aload_n hx hb dX5_readItem_92 rfl (lv_at hl 0 rfl) ?_
    refine lv_iconst (v := Int32.ofInt 1) hx hb dX5_readItem_93 rfl ?_
    refine va_put (D := g) (ci := 5) (v := vI 1) (ty := .boolean) (C := RX5) (T := TX5) (N := 10) hx hb hts inF_X5 tyX5 tyX5_ok nmX5 hown hK.1 hP hD hS 0 rfl rfl 6 (by decide) lk_f53 (fun _ h9 => h9) rfl (by decide +kernel) (zb_nar (Or.inr rfl)) (zb_fit (Or.inr rfl)) (Nat.le_of_ble_eq_true rfl) dX5_readItem_94 (fun H locs hP hD hS => ?_)
    have hP : va_P g vwCl [(hd, oB 5 [.ref hdt, .ref hdk, .ref hds, .ref hdv, vI n, vI he0, vI 1, vI sr, vI sl, vI st0]), (hdk, aI ca 201 tk), (hdv, aI ca 201 va), (hL, oB 2 [.ref hw, .ref he, .ref hdn, .ref hdw, vI du, vI hv, vI mo, vI oft, vI la, vI pA, vI pB]), (hdn, aI ca 6 dn), (hdw, aI ca 6 dw)] H := hP
    have hD : va_D A [(hd, oB 5 [.ref hdt, .ref hdk, .ref hds, .ref hdv, vI n, vI he0, vI 1, vI sr, vI sl, vI st0]), (hdk, aI ca 201 tk), (hdv, aI ca 201 va), (hL, oB 2 [.ref hw, .ref he, .ref hdn, .ref hdw, vI du, vI hv, vI mo, vI oft, vI la, vI pA, vI pB]), (hdn, aI ca 6 dn), (hdw, aI ca 6 dw)] := hD
    refine lv_aload_n hx hb dX5_readItem_97 rfl (lv_at hl 0 rfl) ?_
    refine lv_bipush (v := Int32.ofInt 59) hx hb dX5_readItem_98 (by decide) ?_
    refine zc_VV (As := [vI 59]) (rest := []) (wc := [(hd, oB 5 [.ref hdt, .ref hdk, .ref hds, .ref hdv, vI n, vI he0, vI 1, vI sr, vI sl, vI st0]), (hdk, aI ca 201 tk)]) (wr := [(hdv, aI ca 201 va), (hL, oB 2 [.ref hw, .ref he, .ref hdn, .ref hdw, vI du, vI hv, vI mo, vI oft, vI la, vI pA, vI pB]), (hdn, aI ca 6 dn), (hdw, aI ca 6 dw)]) (k_X5_pass l g ca hd hdt hdk hds hdv n he0 1 sr sl st0 t tk sv va mm 59 (by first | assumption | omega) (by first | assumption | omega) (by first | assumption | omega) (by first | assumption | omega) (by first | assumption | omega)) dX5_readItem_100 (cwV 1 hts gX5_readItem_X5_pass rfl rfl rfl (by decide +kernel) (by rw [hR]; exact ⟨Nat.le_of_ble_eq_true rfl, Nat.le_of_ble_eq_true rfl⟩)) ⟨hx, hb, hml, hown, hts⟩ hl.1 hK hP hD hS hA 0 rfl rfl rfl [0, 1] [2, 3, 4, 5] rfl (by decide) rfl (by decide) (by decide) rfl rfl (Nat.le_of_ble_eq_true rfl) (by rw [hR]; exact ⟨Nat.le_of_ble_eq_true rfl, Nat.le_of_ble_eq_true rfl⟩) (fun u H locs q100 hP hD hS => ?_)
    obtain ⟨fa1_100, he1_100⟩ := u
    have q100 : (fa1_100, sv he1_100) = ps t n 59 (1, sv he0) ∧ (he0 ≤ he1_100 ∧ he1_100 ≤ mm) ∧ (fa1_100 = 0 ∨ fa1_100 = 1) := q100
    obtain ⟨q100_0, q100_1, q100_2⟩ := q100
    have hP : va_P g vwCl [(hd, oB 5 [.ref hdt, .ref hdk, .ref hds, .ref hdv, vI n, vI he1_100, vI fa1_100, vI sr, vI sl, vI st0]), (hdk, aI ca 201 tk), (hdv, aI ca 201 va), (hL, oB 2 [.ref hw, .ref he, .ref hdn, .ref hdw, vI du, vI hv, vI mo, vI oft, vI la, vI pA, vI pB]), (hdn, aI ca 6 dn), (hdw, aI ca 6 dw)] H := hP.sub [4, 5, 0, 1, 2, 3] rfl
    have hD : va_D A [(hd, oB 5 [.ref hdt, .ref hdk, .ref hds, .ref hdv, vI n, vI he1_100, vI fa1_100, vI sr, vI sl, vI st0]), (hdk, aI ca 201 tk), (hdv, aI ca 201 va), (hL, oB 2 [.ref hw, .ref he, .ref hdn, .ref hdw, vI du, vI hv, vI mo, vI oft, vI la, vI pA, vI pB]), (hdn, aI ca 6 dn), (hdw, aI ca 6 dw)] := hD.sub [4, 5, 0, 1, 2, 3] (by decide) rfl
    refine zr_V hx hb hr hlk hQ (he1_100, fa1_100, sr, sl, st0, du, hv, mo, oft, la, pA, pB, dn, dw) hP hD hS dX5_readItem_103 (Nat.le_of_ble_eq_true rfl) (Nat.le_of_ble_eq_true rfl) ?_
    show (fa1_100, sv he1_100) = itf t n (sv he0) sr sl st0 du ∧ (he0 ≤ he1_100 ∧ he1_100 ≤ mm) ∧ (fa1_100 = 0 ∨ fa1_100 = 1) ∧ sr = fl t n (sv he0) 114 sr ∧ sl = fl t n (sv he0) 108 sl ∧ st0 = fl t n (sv he0) 116 st0 ∧ du = itu t n (sv he0) du ∧ dn = itn t n (sv he0) du dn ∧ dw = itw t n (sv he0) du dw ∧ hv = itr t n (sv he0) sr sl st0 (rdf hv mo oft pA pB la) 0 ∧ mo = itr t n (sv he0) sr sl st0 (rdf hv mo oft pA pB la) 1 ∧ oft = itr t n (sv he0) sr sl st0 (rdf hv mo oft pA pB la) 2 ∧ pA = itr t n (sv he0) sr sl st0 (rdf hv mo oft pA pB la) 3 ∧ pB = itr t n (sv he0) sr sl st0 (rdf hv mo oft pA pB la) 4 ∧ la = itr t n (sv he0) sr sl st0 (rdf hv mo oft pA pB la) 5
    have hk : ∀ d : Int, kd t n (sv he0) = d ↔ tk he0 = d := fun d => by rw [htk]
    have f1 : ∀ d sr : Int, tk he0 = d → fl t n (sv he0) d sr = 1 := fun d sr q => if_pos ((hk d).mpr q)
    have f0 : ∀ d sr : Int, ¬ tk he0 = d → fl t n (sv he0) d sr = sr := fun d sr q => if_neg (fun r => q ((hk d).mp r))
    unfold itf itc
    first
    | (have c : tk he0 = 114 := by omega
       rw [if_pos ((hk 114).mpr c), f1 114 _ c, f0 108 _ (by omega), f0 116 _ (by omega)]
       unfold itu itn itw itr
       rw [if_neg (fun q => by have := (hk 112).mp q.1; omega), if_neg (fun q => by have := (hk 112).mp q.1; omega), if_neg (fun q => by have := (hk 112).mp q.1; omega), if_pos ((hk 114).mpr c)]
       rw [q62_0] at q100_0
       exact ⟨q100_0, by omega, q100_2, rfl, rfl, rfl, rfl, rfl, rfl, q62_3, q62_4, q62_5, rfl, rfl, rfl⟩)
    | (have c : tk he0 = 108 := by omega
       rw [if_neg (fun q => by have := (hk 114).mp q; omega), if_pos ((hk 108).mpr c), f0 114 _ (by omega), f1 108 _ c, f0 116 _ (by omega)]
       unfold itu itn itw itr
       rw [if_neg (fun q => by have := (hk 112).mp q.1; omega), if_neg (fun q => by have := (hk 112).mp q.1; omega), if_neg (fun q => by have := (hk 112).mp q.1; omega), if_neg (fun q => by have := (hk 114).mp q; omega), if_pos ((hk 108).mpr c)]
       rw [q70_0] at q100_0
       exact ⟨q100_0, by omega, q100_2, rfl, rfl, rfl, rfl, rfl, rfl, rfl, rfl, rfl, q70_3, q70_4, rfl⟩)
    | (have c : tk he0 = 116 := by omega
       rw [if_neg (fun q => by have := (hk 114).mp q; omega), if_neg (fun q => by have := (hk 108).mp q; omega), if_pos ((hk 116).mpr c), f0 114 _ (by omega), f0 108 _ (by omega), f1 116 _ c]
       unfold itu itn itw itr
       rw [if_neg (fun q => by have := (hk 112).mp q.1; omega), if_neg (fun q => by have := (hk 112).mp q.1; omega), if_neg (fun q => by have := (hk 112).mp q.1; omega), if_neg (fun q => by have := (hk 114).mp q; omega), if_neg (fun q => by have := (hk 108).mp q; omega), if_pos ((hk 116).mpr c)]
       rw [q78_0] at q100_0
       exact ⟨q100_0, by omega, q100_2, rfl, rfl, rfl, rfl, rfl, rfl, rfl, rfl, rfl, rfl, rfl, q78_3⟩)
    | (have c : tk he0 = 112 := by omega
       rw [if_neg (fun q => by have := (hk 114).mp q; omega), if_neg (fun q => by have := (hk 108).mp q; omega), if_neg (fun q => by have := (hk 116).mp q; omega), if_pos ((hk 112).mpr c), f0 114 _ (by omega), f0 108 _ (by omega), f0 116 _ (by omega)]
       generalize (if du < 6 then (0 : Int) else 1) = gg at q86_0 ⊢
       unfold itr
       rw [if_neg (fun q => by have := (hk 114).mp q; omega), if_neg (fun q => by have := (hk 108).mp q; omega), if_neg (fun q => by have := (hk 116).mp q; omega)]
       rw [q86_0] at q100_0
       exact ⟨q100_0, by omega, q100_2, rfl, rfl, rfl, q86_3, q86_4, q86_5, rfl, rfl, rfl, rfl, rfl, rfl⟩)
    | (rw [if_neg (fun q => by have := (hk 114).mp q; omega), if_neg (fun q => by have := (hk 108).mp q; omega), if_neg (fun q => by have := (hk 116).mp q; omega), if_neg (fun q => by have := (hk 112).mp q; omega), f0 114 _ (by omega), f0 108 _ (by omega), f0 116 _ (by omega)]
       unfold itu itn itw itr
       rw [if_neg (fun q => by have := (hk 112).mp q.1; omega), if_neg (fun q => by have := (hk 112).mp q.1; omega), if_neg (fun q => by have := (hk 112).mp q.1; omega), if_neg (fun q => by have := (hk 114).mp q; omega), if_neg (fun q => by have := (hk 108).mp q; omega), if_neg (fun q => by have := (hk 116).mp q; omega)]
       exact ⟨q100_0, by omega, q100_2, rfl, rfl, rfl, rfl, rfl, rfl, rfl, rfl, rfl, rfl, rfl, rfl⟩)
  by_cases c9_9 : (tk he0) = 115
  · skip
    refine ri_to c9_9 ?_
    refine lv_tableIn (tgt := 92) hx hb dX5_readItem_9 (by rw [xi_to ⟨by omega, by omega⟩]; omega) (by rw [xi_to ⟨by omega, by omega⟩]; omega) (off := 83) (by rw [xi_to ⟨by omega, by omega⟩]; rfl) (by decide) ?_
    refine lv_aload_n hx hb dX5_readItem_92 rfl (lv_at hl 0 rfl) ?_
    refine lv_iconst (v := Int32.ofInt 1) hx hb dX5_readItem_93 rfl ?_
    refine va_put (D := g) (ci := 5) (v := vI 1) (ty := .boolean) (C := RX5) (T := TX5) (N := 10) hx hb hts inF_X5 tyX5 tyX5_ok nmX5 hown hK.1 hP hD hS 0 rfl rfl 6 (by decide) lk_f53 (fun _ h9 => h9) rfl (by decide +kernel) (zb_nar (Or.inr rfl)) (zb_fit (Or.inr rfl)) (Nat.le_of_ble_eq_true rfl) dX5_readItem_94 (fun H locs hP hD hS => ?_)
    have hP : va_P g vwCl [(hd, oB 5 [.ref hdt, .ref hdk, .ref hds, .ref hdv, vI n, vI he0, vI 1, vI sr, vI sl, vI st0]), (hdk, aI ca 201 tk), (hdv, aI ca 201 va), (hL, oB 2 [.ref hw, .ref he, .ref hdn, .ref hdw, vI du, vI hv, vI mo, vI oft, vI la, vI pA, vI pB]), (hdn, aI ca 6 dn), (hdw, aI ca 6 dw)] H := hP
    have hD : va_D A [(hd, oB 5 [.ref hdt, .ref hdk, .ref hds, .ref hdv, vI n, vI he0, vI 1, vI sr, vI sl, vI st0]), (hdk, aI ca 201 tk), (hdv, aI ca 201 va), (hL, oB 2 [.ref hw, .ref he, .ref hdn, .ref hdw, vI du, vI hv, vI mo, vI oft, vI la, vI pA, vI pB]), (hdn, aI ca 6 dn), (hdw, aI ca 6 dw)] := hD
    refine lv_aload_n hx hb dX5_readItem_97 rfl (lv_at hl 0 rfl) ?_
    refine lv_bipush (v := Int32.ofInt 59) hx hb dX5_readItem_98 (by decide) ?_
    refine zc_VV (As := [vI 59]) (rest := []) (wc := [(hd, oB 5 [.ref hdt, .ref hdk, .ref hds, .ref hdv, vI n, vI he0, vI 1, vI sr, vI sl, vI st0]), (hdk, aI ca 201 tk)]) (wr := [(hdv, aI ca 201 va), (hL, oB 2 [.ref hw, .ref he, .ref hdn, .ref hdw, vI du, vI hv, vI mo, vI oft, vI la, vI pA, vI pB]), (hdn, aI ca 6 dn), (hdw, aI ca 6 dw)]) (k_X5_pass l g ca hd hdt hdk hds hdv n he0 1 sr sl st0 t tk sv va mm 59 (by first | assumption | omega) (by first | assumption | omega) (by first | assumption | omega) (by first | assumption | omega) (by first | assumption | omega)) dX5_readItem_100 (cwV 1 hts gX5_readItem_X5_pass rfl rfl rfl (by decide +kernel) (by rw [hR]; exact ⟨Nat.le_of_ble_eq_true rfl, Nat.le_of_ble_eq_true rfl⟩)) ⟨hx, hb, hml, hown, hts⟩ hl.1 hK hP hD hS hA 0 rfl rfl rfl [0, 1] [2, 3, 4, 5] rfl (by decide) rfl (by decide) (by decide) rfl rfl (Nat.le_of_ble_eq_true rfl) (by rw [hR]; exact ⟨Nat.le_of_ble_eq_true rfl, Nat.le_of_ble_eq_true rfl⟩) (fun u H locs q100 hP hD hS => ?_)
    obtain ⟨fa1_100, he1_100⟩ := u
    have q100 : (fa1_100, sv he1_100) = ps t n 59 (1, sv he0) ∧ (he0 ≤ he1_100 ∧ he1_100 ≤ mm) ∧ (fa1_100 = 0 ∨ fa1_100 = 1) := q100
    obtain ⟨q100_0, q100_1, q100_2⟩ := q100
    have hP : va_P g vwCl [(hd, oB 5 [.ref hdt, .ref hdk, .ref hds, .ref hdv, vI n, vI he1_100, vI fa1_100, vI sr, vI sl, vI st0]), (hdk, aI ca 201 tk), (hdv, aI ca 201 va), (hL, oB 2 [.ref hw, .ref he, .ref hdn, .ref hdw, vI du, vI hv, vI mo, vI oft, vI la, vI pA, vI pB]), (hdn, aI ca 6 dn), (hdw, aI ca 6 dw)] H := hP.sub [4, 5, 0, 1, 2, 3] rfl
    have hD : va_D A [(hd, oB 5 [.ref hdt, .ref hdk, .ref hds, .ref hdv, vI n, vI he1_100, vI fa1_100, vI sr, vI sl, vI st0]), (hdk, aI ca 201 tk), (hdv, aI ca 201 va), (hL, oB 2 [.ref hw, .ref he, .ref hdn, .ref hdw, vI du, vI hv, vI mo, vI oft, vI la, vI pA, vI pB]), (hdn, aI ca 6 dn), (hdw, aI ca 6 dw)] := hD.sub [4, 5, 0, 1, 2, 3] (by decide) rfl
    refine zr_V hx hb hr hlk hQ (he1_100, fa1_100, sr, sl, st0, du, hv, mo, oft, la, pA, pB, dn, dw) hP hD hS dX5_readItem_103 (Nat.le_of_ble_eq_true rfl) (Nat.le_of_ble_eq_true rfl) ?_
    show (fa1_100, sv he1_100) = itf t n (sv he0) sr sl st0 du ∧ (he0 ≤ he1_100 ∧ he1_100 ≤ mm) ∧ (fa1_100 = 0 ∨ fa1_100 = 1) ∧ sr = fl t n (sv he0) 114 sr ∧ sl = fl t n (sv he0) 108 sl ∧ st0 = fl t n (sv he0) 116 st0 ∧ du = itu t n (sv he0) du ∧ dn = itn t n (sv he0) du dn ∧ dw = itw t n (sv he0) du dw ∧ hv = itr t n (sv he0) sr sl st0 (rdf hv mo oft pA pB la) 0 ∧ mo = itr t n (sv he0) sr sl st0 (rdf hv mo oft pA pB la) 1 ∧ oft = itr t n (sv he0) sr sl st0 (rdf hv mo oft pA pB la) 2 ∧ pA = itr t n (sv he0) sr sl st0 (rdf hv mo oft pA pB la) 3 ∧ pB = itr t n (sv he0) sr sl st0 (rdf hv mo oft pA pB la) 4 ∧ la = itr t n (sv he0) sr sl st0 (rdf hv mo oft pA pB la) 5
    have hk : ∀ d : Int, kd t n (sv he0) = d ↔ tk he0 = d := fun d => by rw [htk]
    have f1 : ∀ d sr : Int, tk he0 = d → fl t n (sv he0) d sr = 1 := fun d sr q => if_pos ((hk d).mpr q)
    have f0 : ∀ d sr : Int, ¬ tk he0 = d → fl t n (sv he0) d sr = sr := fun d sr q => if_neg (fun r => q ((hk d).mp r))
    unfold itf itc
    first
    | (have c : tk he0 = 114 := by omega
       rw [if_pos ((hk 114).mpr c), f1 114 _ c, f0 108 _ (by omega), f0 116 _ (by omega)]
       unfold itu itn itw itr
       rw [if_neg (fun q => by have := (hk 112).mp q.1; omega), if_neg (fun q => by have := (hk 112).mp q.1; omega), if_neg (fun q => by have := (hk 112).mp q.1; omega), if_pos ((hk 114).mpr c)]
       rw [q62_0] at q100_0
       exact ⟨q100_0, by omega, q100_2, rfl, rfl, rfl, rfl, rfl, rfl, q62_3, q62_4, q62_5, rfl, rfl, rfl⟩)
    | (have c : tk he0 = 108 := by omega
       rw [if_neg (fun q => by have := (hk 114).mp q; omega), if_pos ((hk 108).mpr c), f0 114 _ (by omega), f1 108 _ c, f0 116 _ (by omega)]
       unfold itu itn itw itr
       rw [if_neg (fun q => by have := (hk 112).mp q.1; omega), if_neg (fun q => by have := (hk 112).mp q.1; omega), if_neg (fun q => by have := (hk 112).mp q.1; omega), if_neg (fun q => by have := (hk 114).mp q; omega), if_pos ((hk 108).mpr c)]
       rw [q70_0] at q100_0
       exact ⟨q100_0, by omega, q100_2, rfl, rfl, rfl, rfl, rfl, rfl, rfl, rfl, rfl, q70_3, q70_4, rfl⟩)
    | (have c : tk he0 = 116 := by omega
       rw [if_neg (fun q => by have := (hk 114).mp q; omega), if_neg (fun q => by have := (hk 108).mp q; omega), if_pos ((hk 116).mpr c), f0 114 _ (by omega), f0 108 _ (by omega), f1 116 _ c]
       unfold itu itn itw itr
       rw [if_neg (fun q => by have := (hk 112).mp q.1; omega), if_neg (fun q => by have := (hk 112).mp q.1; omega), if_neg (fun q => by have := (hk 112).mp q.1; omega), if_neg (fun q => by have := (hk 114).mp q; omega), if_neg (fun q => by have := (hk 108).mp q; omega), if_pos ((hk 116).mpr c)]
       rw [q78_0] at q100_0
       exact ⟨q100_0, by omega, q100_2, rfl, rfl, rfl, rfl, rfl, rfl, rfl, rfl, rfl, rfl, rfl, q78_3⟩)
    | (have c : tk he0 = 112 := by omega
       rw [if_neg (fun q => by have := (hk 114).mp q; omega), if_neg (fun q => by have := (hk 108).mp q; omega), if_neg (fun q => by have := (hk 116).mp q; omega), if_pos ((hk 112).mpr c), f0 114 _ (by omega), f0 108 _ (by omega), f0 116 _ (by omega)]
       generalize (if du < 6 then (0 : Int) else 1) = gg at q86_0 ⊢
       unfold itr
       rw [if_neg (fun q => by have := (hk 114).mp q; omega), if_neg (fun q => by have := (hk 108).mp q; omega), if_neg (fun q => by have := (hk 116).mp q; omega)]
       rw [q86_0] at q100_0
       exact ⟨q100_0, by omega, q100_2, rfl, rfl, rfl, q86_3, q86_4, q86_5, rfl, rfl, rfl, rfl, rfl, rfl⟩)
    | (rw [if_neg (fun q => by have := (hk 114).mp q; omega), if_neg (fun q => by have := (hk 108).mp q; omega), if_neg (fun q => by have := (hk 116).mp q; omega), if_neg (fun q => by have := (hk 112).mp q; omega), f0 114 _ (by omega), f0 108 _ (by omega), f0 116 _ (by omega)]
       unfold itu itn itw itr
       rw [if_neg (fun q => by have := (hk 112).mp q.1; omega), if_neg (fun q => by have := (hk 112).mp q.1; omega), if_neg (fun q => by have := (hk 112).mp q.1; omega), if_neg (fun q => by have := (hk 114).mp q; omega), if_neg (fun q => by have := (hk 108).mp q; omega), if_neg (fun q => by have := (hk 116).mp q; omega)]
       exact ⟨q100_0, by omega, q100_2, rfl, rfl, rfl, rfl, rfl, rfl, rfl, rfl, rfl, rfl, rfl, rfl⟩)
  refine lv_tableOut (tgt := 92) hx hb dX5_readItem_9 (by rw [xi_to ⟨by omega, by omega⟩]; omega) (by decide) ?_
  refine lv_aload_n hx hb dX5_readItem_92 rfl (lv_at hl 0 rfl) ?_
  refine lv_iconst (v := Int32.ofInt 1) hx hb dX5_readItem_93 rfl ?_
  refine va_put (D := g) (ci := 5) (v := vI 1) (ty := .boolean) (C := RX5) (T := TX5) (N := 10) hx hb hts inF_X5 tyX5 tyX5_ok nmX5 hown hK.1 hP hD hS 0 rfl rfl 6 (by decide) lk_f53 (fun _ h9 => h9) rfl (by decide +kernel) (zb_nar (Or.inr rfl)) (zb_fit (Or.inr rfl)) (Nat.le_of_ble_eq_true rfl) dX5_readItem_94 (fun H locs hP hD hS => ?_)
  have hP : va_P g vwCl [(hd, oB 5 [.ref hdt, .ref hdk, .ref hds, .ref hdv, vI n, vI he0, vI 1, vI sr, vI sl, vI st0]), (hdk, aI ca 201 tk), (hdv, aI ca 201 va), (hL, oB 2 [.ref hw, .ref he, .ref hdn, .ref hdw, vI du, vI hv, vI mo, vI oft, vI la, vI pA, vI pB]), (hdn, aI ca 6 dn), (hdw, aI ca 6 dw)] H := hP
  have hD : va_D A [(hd, oB 5 [.ref hdt, .ref hdk, .ref hds, .ref hdv, vI n, vI he0, vI 1, vI sr, vI sl, vI st0]), (hdk, aI ca 201 tk), (hdv, aI ca 201 va), (hL, oB 2 [.ref hw, .ref he, .ref hdn, .ref hdw, vI du, vI hv, vI mo, vI oft, vI la, vI pA, vI pB]), (hdn, aI ca 6 dn), (hdw, aI ca 6 dw)] := hD
  refine lv_aload_n hx hb dX5_readItem_97 rfl (lv_at hl 0 rfl) ?_
  refine lv_bipush (v := Int32.ofInt 59) hx hb dX5_readItem_98 (by decide) ?_
  refine zc_VV (As := [vI 59]) (rest := []) (wc := [(hd, oB 5 [.ref hdt, .ref hdk, .ref hds, .ref hdv, vI n, vI he0, vI 1, vI sr, vI sl, vI st0]), (hdk, aI ca 201 tk)]) (wr := [(hdv, aI ca 201 va), (hL, oB 2 [.ref hw, .ref he, .ref hdn, .ref hdw, vI du, vI hv, vI mo, vI oft, vI la, vI pA, vI pB]), (hdn, aI ca 6 dn), (hdw, aI ca 6 dw)]) (k_X5_pass l g ca hd hdt hdk hds hdv n he0 1 sr sl st0 t tk sv va mm 59 (by first | assumption | omega) (by first | assumption | omega) (by first | assumption | omega) (by first | assumption | omega) (by first | assumption | omega)) dX5_readItem_100 (cwV 1 hts gX5_readItem_X5_pass rfl rfl rfl (by decide +kernel) (by rw [hR]; exact ⟨Nat.le_of_ble_eq_true rfl, Nat.le_of_ble_eq_true rfl⟩)) ⟨hx, hb, hml, hown, hts⟩ hl.1 hK hP hD hS hA 0 rfl rfl rfl [0, 1] [2, 3, 4, 5] rfl (by decide) rfl (by decide) (by decide) rfl rfl (Nat.le_of_ble_eq_true rfl) (by rw [hR]; exact ⟨Nat.le_of_ble_eq_true rfl, Nat.le_of_ble_eq_true rfl⟩) (fun u H locs q100 hP hD hS => ?_)
  obtain ⟨fa1_100, he1_100⟩ := u
  have q100 : (fa1_100, sv he1_100) = ps t n 59 (1, sv he0) ∧ (he0 ≤ he1_100 ∧ he1_100 ≤ mm) ∧ (fa1_100 = 0 ∨ fa1_100 = 1) := q100
  obtain ⟨q100_0, q100_1, q100_2⟩ := q100
  have hP : va_P g vwCl [(hd, oB 5 [.ref hdt, .ref hdk, .ref hds, .ref hdv, vI n, vI he1_100, vI fa1_100, vI sr, vI sl, vI st0]), (hdk, aI ca 201 tk), (hdv, aI ca 201 va), (hL, oB 2 [.ref hw, .ref he, .ref hdn, .ref hdw, vI du, vI hv, vI mo, vI oft, vI la, vI pA, vI pB]), (hdn, aI ca 6 dn), (hdw, aI ca 6 dw)] H := hP.sub [4, 5, 0, 1, 2, 3] rfl
  have hD : va_D A [(hd, oB 5 [.ref hdt, .ref hdk, .ref hds, .ref hdv, vI n, vI he1_100, vI fa1_100, vI sr, vI sl, vI st0]), (hdk, aI ca 201 tk), (hdv, aI ca 201 va), (hL, oB 2 [.ref hw, .ref he, .ref hdn, .ref hdw, vI du, vI hv, vI mo, vI oft, vI la, vI pA, vI pB]), (hdn, aI ca 6 dn), (hdw, aI ca 6 dw)] := hD.sub [4, 5, 0, 1, 2, 3] (by decide) rfl
  refine zr_V hx hb hr hlk hQ (he1_100, fa1_100, sr, sl, st0, du, hv, mo, oft, la, pA, pB, dn, dw) hP hD hS dX5_readItem_103 (Nat.le_of_ble_eq_true rfl) (Nat.le_of_ble_eq_true rfl) ?_
  show (fa1_100, sv he1_100) = itf t n (sv he0) sr sl st0 du ∧ (he0 ≤ he1_100 ∧ he1_100 ≤ mm) ∧ (fa1_100 = 0 ∨ fa1_100 = 1) ∧ sr = fl t n (sv he0) 114 sr ∧ sl = fl t n (sv he0) 108 sl ∧ st0 = fl t n (sv he0) 116 st0 ∧ du = itu t n (sv he0) du ∧ dn = itn t n (sv he0) du dn ∧ dw = itw t n (sv he0) du dw ∧ hv = itr t n (sv he0) sr sl st0 (rdf hv mo oft pA pB la) 0 ∧ mo = itr t n (sv he0) sr sl st0 (rdf hv mo oft pA pB la) 1 ∧ oft = itr t n (sv he0) sr sl st0 (rdf hv mo oft pA pB la) 2 ∧ pA = itr t n (sv he0) sr sl st0 (rdf hv mo oft pA pB la) 3 ∧ pB = itr t n (sv he0) sr sl st0 (rdf hv mo oft pA pB la) 4 ∧ la = itr t n (sv he0) sr sl st0 (rdf hv mo oft pA pB la) 5
  have hk : ∀ d : Int, kd t n (sv he0) = d ↔ tk he0 = d := fun d => by rw [htk]
  have f1 : ∀ d sr : Int, tk he0 = d → fl t n (sv he0) d sr = 1 := fun d sr q => if_pos ((hk d).mpr q)
  have f0 : ∀ d sr : Int, ¬ tk he0 = d → fl t n (sv he0) d sr = sr := fun d sr q => if_neg (fun r => q ((hk d).mp r))
  unfold itf itc
  first
  | (have c : tk he0 = 114 := by omega
     rw [if_pos ((hk 114).mpr c), f1 114 _ c, f0 108 _ (by omega), f0 116 _ (by omega)]
     unfold itu itn itw itr
     rw [if_neg (fun q => by have := (hk 112).mp q.1; omega), if_neg (fun q => by have := (hk 112).mp q.1; omega), if_neg (fun q => by have := (hk 112).mp q.1; omega), if_pos ((hk 114).mpr c)]
     rw [q62_0] at q100_0
     exact ⟨q100_0, by omega, q100_2, rfl, rfl, rfl, rfl, rfl, rfl, q62_3, q62_4, q62_5, rfl, rfl, rfl⟩)
  | (have c : tk he0 = 108 := by omega
     rw [if_neg (fun q => by have := (hk 114).mp q; omega), if_pos ((hk 108).mpr c), f0 114 _ (by omega), f1 108 _ c, f0 116 _ (by omega)]
     unfold itu itn itw itr
     rw [if_neg (fun q => by have := (hk 112).mp q.1; omega), if_neg (fun q => by have := (hk 112).mp q.1; omega), if_neg (fun q => by have := (hk 112).mp q.1; omega), if_neg (fun q => by have := (hk 114).mp q; omega), if_pos ((hk 108).mpr c)]
     rw [q70_0] at q100_0
     exact ⟨q100_0, by omega, q100_2, rfl, rfl, rfl, rfl, rfl, rfl, rfl, rfl, rfl, q70_3, q70_4, rfl⟩)
  | (have c : tk he0 = 116 := by omega
     rw [if_neg (fun q => by have := (hk 114).mp q; omega), if_neg (fun q => by have := (hk 108).mp q; omega), if_pos ((hk 116).mpr c), f0 114 _ (by omega), f0 108 _ (by omega), f1 116 _ c]
     unfold itu itn itw itr
     rw [if_neg (fun q => by have := (hk 112).mp q.1; omega), if_neg (fun q => by have := (hk 112).mp q.1; omega), if_neg (fun q => by have := (hk 112).mp q.1; omega), if_neg (fun q => by have := (hk 114).mp q; omega), if_neg (fun q => by have := (hk 108).mp q; omega), if_pos ((hk 116).mpr c)]
     rw [q78_0] at q100_0
     exact ⟨q100_0, by omega, q100_2, rfl, rfl, rfl, rfl, rfl, rfl, rfl, rfl, rfl, rfl, rfl, q78_3⟩)
  | (have c : tk he0 = 112 := by omega
     rw [if_neg (fun q => by have := (hk 114).mp q; omega), if_neg (fun q => by have := (hk 108).mp q; omega), if_neg (fun q => by have := (hk 116).mp q; omega), if_pos ((hk 112).mpr c), f0 114 _ (by omega), f0 108 _ (by omega), f0 116 _ (by omega)]
     generalize (if du < 6 then (0 : Int) else 1) = gg at q86_0 ⊢
     unfold itr
     rw [if_neg (fun q => by have := (hk 114).mp q; omega), if_neg (fun q => by have := (hk 108).mp q; omega), if_neg (fun q => by have := (hk 116).mp q; omega)]
     rw [q86_0] at q100_0
     exact ⟨q100_0, by omega, q100_2, rfl, rfl, rfl, q86_3, q86_4, q86_5, rfl, rfl, rfl, rfl, rfl, rfl⟩)
  | (rw [if_neg (fun q => by have := (hk 114).mp q; omega), if_neg (fun q => by have := (hk 108).mp q; omega), if_neg (fun q => by have := (hk 116).mp q; omega), if_neg (fun q => by have := (hk 112).mp q; omega), f0 114 _ (by omega), f0 108 _ (by omega), f0 116 _ (by omega)]
     unfold itu itn itw itr
     rw [if_neg (fun q => by have := (hk 112).mp q.1; omega), if_neg (fun q => by have := (hk 112).mp q.1; omega), if_neg (fun q => by have := (hk 112).mp q.1; omega), if_neg (fun q => by have := (hk 114).mp q; omega), if_neg (fun q => by have := (hk 108).mp q; omega), if_neg (fun q => by have := (hk 116).mp q; omega)]
     exact ⟨q100_0, by omega, q100_2, rfl, rfl, rfl, rfl, rfl, rfl, rfl, rfl, rfl, rfl, rfl, rfl⟩)
set_option maxHeartbeats 4000000 in
set_option maxRecDepth 100000 in
theorem k_X5_readInto (l : Launch) (g : va_G) (ca : Nat → ClassId) (hd : Nat) (hdt : Nat) (hdk : Nat) (hds : Nat) (hdv : Nat) (n : Int) (he0 : Int) (fa : Int) (sr : Int) (sl : Int) (st0 : Int) (t : Int → Int) (tk : Int → Int) (sv : Int → Int) (va : Int → Int) (hL : Nat) (hw : Nat) (he : Nat) (hdn : Nat) (hdw : Nat) (du : Int) (hv : Int) (mo : Int) (oft : Int) (la : Int) (pA : Int) (pB : Int) (dn : Int → Int) (dw : Int → Int) (w : Int → Int) (ea : Int → Int) (hT : TXok t n) : zI (S := Int × Int × Int × Int × Int × (Int → Int) × (Int → Int) × (Int → Int) × Int × Int × Int × Int × Int × Int × Int × (Int → Int) × (Int → Int) × (Int → Int) × (Int → Int)) l yX5_readInto wsX5_readInto ({ frames := 4, cells := 0, slots := 0, locals := 89 } : Room) g ca [.ref hd, .ref hL] [(hd, oB 5 [.ref hdt, .ref hdk, .ref hds, .ref hdv, vI n, vI he0, vI fa, vI sr, vI sl, vI st0]), (hdt, aI ca 200 t), (hdk, aI ca 201 tk), (hds, aI ca 201 sv), (hdv, aI ca 201 va), (hL, oB 2 [.ref hw, .ref he, .ref hdn, .ref hdw, vI du, vI hv, vI mo, vI oft, vI la, vI pA, vI pB]), (hw, aI ca 5 w), (he, aI ca 5 ea), (hdn, aI ca 6 dn), (hdw, aI ca 6 dw)] (fun (z : Int) (u : Int × Int × Int × Int × Int × (Int → Int) × (Int → Int) × (Int → Int) × Int × Int × Int × Int × Int × Int × Int × (Int → Int) × (Int → Int) × (Int → Int) × (Int → Int)) => z = (PF t n 201 (skp t n 0) 0 0 0 0 rd0 0 dn dw).1 ∧ (0 ≤ z → (PF t n 201 (skp t n 0) 0 0 0 0 rd0 0 dn dw).2 = (rdf u.2.2.2.2.2.2.2.2.2.1 u.2.2.2.2.2.2.2.2.2.2.1 u.2.2.2.2.2.2.2.2.2.2.2.1 u.2.2.2.2.2.2.2.2.2.2.2.2.2.1 u.2.2.2.2.2.2.2.2.2.2.2.2.2.2.1 u.2.2.2.2.2.2.2.2.2.2.2.2.1, u.2.2.2.2.2.2.2.2.1, u.2.2.2.2.2.2.2.2.2.2.2.2.2.2.2.2.2.1, u.2.2.2.2.2.2.2.2.2.2.2.2.2.2.2.2.2.2) ∧ u.2.2.2.2.2.2.2.2.2.2.2.2.2.2.2.1 = wf u.2.2.2.2.2.2.2.2.2.1 u.2.2.2.2.2.2.2.2.2.2.2.2.2.1 u.2.2.2.2.2.2.2.2.2.2.2.2.2.2.1 ∧ u.2.2.2.2.2.2.2.2.2.2.2.2.2.2.2.2.1 = ef u.2.2.2.2.2.2.2.2.2.2.2.1 u.2.2.2.2.2.2.2.2.2.2.2.2.1 ∧ LAWok u.2.2.2.2.2.2.2.2.2.1 u.2.2.2.2.2.2.2.2.2.2.1 u.2.2.2.2.2.2.2.2.2.2.2.1 u.2.2.2.2.2.2.2.2.2.2.2.2.1 u.2.2.2.2.2.2.2.2.2.2.2.2.2.1 u.2.2.2.2.2.2.2.2.2.2.2.2.2.2.1 ∧ DUok u.2.2.2.2.2.2.2.2.2.2.2.2.2.2.2.2.2.1 u.2.2.2.2.2.2.2.2.2.2.2.2.2.2.2.2.2.2 u.2.2.2.2.2.2.2.2.1) ∧ (u.2.2.1 = 0 ∨ u.2.2.1 = 1) ∧ (u.2.2.2.1 = 0 ∨ u.2.2.2.1 = 1) ∧ (u.2.2.2.2.1 = 0 ∨ u.2.2.2.2.1 = 1)) (fun (u : Int × Int × Int × Int × Int × (Int → Int) × (Int → Int) × (Int → Int) × Int × Int × Int × Int × Int × Int × Int × (Int → Int) × (Int → Int) × (Int → Int) × (Int → Int)) => [(hd, oB 5 [.ref hdt, .ref hdk, .ref hds, .ref hdv, vI n, vI u.1, vI u.2.1, vI u.2.2.1, vI u.2.2.2.1, vI u.2.2.2.2.1]), (hdt, aI ca 200 t), (hdk, aI ca 201 u.2.2.2.2.2.1), (hds, aI ca 201 u.2.2.2.2.2.2.1), (hdv, aI ca 201 u.2.2.2.2.2.2.2.1), (hL, oB 2 [.ref hw, .ref he, .ref hdn, .ref hdw, vI u.2.2.2.2.2.2.2.2.1, vI u.2.2.2.2.2.2.2.2.2.1, vI u.2.2.2.2.2.2.2.2.2.2.1, vI u.2.2.2.2.2.2.2.2.2.2.2.1, vI u.2.2.2.2.2.2.2.2.2.2.2.2.1, vI u.2.2.2.2.2.2.2.2.2.2.2.2.2.1, vI u.2.2.2.2.2.2.2.2.2.2.2.2.2.2.1]), (hw, aI ca 5 u.2.2.2.2.2.2.2.2.2.2.2.2.2.2.2.1), (he, aI ca 5 u.2.2.2.2.2.2.2.2.2.2.2.2.2.2.2.2.1), (hdn, aI ca 6 u.2.2.2.2.2.2.2.2.2.2.2.2.2.2.2.2.2.1), (hdw, aI ca 6 u.2.2.2.2.2.2.2.2.2.2.2.2.2.2.2.2.2.2)]) 0 0 := by
  refine zm_I (cc := cX5_readInto) (maxL := 3) (ret := some .int) (by decide) rfl (Nat.le_of_ble_eq_true rfl) ?_
  intro p e s m below meth c A ls R args Q hR hargs hQ hx hb hml hr hts hown hlk hnm hK hP hD hA hS hl
  have hown : s.vm.findClass RX5 = some m.cls := hown
  have hl : lv_has ls 3 [(0, .ref hd), (1, .ref hL)] := hl
  have lk_f36 : (Cond.fieldLink RX5 36 "DripRings$Reader" "here" "I").before args s = true := hts _ (by decide +kernel)
  have inF_X5 : ∀ w ∈ wsX50, w ∈ wsX5_readInto := by decide +kernel
  have lk_f39 : (Cond.fieldLink RX5 39 "DripRings$Reader" "hadR" "Z").before args s = true := hts _ (by decide +kernel)
  have lk_f43 : (Cond.fieldLink RX5 43 "DripRings$Reader" "hadL" "Z").before args s = true := hts _ (by decide +kernel)
  have lk_f46 : (Cond.fieldLink RX5 46 "DripRings$Reader" "hadT" "Z").before args s = true := hts _ (by decide +kernel)
  have lk_f15 : (Cond.fieldLink RX5 15 "DripRings$Reader" "tokens" "[I").before args s = true := hts _ (by decide +kernel)
  have lk_f53 : (Cond.fieldLink RX5 53 "DripRings$Reader" "faulty" "Z").before args s = true := hts _ (by decide +kernel)
  have lk_f18 : (Cond.fieldLink RX5 18 "DripRings$Reader" "starts" "[I").before args s = true := hts _ (by decide +kernel)
  have hn := hT.1
  refine lv_aload_n hx hb dX5_readInto_0 rfl (lv_at hl 0 rfl) ?_
  refine zc_VV (As := []) (rest := []) (wc := [(hd, oB 5 [.ref hdt, .ref hdk, .ref hds, .ref hdv, vI n, vI he0, vI fa, vI sr, vI sl, vI st0]), (hdt, aI ca 200 t), (hdk, aI ca 201 tk), (hds, aI ca 201 sv), (hdv, aI ca 201 va)]) (wr := [(hL, oB 2 [.ref hw, .ref he, .ref hdn, .ref hdw, vI du, vI hv, vI mo, vI oft, vI la, vI pA, vI pB]), (hw, aI ca 5 w), (he, aI ca 5 ea), (hdn, aI ca 6 dn), (hdw, aI ca 6 dw)]) (k_X5_cut l g ca hd hdt hdk hds hdv n he0 fa sr sl st0 t tk sv va (by first | assumption | omega)) dX5_readInto_1 (cwV 0 hts gX5_readInto_X5_cut rfl rfl rfl (by decide +kernel) (by rw [hR]; exact ⟨Nat.le_of_ble_eq_true rfl, Nat.le_of_ble_eq_true rfl⟩)) ⟨hx, hb, hml, hown, hts⟩ hl.1 hK hP hD hS hA 0 rfl rfl rfl [0, 1, 2, 3, 4] [5, 6, 7, 8, 9] rfl (by decide) rfl (by decide) (by decide) rfl rfl (Nat.le_of_ble_eq_true rfl) (by rw [hR]; exact ⟨Nat.le_of_ble_eq_true rfl, Nat.le_of_ble_eq_true rfl⟩) (fun u H locs q1 hP hD hS => ?_)
  obtain ⟨tk1_1, sv1_1, va1_1⟩ := u
  have q1 : ∃ m9 : Int, TOK t n tk1_1 sv1_1 va1_1 m9 := q1
  have hP : va_P g vwCl [(hd, oB 5 [.ref hdt, .ref hdk, .ref hds, .ref hdv, vI n, vI he0, vI fa, vI sr, vI sl, vI st0]), (hdt, aI ca 200 t), (hdk, aI ca 201 tk1_1), (hds, aI ca 201 sv1_1), (hdv, aI ca 201 va1_1), (hL, oB 2 [.ref hw, .ref he, .ref hdn, .ref hdw, vI du, vI hv, vI mo, vI oft, vI la, vI pA, vI pB]), (hw, aI ca 5 w), (he, aI ca 5 ea), (hdn, aI ca 6 dn), (hdw, aI ca 6 dw)] H := hP.sub [5, 6, 7, 8, 9, 0, 1, 2, 3, 4] rfl
  have hD : va_D A [(hd, oB 5 [.ref hdt, .ref hdk, .ref hds, .ref hdv, vI n, vI he0, vI fa, vI sr, vI sl, vI st0]), (hdt, aI ca 200 t), (hdk, aI ca 201 tk1_1), (hds, aI ca 201 sv1_1), (hdv, aI ca 201 va1_1), (hL, oB 2 [.ref hw, .ref he, .ref hdn, .ref hdw, vI du, vI hv, vI mo, vI oft, vI la, vI pA, vI pB]), (hw, aI ca 5 w), (he, aI ca 5 ea), (hdn, aI ca 6 dn), (hdw, aI ca 6 dw)] := hD.sub [5, 6, 7, 8, 9, 0, 1, 2, 3, 4] (by decide) rfl
  obtain ⟨mm, hTK⟩ := q1
  have hmm := hTK.1
  refine lv_aload_n hx hb dX5_readInto_4 rfl (lv_at hl 1 rfl) ?_
  refine zc_VV (As := []) (rest := []) (wc := [(hL, oB 2 [.ref hw, .ref he, .ref hdn, .ref hdw, vI du, vI hv, vI mo, vI oft, vI la, vI pA, vI pB])]) (wr := [(hd, oB 5 [.ref hdt, .ref hdk, .ref hds, .ref hdv, vI n, vI he0, vI fa, vI sr, vI sl, vI st0]), (hdt, aI ca 200 t), (hdk, aI ca 201 tk1_1), (hds, aI ca 201 sv1_1), (hdv, aI ca 201 va1_1), (hw, aI ca 5 w), (he, aI ca 5 ea), (hdn, aI ca 6 dn), (hdw, aI ca 6 dw)]) (k_X2_becomeAsAtFirst l g ca hL hw he hdn hdw du hv mo oft la pA pB ) dX5_readInto_5 (cwV 0 hts gX5_readInto_X2_becomeAsAtFirst rfl rfl rfl (by decide +kernel) (by rw [hR]; exact ⟨Nat.le_of_ble_eq_true rfl, Nat.le_of_ble_eq_true rfl⟩)) ⟨hx, hb, hml, hown, hts⟩ hl.1 hK hP hD hS hA 5 rfl rfl rfl [5] [0, 1, 2, 3, 4, 6, 7, 8, 9] rfl (by decide) rfl (by decide) (by decide) rfl rfl (Nat.le_of_ble_eq_true rfl) (by rw [hR]; exact ⟨Nat.le_of_ble_eq_true rfl, Nat.le_of_ble_eq_true rfl⟩) (fun u H locs q5 hP hD hS => ?_)
  have hP : va_P g vwCl [(hd, oB 5 [.ref hdt, .ref hdk, .ref hds, .ref hdv, vI n, vI he0, vI fa, vI sr, vI sl, vI st0]), (hdt, aI ca 200 t), (hdk, aI ca 201 tk1_1), (hds, aI ca 201 sv1_1), (hdv, aI ca 201 va1_1), (hL, oB 2 [.ref hw, .ref he, .ref hdn, .ref hdw, vI 0, vI 81, vI 8, vI 9, vI 0, vI 1, vI 3]), (hw, aI ca 5 w), (he, aI ca 5 ea), (hdn, aI ca 6 dn), (hdw, aI ca 6 dw)] H := hP.sub [0, 1, 2, 3, 4, 9, 5, 6, 7, 8] rfl
  have hD : va_D A [(hd, oB 5 [.ref hdt, .ref hdk, .ref hds, .ref hdv, vI n, vI he0, vI fa, vI sr, vI sl, vI st0]), (hdt, aI ca 200 t), (hdk, aI ca 201 tk1_1), (hds, aI ca 201 sv1_1), (hdv, aI ca 201 va1_1), (hL, oB 2 [.ref hw, .ref he, .ref hdn, .ref hdw, vI 0, vI 81, vI 8, vI 9, vI 0, vI 1, vI 3]), (hw, aI ca 5 w), (he, aI ca 5 ea), (hdn, aI ca 6 dn), (hdw, aI ca 6 dw)] := hD.sub [0, 1, 2, 3, 4, 9, 5, 6, 7, 8] (by decide) rfl
  refine lv_aload_n hx hb dX5_readInto_8 rfl (lv_at hl 0 rfl) ?_
  refine lv_iconst (v := Int32.ofInt 0) hx hb dX5_readInto_9 rfl ?_
  refine va_put (D := g) (ci := 5) (v := vI 0) (ty := .int) (C := RX5) (T := TX5) (N := 10) hx hb hts inF_X5 tyX5 tyX5_ok nmX5 hown hK.1 hP hD hS 0 rfl rfl 5 (by decide) lk_f36 (fun _ h9 => h9) rfl (by decide +kernel) rfl rfl (Nat.le_of_ble_eq_true rfl) dX5_readInto_10 (fun H locs hP hD hS => ?_)
  have hP : va_P g vwCl [(hd, oB 5 [.ref hdt, .ref hdk, .ref hds, .ref hdv, vI n, vI 0, vI fa, vI sr, vI sl, vI st0]), (hdt, aI ca 200 t), (hdk, aI ca 201 tk1_1), (hds, aI ca 201 sv1_1), (hdv, aI ca 201 va1_1), (hL, oB 2 [.ref hw, .ref he, .ref hdn, .ref hdw, vI 0, vI 81, vI 8, vI 9, vI 0, vI 1, vI 3]), (hw, aI ca 5 w), (he, aI ca 5 ea), (hdn, aI ca 6 dn), (hdw, aI ca 6 dw)] H := hP
  have hD : va_D A [(hd, oB 5 [.ref hdt, .ref hdk, .ref hds, .ref hdv, vI n, vI 0, vI fa, vI sr, vI sl, vI st0]), (hdt, aI ca 200 t), (hdk, aI ca 201 tk1_1), (hds, aI ca 201 sv1_1), (hdv, aI ca 201 va1_1), (hL, oB 2 [.ref hw, .ref he, .ref hdn, .ref hdw, vI 0, vI 81, vI 8, vI 9, vI 0, vI 1, vI 3]), (hw, aI ca 5 w), (he, aI ca 5 ea), (hdn, aI ca 6 dn), (hdw, aI ca 6 dw)] := hD
  refine lv_aload_n hx hb dX5_readInto_13 rfl (lv_at hl 0 rfl) ?_
  refine lv_iconst (v := Int32.ofInt 0) hx hb dX5_readInto_14 rfl ?_
  refine va_put (D := g) (ci := 5) (v := vI 0) (ty := .boolean) (C := RX5) (T := TX5) (N := 10) hx hb hts inF_X5 tyX5 tyX5_ok nmX5 hown hK.1 hP hD hS 0 rfl rfl 7 (by decide) lk_f39 (fun _ h9 => h9) rfl (by decide +kernel) (zb_nar (Or.inl rfl)) (zb_fit (Or.inl rfl)) (Nat.le_of_ble_eq_true rfl) dX5_readInto_15 (fun H locs hP hD hS => ?_)
  have hP : va_P g vwCl [(hd, oB 5 [.ref hdt, .ref hdk, .ref hds, .ref hdv, vI n, vI 0, vI fa, vI 0, vI sl, vI st0]), (hdt, aI ca 200 t), (hdk, aI ca 201 tk1_1), (hds, aI ca 201 sv1_1), (hdv, aI ca 201 va1_1), (hL, oB 2 [.ref hw, .ref he, .ref hdn, .ref hdw, vI 0, vI 81, vI 8, vI 9, vI 0, vI 1, vI 3]), (hw, aI ca 5 w), (he, aI ca 5 ea), (hdn, aI ca 6 dn), (hdw, aI ca 6 dw)] H := hP
  have hD : va_D A [(hd, oB 5 [.ref hdt, .ref hdk, .ref hds, .ref hdv, vI n, vI 0, vI fa, vI 0, vI sl, vI st0]), (hdt, aI ca 200 t), (hdk, aI ca 201 tk1_1), (hds, aI ca 201 sv1_1), (hdv, aI ca 201 va1_1), (hL, oB 2 [.ref hw, .ref he, .ref hdn, .ref hdw, vI 0, vI 81, vI 8, vI 9, vI 0, vI 1, vI 3]), (hw, aI ca 5 w), (he, aI ca 5 ea), (hdn, aI ca 6 dn), (hdw, aI ca 6 dw)] := hD
  refine lv_aload_n hx hb dX5_readInto_18 rfl (lv_at hl 0 rfl) ?_
  refine lv_iconst (v := Int32.ofInt 0) hx hb dX5_readInto_19 rfl ?_
  refine va_put (D := g) (ci := 5) (v := vI 0) (ty := .boolean) (C := RX5) (T := TX5) (N := 10) hx hb hts inF_X5 tyX5 tyX5_ok nmX5 hown hK.1 hP hD hS 0 rfl rfl 8 (by decide) lk_f43 (fun _ h9 => h9) rfl (by decide +kernel) (zb_nar (Or.inl rfl)) (zb_fit (Or.inl rfl)) (Nat.le_of_ble_eq_true rfl) dX5_readInto_20 (fun H locs hP hD hS => ?_)
  have hP : va_P g vwCl [(hd, oB 5 [.ref hdt, .ref hdk, .ref hds, .ref hdv, vI n, vI 0, vI fa, vI 0, vI 0, vI st0]), (hdt, aI ca 200 t), (hdk, aI ca 201 tk1_1), (hds, aI ca 201 sv1_1), (hdv, aI ca 201 va1_1), (hL, oB 2 [.ref hw, .ref he, .ref hdn, .ref hdw, vI 0, vI 81, vI 8, vI 9, vI 0, vI 1, vI 3]), (hw, aI ca 5 w), (he, aI ca 5 ea), (hdn, aI ca 6 dn), (hdw, aI ca 6 dw)] H := hP
  have hD : va_D A [(hd, oB 5 [.ref hdt, .ref hdk, .ref hds, .ref hdv, vI n, vI 0, vI fa, vI 0, vI 0, vI st0]), (hdt, aI ca 200 t), (hdk, aI ca 201 tk1_1), (hds, aI ca 201 sv1_1), (hdv, aI ca 201 va1_1), (hL, oB 2 [.ref hw, .ref he, .ref hdn, .ref hdw, vI 0, vI 81, vI 8, vI 9, vI 0, vI 1, vI 3]), (hw, aI ca 5 w), (he, aI ca 5 ea), (hdn, aI ca 6 dn), (hdw, aI ca 6 dw)] := hD
  refine lv_aload_n hx hb dX5_readInto_23 rfl (lv_at hl 0 rfl) ?_
  refine lv_iconst (v := Int32.ofInt 0) hx hb dX5_readInto_24 rfl ?_
  refine va_put (D := g) (ci := 5) (v := vI 0) (ty := .boolean) (C := RX5) (T := TX5) (N := 10) hx hb hts inF_X5 tyX5 tyX5_ok nmX5 hown hK.1 hP hD hS 0 rfl rfl 9 (by decide) lk_f46 (fun _ h9 => h9) rfl (by decide +kernel) (zb_nar (Or.inl rfl)) (zb_fit (Or.inl rfl)) (Nat.le_of_ble_eq_true rfl) dX5_readInto_25 (fun H locs hP hD hS => ?_)
  have hP : va_P g vwCl [(hd, oB 5 [.ref hdt, .ref hdk, .ref hds, .ref hdv, vI n, vI 0, vI fa, vI 0, vI 0, vI 0]), (hdt, aI ca 200 t), (hdk, aI ca 201 tk1_1), (hds, aI ca 201 sv1_1), (hdv, aI ca 201 va1_1), (hL, oB 2 [.ref hw, .ref he, .ref hdn, .ref hdw, vI 0, vI 81, vI 8, vI 9, vI 0, vI 1, vI 3]), (hw, aI ca 5 w), (he, aI ca 5 ea), (hdn, aI ca 6 dn), (hdw, aI ca 6 dw)] H := hP
  have hD : va_D A [(hd, oB 5 [.ref hdt, .ref hdk, .ref hds, .ref hdv, vI n, vI 0, vI fa, vI 0, vI 0, vI 0]), (hdt, aI ca 200 t), (hdk, aI ca 201 tk1_1), (hds, aI ca 201 sv1_1), (hdv, aI ca 201 va1_1), (hL, oB 2 [.ref hw, .ref he, .ref hdn, .ref hdw, vI 0, vI 81, vI 8, vI 9, vI 0, vI 1, vI 3]), (hw, aI ca 5 w), (he, aI ca 5 ea), (hdn, aI ca 6 dn), (hdw, aI ca 6 dw)] := hD
  refine lv_iconst (v := Int32.ofInt 0) hx hb dX5_readInto_28 rfl ?_
  refine lv_istore_n (lv' := [(2, vI 0), (0, .ref hd), (1, .ref hL)]) hx hb dX5_readInto_29 rfl hl (by decide) rfl (fun ls hl => ?_)
  have L30 : ∀ (N30 : Nat) (it : Int) (he2 : Int) (fa2 : Int) (sr2 : Int) (sl2 : Int) (st2 : Int) (du2 : Int) (hv2 : Int) (mo2 : Int) (oft2 : Int) (la2 : Int) (pA2 : Int) (pB2 : Int) (dn2 : Int → Int) (dw2 : Int → Int) (k : Nat) (hhe : 0 ≤ he2 ∧ he2 ≤ mm) (hit : 0 ≤ it ∧ it ≤ sv1_1 he2) (hfl : (sr2 = 0 ∨ sr2 = 1) ∧ (sl2 = 0 ∨ sl2 = 1) ∧ (st2 = 0 ∨ st2 = 1)) (hk0 : n - sv1_1 he2 < k) (hPF : PF t n k (sv1_1 he2) it sr2 sl2 st2 (rdf hv2 mo2 oft2 pA2 pB2 la2) du2 dn2 dw2 = PF t n 201 (skp t n 0) 0 0 0 0 rd0 0 dn dw) (hRD : RDok (rdf hv2 mo2 oft2 pA2 pB2 la2)) (hDU : DUok dn2 dw2 du2) (hμ : k < N30) (H : Heap) (locs : List Loc) (hP : va_P g vwCl [(hd, oB 5 [.ref hdt, .ref hdk, .ref hds, .ref hdv, vI n, vI he2, vI fa2, vI sr2, vI sl2, vI st2]), (hdt, aI ca 200 t), (hdk, aI ca 201 tk1_1), (hds, aI ca 201 sv1_1), (hdv, aI ca 201 va1_1), (hL, oB 2 [.ref hw, .ref he, .ref hdn, .ref hdw, vI du2, vI hv2, vI mo2, vI oft2, vI la2, vI pA2, vI pB2]), (hw, aI ca 5 w), (he, aI ca 5 ea), (hdn, aI ca 6 dn2), (hdw, aI ca 6 dw2)] H) (hD : va_D A [(hd, oB 5 [.ref hdt, .ref hdk, .ref hds, .ref hdv, vI n, vI he2, vI fa2, vI sr2, vI sl2, vI st2]), (hdt, aI ca 200 t), (hdk, aI ca 201 tk1_1), (hds, aI ca 201 sv1_1), (hdv, aI ca 201 va1_1), (hL, oB 2 [.ref hw, .ref he, .ref hdn, .ref hdw, vI du2, vI hv2, vI mo2, vI oft2, vI la2, vI pA2, vI pB2]), (hw, aI ca 5 w), (he, aI ca 5 ea), (hdn, aI ca 6 dn2), (hdw, aI ca 6 dw2)]) (hS : va_S A s.heap H locs) (ls : Array Slot) (hl : lv_has ls 3 [(2, vI it), (0, .ref hd), (1, .ref hL)]), W p l e R s m args below meth c H locs 0 0 Q (F0 m 30 ls []) := by
    intro N30; induction N30 with
    | zero => intro it he2 fa2 sr2 sl2 st2 du2 hv2 mo2 oft2 la2 pA2 pB2 dn2 dw2 k hhe hit hfl hk0 hPF hRD hDU hμ; exact absurd hμ (Nat.not_lt_zero _)
    | succ N30 ih30 =>
      intro it he2 fa2 sr2 sl2 st2 du2 hv2 mo2 oft2 la2 pA2 pB2 dn2 dw2 k hhe hit hfl hk0 hPF hRD hDU hμ H locs hP hD hS ls hl
      have htr := TOK_rng hT hTK hhe.1 hhe.2
      have htk := (hTK.2.1 he2 hhe.1 hhe.2)
      refine lv_iload_n hx hb dX5_readInto_30 rfl (lv_at hl 0 rfl) ?_
      refine lv_sipush (v := Int32.ofInt 200) hx hb dX5_readInto_31 (by decide) ?_
      refine ri_icmp_ge (tgt := 81) hx hb dX5_readInto_34 (by decide) ⟨by omega, by omega⟩ ⟨by omega, by omega⟩ (fun c34 => ?_) (fun c34 => ?_)
      · skip
        refine lv_aload_n hx hb dX5_readInto_81 rfl (lv_at hl 2 rfl) ?_
        refine zc_VV (As := []) (rest := []) (wc := [(hL, oB 2 [.ref hw, .ref he, .ref hdn, .ref hdw, vI du2, vI hv2, vI mo2, vI oft2, vI la2, vI pA2, vI pB2]), (hw, aI ca 5 w), (he, aI ca 5 ea)]) (wr := [(hd, oB 5 [.ref hdt, .ref hdk, .ref hds, .ref hdv, vI n, vI he2, vI fa2, vI sr2, vI sl2, vI st2]), (hdt, aI ca 200 t), (hdk, aI ca 201 tk1_1), (hds, aI ca 201 sv1_1), (hdv, aI ca 201 va1_1), (hdn, aI ca 6 dn2), (hdw, aI ca 6 dw2)]) (k_X2_workOut l g ca hL hw he hdn hdw du2 hv2 mo2 oft2 la2 pA2 pB2 w ea (by exact hRD)) dX5_readInto_82 (cwV 0 hts gX5_readInto_X2_workOut rfl rfl rfl (by decide +kernel) (by rw [hR]; exact ⟨Nat.le_of_ble_eq_true rfl, Nat.le_of_ble_eq_true rfl⟩)) ⟨hx, hb, hml, hown, hts⟩ hl.1 hK hP hD hS hA 5 rfl rfl rfl [5, 6, 7] [0, 1, 2, 3, 4, 8, 9] rfl (by decide) rfl (by decide) (by decide) rfl rfl (Nat.le_of_ble_eq_true rfl) (by rw [hR]; exact ⟨Nat.le_of_ble_eq_true rfl, Nat.le_of_ble_eq_true rfl⟩) (fun u H locs q82 hP hD hS => ?_)
        have hP : va_P g vwCl [(hd, oB 5 [.ref hdt, .ref hdk, .ref hds, .ref hdv, vI n, vI he2, vI fa2, vI sr2, vI sl2, vI st2]), (hdt, aI ca 200 t), (hdk, aI ca 201 tk1_1), (hds, aI ca 201 sv1_1), (hdv, aI ca 201 va1_1), (hL, oB 2 [.ref hw, .ref he, .ref hdn, .ref hdw, vI du2, vI hv2, vI mo2, vI oft2, vI la2, vI pA2, vI pB2]), (hw, aI ca 5 (wf hv2 pA2 pB2)), (he, aI ca 5 (ef oft2 la2)), (hdn, aI ca 6 dn2), (hdw, aI ca 6 dw2)] H := hP.sub [0, 1, 2, 3, 4, 7, 8, 9, 5, 6] rfl
        have hD : va_D A [(hd, oB 5 [.ref hdt, .ref hdk, .ref hds, .ref hdv, vI n, vI he2, vI fa2, vI sr2, vI sl2, vI st2]), (hdt, aI ca 200 t), (hdk, aI ca 201 tk1_1), (hds, aI ca 201 sv1_1), (hdv, aI ca 201 va1_1), (hL, oB 2 [.ref hw, .ref he, .ref hdn, .ref hdw, vI du2, vI hv2, vI mo2, vI oft2, vI la2, vI pA2, vI pB2]), (hw, aI ca 5 (wf hv2 pA2 pB2)), (he, aI ca 5 (ef oft2 la2)), (hdn, aI ca 6 dn2), (hdw, aI ca 6 dw2)] := hD.sub [0, 1, 2, 3, 4, 7, 8, 9, 5, 6] (by decide) rfl
        refine lv_iload_n hx hb dX5_readInto_85 rfl (lv_at hl 0 rfl) ?_
        refine zr_I hx hb hr hlk hQ (he2, fa2, sr2, sl2, st2, tk1_1, sv1_1, va1_1, du2, hv2, mo2, oft2, la2, pA2, pB2, wf hv2 pA2 pB2, ef oft2 la2, dn2, dw2) hP hD hS dX5_readInto_86 (Nat.le_of_ble_eq_true rfl) (Nat.le_of_ble_eq_true rfl) ?_
        show it = (PF t n 201 (skp t n 0) 0 0 0 0 rd0 0 dn dw).1 ∧ (0 ≤ it → (PF t n 201 (skp t n 0) 0 0 0 0 rd0 0 dn dw).2 = (rdf hv2 mo2 oft2 pA2 pB2 la2, du2, dn2, dw2) ∧ (wf hv2 pA2 pB2) = wf hv2 pA2 pB2 ∧ (ef oft2 la2) = ef oft2 la2 ∧ LAWok hv2 mo2 oft2 la2 pA2 pB2 ∧ DUok dn2 dw2 du2) ∧ (sr2 = 0 ∨ sr2 = 1) ∧ (sl2 = 0 ∨ sl2 = 1) ∧ (st2 = 0 ∨ st2 = 1)
        have hkd86 : kd t n (sv1_1 he2) = -1 := by
          first | (rw [← htk.2.2.1]; omega) | exact kd_end (by omega)
        rw [PF_e hkd86] at hPF
        rw [← hPF]
        exact ⟨rfl, fun _ => ⟨rfl, rfl, rfl, hRD, hDU⟩, hfl⟩
      · skip
        refine lv_aload_n hx hb dX5_readInto_37 rfl (lv_at hl 1 rfl) ?_
        refine va_get (D := g) (ci := 5) (v := .ref hdk) (C := RX5) (T := TX5) (N := 10) hx hb hts inF_X5 hown hK.1 hP 0 rfl rfl 1 (by decide) lk_f15 (fun _ h9 => h9) rfl dX5_readInto_38 ?_
        refine lv_aload_n hx hb dX5_readInto_41 rfl (lv_at hl 1 rfl) ?_
        refine va_get (D := g) (ci := 5) (v := vI he2) (C := RX5) (T := TX5) (N := 10) hx hb hts inF_X5 hown hK.1 hP 0 rfl rfl 5 (by decide) lk_f36 (fun _ h9 => h9) rfl dX5_readInto_42 ?_
        refine ra_ild hx hb hK hP 2 rfl dX5_readInto_45 ⟨by omega, by omega⟩ (by omega) ?_
        refine lv_iconst (v := Int32.ofInt (-1)) hx hb dX5_readInto_46 rfl ?_
        refine ri_icmp_eq (tgt := 81) hx hb dX5_readInto_47 (by decide) ⟨by omega, by omega⟩ ⟨by omega, by omega⟩ (fun c47 => ?_) (fun c47 => ?_)
        · skip
          refine lv_aload_n hx hb dX5_readInto_81 rfl (lv_at hl 2 rfl) ?_
          refine zc_VV (As := []) (rest := []) (wc := [(hL, oB 2 [.ref hw, .ref he, .ref hdn, .ref hdw, vI du2, vI hv2, vI mo2, vI oft2, vI la2, vI pA2, vI pB2]), (hw, aI ca 5 w), (he, aI ca 5 ea)]) (wr := [(hd, oB 5 [.ref hdt, .ref hdk, .ref hds, .ref hdv, vI n, vI he2, vI fa2, vI sr2, vI sl2, vI st2]), (hdt, aI ca 200 t), (hdk, aI ca 201 tk1_1), (hds, aI ca 201 sv1_1), (hdv, aI ca 201 va1_1), (hdn, aI ca 6 dn2), (hdw, aI ca 6 dw2)]) (k_X2_workOut l g ca hL hw he hdn hdw du2 hv2 mo2 oft2 la2 pA2 pB2 w ea (by exact hRD)) dX5_readInto_82 (cwV 0 hts gX5_readInto_X2_workOut rfl rfl rfl (by decide +kernel) (by rw [hR]; exact ⟨Nat.le_of_ble_eq_true rfl, Nat.le_of_ble_eq_true rfl⟩)) ⟨hx, hb, hml, hown, hts⟩ hl.1 hK hP hD hS hA 5 rfl rfl rfl [5, 6, 7] [0, 1, 2, 3, 4, 8, 9] rfl (by decide) rfl (by decide) (by decide) rfl rfl (Nat.le_of_ble_eq_true rfl) (by rw [hR]; exact ⟨Nat.le_of_ble_eq_true rfl, Nat.le_of_ble_eq_true rfl⟩) (fun u H locs q82 hP hD hS => ?_)
          have hP : va_P g vwCl [(hd, oB 5 [.ref hdt, .ref hdk, .ref hds, .ref hdv, vI n, vI he2, vI fa2, vI sr2, vI sl2, vI st2]), (hdt, aI ca 200 t), (hdk, aI ca 201 tk1_1), (hds, aI ca 201 sv1_1), (hdv, aI ca 201 va1_1), (hL, oB 2 [.ref hw, .ref he, .ref hdn, .ref hdw, vI du2, vI hv2, vI mo2, vI oft2, vI la2, vI pA2, vI pB2]), (hw, aI ca 5 (wf hv2 pA2 pB2)), (he, aI ca 5 (ef oft2 la2)), (hdn, aI ca 6 dn2), (hdw, aI ca 6 dw2)] H := hP.sub [0, 1, 2, 3, 4, 7, 8, 9, 5, 6] rfl
          have hD : va_D A [(hd, oB 5 [.ref hdt, .ref hdk, .ref hds, .ref hdv, vI n, vI he2, vI fa2, vI sr2, vI sl2, vI st2]), (hdt, aI ca 200 t), (hdk, aI ca 201 tk1_1), (hds, aI ca 201 sv1_1), (hdv, aI ca 201 va1_1), (hL, oB 2 [.ref hw, .ref he, .ref hdn, .ref hdw, vI du2, vI hv2, vI mo2, vI oft2, vI la2, vI pA2, vI pB2]), (hw, aI ca 5 (wf hv2 pA2 pB2)), (he, aI ca 5 (ef oft2 la2)), (hdn, aI ca 6 dn2), (hdw, aI ca 6 dw2)] := hD.sub [0, 1, 2, 3, 4, 7, 8, 9, 5, 6] (by decide) rfl
          refine lv_iload_n hx hb dX5_readInto_85 rfl (lv_at hl 0 rfl) ?_
          refine zr_I hx hb hr hlk hQ (he2, fa2, sr2, sl2, st2, tk1_1, sv1_1, va1_1, du2, hv2, mo2, oft2, la2, pA2, pB2, wf hv2 pA2 pB2, ef oft2 la2, dn2, dw2) hP hD hS dX5_readInto_86 (Nat.le_of_ble_eq_true rfl) (Nat.le_of_ble_eq_true rfl) ?_
          show it = (PF t n 201 (skp t n 0) 0 0 0 0 rd0 0 dn dw).1 ∧ (0 ≤ it → (PF t n 201 (skp t n 0) 0 0 0 0 rd0 0 dn dw).2 = (rdf hv2 mo2 oft2 pA2 pB2 la2, du2, dn2, dw2) ∧ (wf hv2 pA2 pB2) = wf hv2 pA2 pB2 ∧ (ef oft2 la2) = ef oft2 la2 ∧ LAWok hv2 mo2 oft2 la2 pA2 pB2 ∧ DUok dn2 dw2 du2) ∧ (sr2 = 0 ∨ sr2 = 1) ∧ (sl2 = 0 ∨ sl2 = 1) ∧ (st2 = 0 ∨ st2 = 1)
          have hkd86 : kd t n (sv1_1 he2) = -1 := by
            first | (rw [← htk.2.2.1]; omega) | exact kd_end (by omega)
          rw [PF_e hkd86] at hPF
          rw [← hPF]
          exact ⟨rfl, fun _ => ⟨rfl, rfl, rfl, hRD, hDU⟩, hfl⟩
        · skip
          refine lv_aload_n hx hb dX5_readInto_50 rfl (lv_at hl 1 rfl) ?_
          refine lv_aload_n hx hb dX5_readInto_51 rfl (lv_at hl 2 rfl) ?_
          have hkd52 : ¬ kd t n (sv1_1 he2) = -1 := by rw [← htk.2.2.1]; omega
          obtain ⟨k1, rfl⟩ : ∃ q, k = q + 1 := ⟨k - 1, by omega⟩
          refine zc_VV (As := [.ref hL]) (rest := []) (wc := [(hd, oB 5 [.ref hdt, .ref hdk, .ref hds, .ref hdv, vI n, vI he2, vI fa2, vI sr2, vI sl2, vI st2]), (hdk, aI ca 201 tk1_1), (hdv, aI ca 201 va1_1), (hL, oB 2 [.ref hw, .ref he, .ref hdn, .ref hdw, vI du2, vI hv2, vI mo2, vI oft2, vI la2, vI pA2, vI pB2]), (hdn, aI ca 6 dn2), (hdw, aI ca 6 dw2)]) (wr := [(hdt, aI ca 200 t), (hds, aI ca 201 sv1_1), (hw, aI ca 5 w), (he, aI ca 5 ea)]) (k_X5_readItem l g ca hd hdt hdk hds hdv n he2 fa2 sr2 sl2 st2 t tk1_1 sv1_1 va1_1 mm hL hw he hdn hdw du2 hv2 mo2 oft2 la2 pA2 pB2 dn2 dw2 (by first | assumption | omega) (by first | assumption | omega) (by first | assumption | omega) (by first | assumption | omega) (by exact hDU.1)) dX5_readInto_52 (cwV 1 hts gX5_readInto_X5_readItem rfl rfl rfl (by decide +kernel) (by rw [hR]; exact ⟨Nat.le_of_ble_eq_true rfl, Nat.le_of_ble_eq_true rfl⟩)) ⟨hx, hb, hml, hown, hts⟩ hl.1 hK hP hD hS hA 0 rfl rfl rfl [0, 2, 4, 5, 8, 9] [1, 3, 6, 7] rfl (by decide) rfl (by decide) (by decide) rfl rfl (Nat.le_of_ble_eq_true rfl) (by rw [hR]; exact ⟨Nat.le_of_ble_eq_true rfl, Nat.le_of_ble_eq_true rfl⟩) (fun u H locs q52 hP hD hS => ?_)
          obtain ⟨he1_52, fa1_52, sr1_52, sl1_52, st1_52, du1_52, hv1_52, mo1_52, oft1_52, la1_52, pA1_52, pB1_52, dn1_52, dw1_52⟩ := u
          have q52 : (fa1_52, sv1_1 he1_52) = itf t n (sv1_1 he2) sr2 sl2 st2 du2 ∧ (he2 ≤ he1_52 ∧ he1_52 ≤ mm) ∧ (fa1_52 = 0 ∨ fa1_52 = 1) ∧ sr1_52 = fl t n (sv1_1 he2) 114 sr2 ∧ sl1_52 = fl t n (sv1_1 he2) 108 sl2 ∧ st1_52 = fl t n (sv1_1 he2) 116 st2 ∧ du1_52 = itu t n (sv1_1 he2) du2 ∧ dn1_52 = itn t n (sv1_1 he2) du2 dn2 ∧ dw1_52 = itw t n (sv1_1 he2) du2 dw2 ∧ hv1_52 = itr t n (sv1_1 he2) sr2 sl2 st2 (rdf hv2 mo2 oft2 pA2 pB2 la2) 0 ∧ mo1_52 = itr t n (sv1_1 he2) sr2 sl2 st2 (rdf hv2 mo2 oft2 pA2 pB2 la2) 1 ∧ oft1_52 = itr t n (sv1_1 he2) sr2 sl2 st2 (rdf hv2 mo2 oft2 pA2 pB2 la2) 2 ∧ pA1_52 = itr t n (sv1_1 he2) sr2 sl2 st2 (rdf hv2 mo2 oft2 pA2 pB2 la2) 3 ∧ pB1_52 = itr t n (sv1_1 he2) sr2 sl2 st2 (rdf hv2 mo2 oft2 pA2 pB2 la2) 4 ∧ la1_52 = itr t n (sv1_1 he2) sr2 sl2 st2 (rdf hv2 mo2 oft2 pA2 pB2 la2) 5 := q52
          obtain ⟨q52_0, q52_1, q52_2, q52_3, q52_4, q52_5, q52_6, q52_7, q52_8, q52_9, q52_10, q52_11, q52_12, q52_13, q52_14⟩ := q52
          have hP : va_P g vwCl [(hd, oB 5 [.ref hdt, .ref hdk, .ref hds, .ref hdv, vI n, vI he1_52, vI fa1_52, vI sr1_52, vI sl1_52, vI st1_52]), (hdt, aI ca 200 t), (hdk, aI ca 201 tk1_1), (hds, aI ca 201 sv1_1), (hdv, aI ca 201 va1_1), (hL, oB 2 [.ref hw, .ref he, .ref hdn, .ref hdw, vI du1_52, vI hv1_52, vI mo1_52, vI oft1_52, vI la1_52, vI pA1_52, vI pB1_52]), (hw, aI ca 5 w), (he, aI ca 5 ea), (hdn, aI ca 6 dn1_52), (hdw, aI ca 6 dw1_52)] H := hP.sub [4, 0, 5, 1, 6, 7, 2, 3, 8, 9] rfl
          have hD : va_D A [(hd, oB 5 [.ref hdt, .ref hdk, .ref hds, .ref hdv, vI n, vI he1_52, vI fa1_52, vI sr1_52, vI sl1_52, vI st1_52]), (hdt, aI ca 200 t), (hdk, aI ca 201 tk1_1), (hds, aI ca 201 sv1_1), (hdv, aI ca 201 va1_1), (hL, oB 2 [.ref hw, .ref he, .ref hdn, .ref hdw, vI du1_52, vI hv1_52, vI mo1_52, vI oft1_52, vI la1_52, vI pA1_52, vI pB1_52]), (hw, aI ca 5 w), (he, aI ca 5 ea), (hdn, aI ca 6 dn1_52), (hdw, aI ca 6 dw1_52)] := hD.sub [4, 0, 5, 1, 6, 7, 2, 3, 8, 9] (by decide) rfl
          refine lv_aload_n hx hb dX5_readInto_55 rfl (lv_at hl 1 rfl) ?_
          refine va_get (D := g) (ci := 5) (v := vI fa1_52) (C := RX5) (T := TX5) (N := 10) hx hb hts inF_X5 hown hK.1 hP 0 rfl rfl 6 (by decide) lk_f53 (fun _ h9 => h9) rfl dX5_readInto_56 ?_
          have hf59 : (itf t n (sv1_1 he2) sr2 sl2 st2 du2).1 = fa1_52 := by rw [← q52_0]
          have hp59 : (itf t n (sv1_1 he2) sr2 sl2 st2 du2).2 = sv1_1 he1_52 := by rw [← q52_0]
          refine ri_if_eq (tgt := 75) hx hb dX5_readInto_59 (by decide) ⟨by omega, by omega⟩ (fun c59 => ?_) (fun c59 => ?_)
          · skip
            obtain ⟨z75, e75⟩ : ∃ q : Int, q = it + 1 := ⟨_, rfl⟩
            refine ri_inc (lv' := [(2, vI z75), (0, .ref hd), (1, .ref hL)]) hx hb dX5_readInto_75 hl (k := 0) rfl (by decide) z75 e75 rfl (fun ls hl => ?_)
            refine lv_goto (tgt := 30) hx hb dX5_readInto_78 (by decide) ?_
            have hpos0 : sv1_1 he2 + 1 ≤ sv1_1 he1_52 := by
              have hi := itf_pos (show (itf t n (sv1_1 he2) sr2 sl2 st2 du2).1 = 0 by omega)
              rw [hp59] at hi
              have hb := nx_bd t (kd_lt (show kd t n (itc t n (sv1_1 he2) sr2 sl2 st2 du2).2 ≠ -1 by omega))
              have hc := itc_ge t (kd_lt hkd52) sr2 sl2 st2 du2
              omega
            have hpos : 0 ≤ z75 ∧ z75 ≤ sv1_1 he1_52 := by omega
            have hpos2 : n - sv1_1 he1_52 < k1 := by omega
            exact ih30 z75 he1_52 fa1_52 sr1_52 sl1_52 st1_52 du1_52 hv1_52 mo1_52 oft1_52 la1_52 pA1_52 pB1_52 dn1_52 dw1_52 k1 (by first | assumption | omega) (by exact hpos) (by rw [q52_3, q52_4, q52_5]; unfold fl; refine ⟨?_, ?_, ?_⟩ <;> split <;> omega) (by exact hpos2) (by rw [← hPF, PF_s hkd52 (by omega), hp59, ← q52_3, ← q52_4, ← q52_5, ← q52_6, ← q52_7, ← q52_8, itr_rdf, ← q52_9, ← q52_10, ← q52_11, ← q52_12, ← q52_13, ← q52_14, e75]) (by rw [q52_9, q52_10, q52_11, q52_12, q52_13, q52_14, ← itr_rdf]; exact itr_ok (du := du2) hRD (by omega)) (by rw [q52_6, q52_7, q52_8]; exact itd_ok (sr := sr2) (sl := sl2) (st := st2) hDU (by omega)) (by omega) _ _ hP hD hS ls (lv_sub hl [0, 1, 2] rfl)
          · skip
            refine lv_bipush (v := Int32.ofInt (-10)) hx hb dX5_readInto_62 (by decide) ?_
            refine lv_aload_n hx hb dX5_readInto_64 rfl (lv_at hl 1 rfl) ?_
            have htr2 := TOK_rng hT hTK (show 0 ≤ he1_52 by omega) q52_1.2
            refine va_get (D := g) (ci := 5) (v := .ref hds) (C := RX5) (T := TX5) (N := 10) hx hb hts inF_X5 hown hK.1 hP 0 rfl rfl 2 (by decide) lk_f18 (fun _ h9 => h9) rfl dX5_readInto_65 ?_
            refine lv_aload_n hx hb dX5_readInto_68 rfl (lv_at hl 1 rfl) ?_
            refine va_get (D := g) (ci := 5) (v := vI he1_52) (C := RX5) (T := TX5) (N := 10) hx hb hts inF_X5 hown hK.1 hP 0 rfl rfl 5 (by decide) lk_f36 (fun _ h9 => h9) rfl dX5_readInto_69 ?_
            refine ra_ild hx hb hK hP 3 rfl dX5_readInto_72 ⟨by omega, by omega⟩ (by omega) ?_
            refine ri_sub hx hb dX5_readInto_73 (fun z73 e73 => ?_)
            refine zr_I hx hb hr hlk hQ (he1_52, fa1_52, sr1_52, sl1_52, st1_52, tk1_1, sv1_1, va1_1, du1_52, hv1_52, mo1_52, oft1_52, la1_52, pA1_52, pB1_52, w, ea, dn1_52, dw1_52) hP hD hS dX5_readInto_74 (Nat.le_of_ble_eq_true rfl) (Nat.le_of_ble_eq_true rfl) ?_
            show z73 = (PF t n 201 (skp t n 0) 0 0 0 0 rd0 0 dn dw).1 ∧ (0 ≤ z73 → (PF t n 201 (skp t n 0) 0 0 0 0 rd0 0 dn dw).2 = (rdf hv1_52 mo1_52 oft1_52 pA1_52 pB1_52 la1_52, du1_52, dn1_52, dw1_52) ∧ w = wf hv1_52 pA1_52 pB1_52 ∧ ea = ef oft1_52 la1_52 ∧ LAWok hv1_52 mo1_52 oft1_52 la1_52 pA1_52 pB1_52 ∧ DUok dn1_52 dw1_52 du1_52) ∧ (sr1_52 = 0 ∨ sr1_52 = 1) ∧ (sl1_52 = 0 ∨ sl1_52 = 1) ∧ (st1_52 = 0 ∨ st1_52 = 1)
            rw [PF_f hkd52 (by omega)] at hPF
            rw [← hPF]
            refine ⟨by show _ = -10 - _; rw [hp59]; omega, fun q => by omega, ?_⟩
            rw [q52_3, q52_4, q52_5]
            unfold fl
            refine ⟨?_, ?_, ?_⟩ <;> split <;> omega
  exact L30 _ 0 0 fa 0 0 0 0 81 8 9 0 1 3 dn dw 201 (by first | assumption | omega) (by have := (hTK.2.1 0 (by omega) (by omega)); omega) (by omega) (by have := (hTK.2.1 0 (by omega) (by omega)); omega) (by rw [hTK.2.2.2.2]; rfl) (by unfold RDok LAWok; decide) (by exact ⟨by omega, fun i h1 h2 => by omega⟩) (Nat.lt_succ_self _) _ _ hP hD hS ls (lv_sub hl [0, 1, 2] rfl)
