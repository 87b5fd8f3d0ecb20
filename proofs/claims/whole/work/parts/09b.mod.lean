set_option maxHeartbeats 4000000 in
set_option maxRecDepth 100000 in
theorem k_X8_in (l : Launch) (g : va_G) (ca : Nat → ClassId) (v : Int) (lo : Int) (hi : Int) (h1 : in64 v) (h2 : in64 lo) (h3 : in64 hi) : zI (S := Unit) l yX8_in wsX8_in ({ frames := 0, cells := 0, slots := 0, locals := 0 } : Room) g ca [vJ v, vJ lo, vJ hi] [] (fun (z : Int) (u : Unit) => (z = 1 ∧ lo ≤ v ∧ v ≤ hi) ∨ (z = 0 ∧ ¬ (lo ≤ v ∧ v ≤ hi))) (fun (u : Unit) => []) 0 0 := by
  refine zm_I (cc := cX8_in) (maxL := 6) (ret := some .boolean) (by decide) rfl (Nat.le_of_ble_eq_true rfl) ?_
  intro p e s m below meth c A ls R args Q hR hargs hQ hx hb hml hr hts hown hlk hnm hK hP hD hA hS hl
  have hown : s.vm.findClass RX8 = some m.cls := hown
  have hl : lv_has ls 6 [(0, vJ v), (2, vJ lo), (4, vJ hi)] := hl
  refine lv_lload_n hx hb dX8_in_0 rfl (lv_at hl 0 rfl) ?_
  refine lv_lload_n hx hb dX8_in_1 rfl (lv_at hl 1 rfl) ?_
  refine rj_cmp hx hb dX8_in_2 h1 h2 (fun z2 e2 => ?_)
  refine ri_if_lt (tgt := 17) hx hb dX8_in_3 (by decide) ⟨by omega, by omega⟩ (fun c3 => ?_) (fun c3 => ?_)
  · skip
    have c3 : v < lo := by omega
    clear e2
    refine lv_iconst (v := Int32.ofInt 0) hx hb dX8_in_17 rfl ?_
    refine zr_Z hx hb hr hlk hQ () hP hD hS dX8_in_18 (Nat.le_of_ble_eq_true rfl) (Nat.le_of_ble_eq_true rfl) (Or.inl rfl) ?_
    show (0 = 1 ∧ lo ≤ v ∧ v ≤ hi) ∨ (0 = 0 ∧ ¬ (lo ≤ v ∧ v ≤ hi))
    omega
  · skip
    have c3 : lo ≤ v := by omega
    clear e2
    refine lv_lload_n hx hb dX8_in_6 rfl (lv_at hl 0 rfl) ?_
    refine lv_lload hx hb dX8_in_7 (lv_at hl 2 rfl) ?_
    refine rj_cmp hx hb dX8_in_9 h1 h3 (fun z9 e9 => ?_)
    refine ri_if_gt (tgt := 17) hx hb dX8_in_10 (by decide) ⟨by omega, by omega⟩ (fun c10 => ?_) (fun c10 => ?_)
    · skip
      have c10 : hi < v := by omega
      clear e9
      refine lv_iconst (v := Int32.ofInt 0) hx hb dX8_in_17 rfl ?_
      refine zr_Z hx hb hr hlk hQ () hP hD hS dX8_in_18 (Nat.le_of_ble_eq_true rfl) (Nat.le_of_ble_eq_true rfl) (Or.inl rfl) ?_
      show (0 = 1 ∧ lo ≤ v ∧ v ≤ hi) ∨ (0 = 0 ∧ ¬ (lo ≤ v ∧ v ≤ hi))
      omega
    · skip
      have c10 : v ≤ hi := by omega
      clear e9
      refine lv_iconst (v := Int32.ofInt 1) hx hb dX8_in_13 rfl ?_
      refine lv_goto (tgt := 18) hx hb dX8_in_14 (by decide) ?_
      refine zr_Z hx hb hr hlk hQ () hP hD hS dX8_in_18 (Nat.le_of_ble_eq_true rfl) (Nat.le_of_ble_eq_true rfl) (Or.inr rfl) ?_
      show (1 = 1 ∧ lo ≤ v ∧ v ≤ hi) ∨ (1 = 0 ∧ ¬ (lo ≤ v ∧ v ≤ hi))
      omega
set_option maxHeartbeats 4000000 in
set_option maxRecDepth 100000 in
theorem k_X8_letterAt (l : Launch) (g : va_G) (ca : Nat → ClassId) (hm : Nat) (m0 : Nat) (m2 : Nat) (m3 : Nat) (m8 : Nat) (m9 : Nat) (m11 : Nat) (m12 : Nat) (m14 : Nat) (m19 : Nat) (m21 : Nat) (m22 : Nat) (m25 : Nat) (m26 : Nat) (un : Int) (mo : Int) (oft : Int) (la : Int) (du : Int) (to : Int) (tr : Int) (n : Int) (at0 : Int) (sa : Int) (vv : Int) (rdu : Int) (se : Int) (its : Int) (lt0 : Int) (t : Int → Int) (k0 : Int) (hT : TXok t n) (hk0 : 0 ≤ k0 ∧ k0 ≤ 1000) : zI (S := Unit) l yX8_letterAt wsX8_letterAt ({ frames := 0, cells := 0, slots := 0, locals := 0 } : Room) g ca [.ref hm, vI k0] [(hm, oB 8 [.ref m0, vI un, .ref m2, .ref m3, vI mo, vI oft, vI la, vI du, .ref m8, .ref m9, vI to, .ref m11, .ref m12, vJ tr, .ref m14, vI n, vI at0, vI sa, vI vv, .ref m19, vI rdu, .ref m21, .ref m22, vI se, vI its, .ref m25, .ref m26, vJ lt0]), (m14, aI ca 200 t)] (fun (z : Int) (u : Unit) => (k0 < n ∧ z = t k0) ∨ (¬ k0 < n ∧ z = -1)) (fun (u : Unit) => [(hm, oB 8 [.ref m0, vI un, .ref m2, .ref m3, vI mo, vI oft, vI la, vI du, .ref m8, .ref m9, vI to, .ref m11, .ref m12, vJ tr, .ref m14, vI n, vI at0, vI sa, vI vv, .ref m19, vI rdu, .ref m21, .ref m22, vI se, vI its, .ref m25, .ref m26, vJ lt0]), (m14, aI ca 200 t)]) 0 0 := by
  refine zm_I (cc := cX8_letterAt) (maxL := 2) (ret := some .int) (by decide) rfl (Nat.le_of_ble_eq_true rfl) ?_
  intro p e s m below meth c A ls R args Q hR hargs hQ hx hb hml hr hts hown hlk hnm hK hP hD hA hS hl
  have hown : s.vm.findClass RX8 = some m.cls := hown
  have hl : lv_has ls 2 [(0, .ref hm), (1, vI k0)] := hl
  have lk_f95 : (Cond.fieldLink RX8 95 "DripRingsModel" "texted" "I").before args s = true := hts _ (by decide +kernel)
  have inF_X8 : ∀ w ∈ wsX80, w ∈ wsX8_letterAt := by decide +kernel
  have lk_f33 : (Cond.fieldLink RX8 33 "DripRingsModel" "text" "[I").before args s = true := hts _ (by decide +kernel)
  have hn := hT.1
  refine lv_iload_n hx hb dX8_letterAt_0 rfl (lv_at hl 1 rfl) ?_
  refine lv_aload_n hx hb dX8_letterAt_1 rfl (lv_at hl 0 rfl) ?_
  refine va_get (D := g) (ci := 8) (v := vI n) (C := RX8) (T := TX8) (N := 28) hx hb hts inF_X8 hown hK.1 hP 0 rfl rfl 15 (by decide) lk_f95 (fun _ h9 => h9) rfl dX8_letterAt_2 ?_
  refine ri_icmp_ge (tgt := 17) hx hb dX8_letterAt_5 (by decide) ⟨by omega, by omega⟩ ⟨by omega, by omega⟩ (fun c5 => ?_) (fun c5 => ?_)
  · skip
    refine lv_iconst (v := Int32.ofInt (-1)) hx hb dX8_letterAt_17 rfl ?_
    refine zr_I hx hb hr hlk hQ () hP hD hS dX8_letterAt_18 (Nat.le_of_ble_eq_true rfl) (Nat.le_of_ble_eq_true rfl) ?_
    show (k0 < n ∧ (-1) = t k0) ∨ (¬ k0 < n ∧ (-1) = -1)
    omega
  · skip
    refine lv_aload_n hx hb dX8_letterAt_8 rfl (lv_at hl 0 rfl) ?_
    refine va_get (D := g) (ci := 8) (v := .ref m14) (C := RX8) (T := TX8) (N := 28) hx hb hts inF_X8 hown hK.1 hP 0 rfl rfl 14 (by decide) lk_f33 (fun _ h9 => h9) rfl dX8_letterAt_9 ?_
    refine lv_iload_n hx hb dX8_letterAt_12 rfl (lv_at hl 1 rfl) ?_
    refine ra_ild hx hb hK hP 1 rfl dX8_letterAt_13 ⟨by omega, by omega⟩ (by omega) ?_
    refine lv_goto (tgt := 18) hx hb dX8_letterAt_14 (by decide) ?_
    refine zr_I hx hb hr hlk hQ () hP hD hS dX8_letterAt_18 (Nat.le_of_ble_eq_true rfl) (Nat.le_of_ble_eq_true rfl) ?_
    show (k0 < n ∧ (t k0) = t k0) ∨ (¬ k0 < n ∧ (t k0) = -1)
    omega
set_option maxHeartbeats 4000000 in
set_option maxRecDepth 100000 in
theorem k_X8_blanks (l : Launch) (g : va_G) (ca : Nat → ClassId) (hm : Nat) (m0 : Nat) (m2 : Nat) (m3 : Nat) (m8 : Nat) (m9 : Nat) (m11 : Nat) (m12 : Nat) (m14 : Nat) (m19 : Nat) (m21 : Nat) (m22 : Nat) (m25 : Nat) (m26 : Nat) (un : Int) (mo : Int) (oft : Int) (la : Int) (du : Int) (to : Int) (tr : Int) (n : Int) (at0 : Int) (sa : Int) (vv : Int) (rdu : Int) (se : Int) (its : Int) (lt0 : Int) (t : Int → Int) (hT : TXok t n) (hat : 0 ≤ at0 ∧ at0 ≤ n) : zV (S := Int) l yX8_blanks wsX8_blanks ({ frames := 1, cells := 0, slots := 0, locals := 21 } : Room) g ca [.ref hm] [(hm, oB 8 [.ref m0, vI un, .ref m2, .ref m3, vI mo, vI oft, vI la, vI du, .ref m8, .ref m9, vI to, .ref m11, .ref m12, vJ tr, .ref m14, vI n, vI at0, vI sa, vI vv, .ref m19, vI rdu, .ref m21, .ref m22, vI se, vI its, .ref m25, .ref m26, vJ lt0]), (m14, aI ca 200 t)] (fun (u : Int) => u = skp t n at0) (fun (u : Int) => [(hm, oB 8 [.ref m0, vI un, .ref m2, .ref m3, vI mo, vI oft, vI la, vI du, .ref m8, .ref m9, vI to, .ref m11, .ref m12, vJ tr, .ref m14, vI n, vI u, vI u, vI vv, .ref m19, vI rdu, .ref m21, .ref m22, vI se, vI its, .ref m25, .ref m26, vJ lt0]), (m14, aI ca 200 t)]) 0 0 := by
  refine zm_V (cc := cX8_blanks) (maxL := 1) (ret := none) (by decide) rfl (Nat.le_of_ble_eq_true rfl) ?_
  intro p e s m below meth c A ls R args Q hR hargs hQ hx hb hml hr hts hown hlk hnm hK hP hD hA hS hl
  have hown : s.vm.findClass RX8 = some m.cls := hown
  have hl : lv_has ls 1 [(0, .ref hm)] := hl
  have lk_f98 : (Cond.fieldLink RX8 98 "DripRingsModel" "at" "I").before args s = true := hts _ (by decide +kernel)
  have inF_X8 : ∀ w ∈ wsX80, w ∈ wsX8_blanks := by decide +kernel
  have lk_f105 : (Cond.fieldLink RX8 105 "DripRingsModel" "start" "I").before args s = true := hts _ (by decide +kernel)
  have hn := hT.1
  have L0 : ∀ (N0 : Nat) (a : Int) (ha : 0 ≤ a ∧ a ≤ n) (hs0 : skp t n a = skp t n at0) (hμ : (n - a).toNat < N0) (H : Heap) (locs : List Loc) (hP : va_P g vwCl [(hm, oB 8 [.ref m0, vI un, .ref m2, .ref m3, vI mo, vI oft, vI la, vI du, .ref m8, .ref m9, vI to, .ref m11, .ref m12, vJ tr, .ref m14, vI n, vI a, vI sa, vI vv, .ref m19, vI rdu, .ref m21, .ref m22, vI se, vI its, .ref m25, .ref m26, vJ lt0]), (m14, aI ca 200 t)] H) (hD : va_D A [(hm, oB 8 [.ref m0, vI un, .ref m2, .ref m3, vI mo, vI oft, vI la, vI du, .ref m8, .ref m9, vI to, .ref m11, .ref m12, vJ tr, .ref m14, vI n, vI a, vI sa, vI vv, .ref m19, vI rdu, .ref m21, .ref m22, vI se, vI its, .ref m25, .ref m26, vJ lt0]), (m14, aI ca 200 t)]) (hS : va_S A s.heap H locs) (ls : Array Slot) (hl : lv_has ls 1 [(0, .ref hm)]), W p l e R s m args below meth c H locs 0 0 Q (F0 m 0 ls []) := by
    intro N0; induction N0 with
    | zero => intro a ha hs0 hμ; exact absurd hμ (Nat.not_lt_zero _)
    | succ N0 ih0 =>
      intro a ha hs0 hμ H locs hP hD hS ls hl
      refine lv_aload_n hx hb dX8_blanks_0 rfl (lv_at hl 0 rfl) ?_
      refine lv_aload_n hx hb dX8_blanks_1 rfl (lv_at hl 0 rfl) ?_
      refine va_get (D := g) (ci := 8) (v := vI a) (C := RX8) (T := TX8) (N := 28) hx hb hts inF_X8 hown hK.1 hP 0 rfl rfl 16 (by decide) lk_f98 (fun _ h9 => h9) rfl dX8_blanks_2 ?_
      refine zc_VI (As := [vI a]) (rest := []) (wc := [(hm, oB 8 [.ref m0, vI un, .ref m2, .ref m3, vI mo, vI oft, vI la, vI du, .ref m8, .ref m9, vI to, .ref m11, .ref m12, vJ tr, .ref m14, vI n, vI a, vI sa, vI vv, .ref m19, vI rdu, .ref m21, .ref m22, vI se, vI its, .ref m25, .ref m26, vJ lt0]), (m14, aI ca 200 t)]) (wr := []) (k_X8_letterAt l g ca hm m0 m2 m3 m8 m9 m11 m12 m14 m19 m21 m22 m25 m26 un mo oft la du to tr n a sa vv rdu se its lt0 t a (by first | assumption | omega) (by first | assumption | omega)) dX8_blanks_5 (cwV 1 hts gX8_blanks_X8_letterAt rfl rfl rfl (by decide +kernel) (by rw [hR]; exact ⟨Nat.le_of_ble_eq_true rfl, Nat.le_of_ble_eq_true rfl⟩)) ⟨hx, hb, hml, hown, hts⟩ hl.1 hK hP hD hS hA 0 rfl rfl rfl [0, 1] [] rfl (by decide) rfl (by decide) (by decide) rfl rfl (Nat.le_of_ble_eq_true rfl) (by rw [hR]; exact ⟨Nat.le_of_ble_eq_true rfl, Nat.le_of_ble_eq_true rfl⟩) (fun z5 u H locs q5 hP hD hS => ?_)
      have q5 : (a < n ∧ z5 = t a) ∨ (¬ a < n ∧ z5 = -1) := q5
      have hP : va_P g vwCl [(hm, oB 8 [.ref m0, vI un, .ref m2, .ref m3, vI mo, vI oft, vI la, vI du, .ref m8, .ref m9, vI to, .ref m11, .ref m12, vJ tr, .ref m14, vI n, vI a, vI sa, vI vv, .ref m19, vI rdu, .ref m21, .ref m22, vI se, vI its, .ref m25, .ref m26, vJ lt0]), (m14, aI ca 200 t)] H := hP.sub [0, 1] rfl
      have hD : va_D A [(hm, oB 8 [.ref m0, vI un, .ref m2, .ref m3, vI mo, vI oft, vI la, vI du, .ref m8, .ref m9, vI to, .ref m11, .ref m12, vJ tr, .ref m14, vI n, vI a, vI sa, vI vv, .ref m19, vI rdu, .ref m21, .ref m22, vI se, vI its, .ref m25, .ref m26, vJ lt0]), (m14, aI ca 200 t)] := hD.sub [0, 1] (by decide) rfl
      have hz5 : -1 ≤ z5 ∧ z5 ≤ 255 := by
        rcases q5 with q9 | q9
        · have := hT.2 a (by omega) q9.1; omega
        · omega
      refine lv_bipush (v := Int32.ofInt 32) hx hb dX8_blanks_8 (by decide) ?_
      refine ri_icmp_ne (tgt := 26) hx hb dX8_blanks_10 (by decide) ⟨by omega, by omega⟩ ⟨by omega, by omega⟩ (fun c10 => ?_) (fun c10 => ?_)
      · skip
        refine lv_aload_n hx hb dX8_blanks_26 rfl (lv_at hl 0 rfl) ?_
        refine lv_aload_n hx hb dX8_blanks_27 rfl (lv_at hl 0 rfl) ?_
        refine va_get (D := g) (ci := 8) (v := vI a) (C := RX8) (T := TX8) (N := 28) hx hb hts inF_X8 hown hK.1 hP 0 rfl rfl 16 (by decide) lk_f98 (fun _ h9 => h9) rfl dX8_blanks_28 ?_
        refine va_put (D := g) (ci := 8) (v := vI a) (ty := .int) (C := RX8) (T := TX8) (N := 28) hx hb hts inF_X8 tyX8 tyX8_ok nmX8 hown hK.1 hP hD hS 0 rfl rfl 17 (by decide) lk_f105 (fun _ h9 => h9) rfl (by decide +kernel) rfl rfl (Nat.le_of_ble_eq_true rfl) dX8_blanks_31 (fun H locs hP hD hS => ?_)
        have hP : va_P g vwCl [(hm, oB 8 [.ref m0, vI un, .ref m2, .ref m3, vI mo, vI oft, vI la, vI du, .ref m8, .ref m9, vI to, .ref m11, .ref m12, vJ tr, .ref m14, vI n, vI a, vI a, vI vv, .ref m19, vI rdu, .ref m21, .ref m22, vI se, vI its, .ref m25, .ref m26, vJ lt0]), (m14, aI ca 200 t)] H := hP
        have hD : va_D A [(hm, oB 8 [.ref m0, vI un, .ref m2, .ref m3, vI mo, vI oft, vI la, vI du, .ref m8, .ref m9, vI to, .ref m11, .ref m12, vJ tr, .ref m14, vI n, vI a, vI a, vI vv, .ref m19, vI rdu, .ref m21, .ref m22, vI se, vI its, .ref m25, .ref m26, vJ lt0]), (m14, aI ca 200 t)] := hD
        refine zr_V hx hb hr hlk hQ (a) hP hD hS dX8_blanks_34 (Nat.le_of_ble_eq_true rfl) (Nat.le_of_ble_eq_true rfl) ?_
        show a = skp t n at0
        rw [← hs0, skp_e (by omega)]
      · skip
        refine lv_aload_n hx hb dX8_blanks_13 rfl (lv_at hl 0 rfl) ?_
        refine lv_dup hx hb dX8_blanks_14 rfl ?_
        refine va_get (D := g) (ci := 8) (v := vI a) (C := RX8) (T := TX8) (N := 28) hx hb hts inF_X8 hown hK.1 hP 0 rfl rfl 16 (by decide) lk_f98 (fun _ h9 => h9) rfl dX8_blanks_15 ?_
        refine lv_iconst (v := Int32.ofInt 1) hx hb dX8_blanks_18 rfl ?_
        refine ri_add hx hb dX8_blanks_19 (fun z19 e19 => ?_)
        refine va_put (D := g) (ci := 8) (v := vI z19) (ty := .int) (C := RX8) (T := TX8) (N := 28) hx hb hts inF_X8 tyX8 tyX8_ok nmX8 hown hK.1 hP hD hS 0 rfl rfl 16 (by decide) lk_f98 (fun _ h9 => h9) rfl (by decide +kernel) rfl rfl (Nat.le_of_ble_eq_true rfl) dX8_blanks_20 (fun H locs hP hD hS => ?_)
        have hP : va_P g vwCl [(hm, oB 8 [.ref m0, vI un, .ref m2, .ref m3, vI mo, vI oft, vI la, vI du, .ref m8, .ref m9, vI to, .ref m11, .ref m12, vJ tr, .ref m14, vI n, vI z19, vI sa, vI vv, .ref m19, vI rdu, .ref m21, .ref m22, vI se, vI its, .ref m25, .ref m26, vJ lt0]), (m14, aI ca 200 t)] H := hP
        have hD : va_D A [(hm, oB 8 [.ref m0, vI un, .ref m2, .ref m3, vI mo, vI oft, vI la, vI du, .ref m8, .ref m9, vI to, .ref m11, .ref m12, vJ tr, .ref m14, vI n, vI z19, vI sa, vI vv, .ref m19, vI rdu, .ref m21, .ref m22, vI se, vI its, .ref m25, .ref m26, vJ lt0]), (m14, aI ca 200 t)] := hD
        refine lv_goto (tgt := 0) hx hb dX8_blanks_23 (by decide) ?_
        exact ih0 z19 (by first | assumption | omega) (by rw [← hs0, skp_s (p := a) (by omega) (by omega), e19]) (by omega) _ _ hP hD hS ls (lv_sub hl [0] rfl)
  exact L0 _ at0 (by first | assumption | omega) (by rfl) (Nat.lt_succ_self _) _ _ hP hD hS ls (lv_sub hl [0] rfl)
set_option maxHeartbeats 4000000 in
set_option maxRecDepth 100000 in
theorem k_X8_takesNumber (l : Launch) (g : va_G) (ca : Nat → ClassId) (hm : Nat) (m0 : Nat) (m2 : Nat) (m3 : Nat) (m8 : Nat) (m9 : Nat) (m11 : Nat) (m12 : Nat) (m14 : Nat) (m19 : Nat) (m21 : Nat) (m22 : Nat) (m25 : Nat) (m26 : Nat) (un : Int) (mo : Int) (oft : Int) (la : Int) (du : Int) (to : Int) (tr : Int) (n : Int) (at0 : Int) (sa : Int) (vv : Int) (rdu : Int) (se : Int) (its : Int) (lt0 : Int) (t : Int → Int) (lo : Int) (hi : Int) (hT : TXok t n) (hat : 0 ≤ at0 ∧ at0 ≤ n) (hlo : 0 ≤ lo ∧ lo ≤ 1000 ∧ 0 ≤ hi ∧ hi ≤ 1000) : zI (S := Int × Int × Int) l yX8_takesNumber wsX8_takesNumber ({ frames := 2, cells := 0, slots := 0, locals := 41 } : Room) g ca [.ref hm, vI lo, vI hi] [(hm, oB 8 [.ref m0, vI un, .ref m2, .ref m3, vI mo, vI oft, vI la, vI du, .ref m8, .ref m9, vI to, .ref m11, .ref m12, vJ tr, .ref m14, vI n, vI at0, vI sa, vI vv, .ref m19, vI rdu, .ref m21, .ref m22, vI se, vI its, .ref m25, .ref m26, vJ lt0]), (m14, aI ca 200 t)] (fun (z : Int) (u : Int × Int × Int) => u.2.1 = skp t n at0 ∧ (at0 ≤ u.1 ∧ u.1 ≤ n) ∧ ((z = 1 ∧ numOK t n (skp t n at0) lo hi ∧ u.2.2 = vl t n (skp t n at0) ∧ nx t n (skp t n at0) = skp t n u.1) ∨ (z = 0 ∧ ¬ numOK t n (skp t n at0) lo hi))) (fun (u : Int × Int × Int) => [(hm, oB 8 [.ref m0, vI un, .ref m2, .ref m3, vI mo, vI oft, vI la, vI du, .ref m8, .ref m9, vI to, .ref m11, .ref m12, vJ tr, .ref m14, vI n, vI u.1, vI u.2.1, vI u.2.2, .ref m19, vI rdu, .ref m21, .ref m22, vI se, vI its, .ref m25, .ref m26, vJ lt0]), (m14, aI ca 200 t)]) 0 0 := by
  refine zm_I (cc := cX8_takesNumber) (maxL := 4) (ret := some .boolean) (by decide) rfl (Nat.le_of_ble_eq_true rfl) ?_
  intro p e s m below meth c A ls R args Q hR hargs hQ hx hb hml hr hts hown hlk hnm hK hP hD hA hS hl
  have hown : s.vm.findClass RX8 = some m.cls := hown
  have hl : lv_has ls 4 [(0, .ref hm), (1, vI lo), (2, vI hi)] := hl
  have lk_f111 : (Cond.fieldLink RX8 111 "DripRingsModel" "value" "I").before args s = true := hts _ (by decide +kernel)
  have inF_X8 : ∀ w ∈ wsX80, w ∈ wsX8_takesNumber := by decide +kernel
  have lk_f98 : (Cond.fieldLink RX8 98 "DripRingsModel" "at" "I").before args s = true := hts _ (by decide +kernel)
  have lk_c114 : (Cond.constantLong RX8 114 (48)).before args s = true := hts _ (by decide +kernel)
  have lk_c116 : (Cond.constantLong RX8 116 (57)).before args s = true := hts _ (by decide +kernel)
  have lk_f105 : (Cond.fieldLink RX8 105 "DripRingsModel" "start" "I").before args s = true := hts _ (by decide +kernel)
  have hn := hT.1
  refine lv_aload_n hx hb dX8_takesNumber_0 rfl (lv_at hl 0 rfl) ?_
  refine zc_VV (As := []) (rest := []) (wc := [(hm, oB 8 [.ref m0, vI un, .ref m2, .ref m3, vI mo, vI oft, vI la, vI du, .ref m8, .ref m9, vI to, .ref m11, .ref m12, vJ tr, .ref m14, vI n, vI at0, vI sa, vI vv, .ref m19, vI rdu, .ref m21, .ref m22, vI se, vI its, .ref m25, .ref m26, vJ lt0]), (m14, aI ca 200 t)]) (wr := []) (k_X8_blanks l g ca hm m0 m2 m3 m8 m9 m11 m12 m14 m19 m21 m22 m25 m26 un mo oft la du to tr n at0 sa vv rdu se its lt0 t (by first | assumption | omega) (by first | assumption | omega)) dX8_takesNumber_1 (cwV 0 hts gX8_takesNumber_X8_blanks rfl rfl rfl (by decide +kernel) (by rw [hR]; exact ⟨Nat.le_of_ble_eq_true rfl, Nat.le_of_ble_eq_true rfl⟩)) ⟨hx, hb, hml, hown, hts⟩ hl.1 hK hP hD hS hA 0 rfl rfl rfl [0, 1] [] rfl (by decide) rfl (by decide) (by decide) rfl rfl (Nat.le_of_ble_eq_true rfl) (by rw [hR]; exact ⟨Nat.le_of_ble_eq_true rfl, Nat.le_of_ble_eq_true rfl⟩) (fun u H locs q1 hP hD hS => ?_)
  obtain ⟨at1_1, rfl⟩ : ∃ q, q = u := ⟨_, rfl⟩
  have q1 : at1_1 = skp t n at0 := q1
  have hP : va_P g vwCl [(hm, oB 8 [.ref m0, vI un, .ref m2, .ref m3, vI mo, vI oft, vI la, vI du, .ref m8, .ref m9, vI to, .ref m11, .ref m12, vJ tr, .ref m14, vI n, vI at1_1, vI at1_1, vI vv, .ref m19, vI rdu, .ref m21, .ref m22, vI se, vI its, .ref m25, .ref m26, vJ lt0]), (m14, aI ca 200 t)] H := hP.sub [0, 1] rfl
  have hD : va_D A [(hm, oB 8 [.ref m0, vI un, .ref m2, .ref m3, vI mo, vI oft, vI la, vI du, .ref m8, .ref m9, vI to, .ref m11, .ref m12, vJ tr, .ref m14, vI n, vI at1_1, vI at1_1, vI vv, .ref m19, vI rdu, .ref m21, .ref m22, vI se, vI its, .ref m25, .ref m26, vJ lt0]), (m14, aI ca 200 t)] := hD.sub [0, 1] (by decide) rfl
  have hs1 := skp_all t hat.2
  rw [← q1] at hs1
  refine lv_aload_n hx hb dX8_takesNumber_4 rfl (lv_at hl 0 rfl) ?_
  refine lv_iconst (v := Int32.ofInt 0) hx hb dX8_takesNumber_5 rfl ?_
  refine va_put (D := g) (ci := 8) (v := vI 0) (ty := .int) (C := RX8) (T := TX8) (N := 28) hx hb hts inF_X8 tyX8 tyX8_ok nmX8 hown hK.1 hP hD hS 0 rfl rfl 18 (by decide) lk_f111 (fun _ h9 => h9) rfl (by decide +kernel) rfl rfl (Nat.le_of_ble_eq_true rfl) dX8_takesNumber_6 (fun H locs hP hD hS => ?_)
  have hP : va_P g vwCl [(hm, oB 8 [.ref m0, vI un, .ref m2, .ref m3, vI mo, vI oft, vI la, vI du, .ref m8, .ref m9, vI to, .ref m11, .ref m12, vJ tr, .ref m14, vI n, vI at1_1, vI at1_1, vI 0, .ref m19, vI rdu, .ref m21, .ref m22, vI se, vI its, .ref m25, .ref m26, vJ lt0]), (m14, aI ca 200 t)] H := hP
  have hD : va_D A [(hm, oB 8 [.ref m0, vI un, .ref m2, .ref m3, vI mo, vI oft, vI la, vI du, .ref m8, .ref m9, vI to, .ref m11, .ref m12, vJ tr, .ref m14, vI n, vI at1_1, vI at1_1, vI 0, .ref m19, vI rdu, .ref m21, .ref m22, vI se, vI its, .ref m25, .ref m26, vJ lt0]), (m14, aI ca 200 t)] := hD
  have L9 : ∀ (N9 : Nat) (i : Int) (v : Int) (hi0 : at1_1 ≤ i ∧ i ≤ n) (hde : dep t n i = dep t n at1_1) (hdv0 : dvp t n i (if 201 < v then 201 else v) = dvp t n at1_1 0) (hv0 : 0 ≤ v ∧ v ≤ 2009) (hμ : (n - i).toNat < N9) (H : Heap) (locs : List Loc) (hP : va_P g vwCl [(hm, oB 8 [.ref m0, vI un, .ref m2, .ref m3, vI mo, vI oft, vI la, vI du, .ref m8, .ref m9, vI to, .ref m11, .ref m12, vJ tr, .ref m14, vI n, vI i, vI at1_1, vI v, .ref m19, vI rdu, .ref m21, .ref m22, vI se, vI its, .ref m25, .ref m26, vJ lt0]), (m14, aI ca 200 t)] H) (hD : va_D A [(hm, oB 8 [.ref m0, vI un, .ref m2, .ref m3, vI mo, vI oft, vI la, vI du, .ref m8, .ref m9, vI to, .ref m11, .ref m12, vJ tr, .ref m14, vI n, vI i, vI at1_1, vI v, .ref m19, vI rdu, .ref m21, .ref m22, vI se, vI its, .ref m25, .ref m26, vJ lt0]), (m14, aI ca 200 t)]) (hS : va_S A s.heap H locs) (ls : Array Slot) (hl : lv_has ls 4 [(0, .ref hm), (1, vI lo), (2, vI hi)]), W p l e R s m args below meth c H locs 0 0 Q (F0 m 9 ls []) := by
    intro N9; induction N9 with
    | zero => intro i v hi0 hde hdv0 hv0 hμ; exact absurd hμ (Nat.not_lt_zero _)
    | succ N9 ih9 =>
      intro i v hi0 hde hdv0 hv0 hμ H locs hP hD hS ls hl
      refine lv_aload_n hx hb dX8_takesNumber_9 rfl (lv_at hl 0 rfl) ?_
      refine lv_aload_n hx hb dX8_takesNumber_10 rfl (lv_at hl 0 rfl) ?_
      refine va_get (D := g) (ci := 8) (v := vI i) (C := RX8) (T := TX8) (N := 28) hx hb hts inF_X8 hown hK.1 hP 0 rfl rfl 16 (by decide) lk_f98 (fun _ h9 => h9) rfl dX8_takesNumber_11 ?_
      refine zc_VI (As := [vI i]) (rest := []) (wc := [(hm, oB 8 [.ref m0, vI un, .ref m2, .ref m3, vI mo, vI oft, vI la, vI du, .ref m8, .ref m9, vI to, .ref m11, .ref m12, vJ tr, .ref m14, vI n, vI i, vI at1_1, vI v, .ref m19, vI rdu, .ref m21, .ref m22, vI se, vI its, .ref m25, .ref m26, vJ lt0]), (m14, aI ca 200 t)]) (wr := []) (k_X8_letterAt l g ca hm m0 m2 m3 m8 m9 m11 m12 m14 m19 m21 m22 m25 m26 un mo oft la du to tr n i at1_1 v rdu se its lt0 t i (by first | assumption | omega) (by first | assumption | omega)) dX8_takesNumber_14 (cwV 1 hts gX8_takesNumber_X8_letterAt rfl rfl rfl (by decide +kernel) (by rw [hR]; exact ⟨Nat.le_of_ble_eq_true rfl, Nat.le_of_ble_eq_true rfl⟩)) ⟨hx, hb, hml, hown, hts⟩ hl.1 hK hP hD hS hA 0 rfl rfl rfl [0, 1] [] rfl (by decide) rfl (by decide) (by decide) rfl rfl (Nat.le_of_ble_eq_true rfl) (by rw [hR]; exact ⟨Nat.le_of_ble_eq_true rfl, Nat.le_of_ble_eq_true rfl⟩) (fun z14 u H locs q14 hP hD hS => ?_)
      have q14 : (i < n ∧ z14 = t i) ∨ (¬ i < n ∧ z14 = -1) := q14
      have hP : va_P g vwCl [(hm, oB 8 [.ref m0, vI un, .ref m2, .ref m3, vI mo, vI oft, vI la, vI du, .ref m8, .ref m9, vI to, .ref m11, .ref m12, vJ tr, .ref m14, vI n, vI i, vI at1_1, vI v, .ref m19, vI rdu, .ref m21, .ref m22, vI se, vI its, .ref m25, .ref m26, vJ lt0]), (m14, aI ca 200 t)] H := hP.sub [0, 1] rfl
      have hD : va_D A [(hm, oB 8 [.ref m0, vI un, .ref m2, .ref m3, vI mo, vI oft, vI la, vI du, .ref m8, .ref m9, vI to, .ref m11, .ref m12, vJ tr, .ref m14, vI n, vI i, vI at1_1, vI v, .ref m19, vI rdu, .ref m21, .ref m22, vI se, vI its, .ref m25, .ref m26, vJ lt0]), (m14, aI ca 200 t)] := hD.sub [0, 1] (by decide) rfl
      have hz14 : -1 ≤ z14 ∧ z14 ≤ 255 := by
        rcases q14 with q9 | q9
        · have := hT.2 i (by omega) q9.1; omega
        · omega
      refine ri_l hx hb dX8_takesNumber_17 ⟨by omega, by omega⟩ ?_
      refine rj_ldc (z := 48) hx hb hown lk_c114 dX8_takesNumber_18 (by decide) ?_
      refine rj_ldc (z := 57) hx hb hown lk_c116 dX8_takesNumber_21 (by decide) ?_
      refine zc_SI (As := [vJ z14, vJ 48, vJ 57]) (rest := []) (wc := []) (wr := [(hm, oB 8 [.ref m0, vI un, .ref m2, .ref m3, vI mo, vI oft, vI la, vI du, .ref m8, .ref m9, vI to, .ref m11, .ref m12, vJ tr, .ref m14, vI n, vI i, vI at1_1, vI v, .ref m19, vI rdu, .ref m21, .ref m22, vI se, vI its, .ref m25, .ref m26, vJ lt0]), (m14, aI ca 200 t)]) (k_X8_in l g ca z14 48 57 (by exact ⟨by omega, by omega⟩) (by exact ⟨by omega, by omega⟩) (by exact ⟨by omega, by omega⟩)) dX8_takesNumber_24 (va_cwS 3 hts gX8_takesNumber_X8_in rfl rfl rfl (by decide +kernel) (by rw [hR]; exact ⟨Nat.le_of_ble_eq_true rfl, Nat.le_of_ble_eq_true rfl⟩)) ⟨hx, hb, hml, hown, hts⟩ hl.1 hK hP hD hS hA [] [0, 1] rfl (by decide) rfl (by decide) (by decide) rfl rfl (Nat.le_of_ble_eq_true rfl) (by rw [hR]; exact ⟨Nat.le_of_ble_eq_true rfl, Nat.le_of_ble_eq_true rfl⟩) (fun z24 u H locs q24 hP hD hS => ?_)
      have q24 : (z24 = 1 ∧ 48 ≤ z14 ∧ z14 ≤ 57) ∨ (z24 = 0 ∧ ¬ (48 ≤ z14 ∧ z14 ≤ 57)) := q24
      have hP : va_P g vwCl [(hm, oB 8 [.ref m0, vI un, .ref m2, .ref m3, vI mo, vI oft, vI la, vI du, .ref m8, .ref m9, vI to, .ref m11, .ref m12, vJ tr, .ref m14, vI n, vI i, vI at1_1, vI v, .ref m19, vI rdu, .ref m21, .ref m22, vI se, vI its, .ref m25, .ref m26, vJ lt0]), (m14, aI ca 200 t)] H := hP.sub [0, 1] rfl
      have hD : va_D A [(hm, oB 8 [.ref m0, vI un, .ref m2, .ref m3, vI mo, vI oft, vI la, vI du, .ref m8, .ref m9, vI to, .ref m11, .ref m12, vJ tr, .ref m14, vI n, vI i, vI at1_1, vI v, .ref m19, vI rdu, .ref m21, .ref m22, vI se, vI its, .ref m25, .ref m26, vJ lt0]), (m14, aI ca 200 t)] := hD.sub [0, 1] (by decide) rfl
      have hd27 : z24 = 1 → i < n ∧ 48 ≤ t i ∧ t i ≤ 57 := by omega
      refine ri_if_eq (tgt := 83) hx hb dX8_takesNumber_27 (by decide) ⟨by omega, by omega⟩ (fun c27 => ?_) (fun c27 => ?_)
      · skip
        have hend : ¬ (i < n ∧ 48 ≤ t i ∧ t i ≤ 57) := by omega
        have hi2 : i = dep t n at1_1 := by rw [← hde, dep_e hend]
        have hv2 : (if 201 < v then 201 else v) = dvp t n at1_1 0 := by rw [← hdv0, dvp_e hend]
        have ht9 := tn_ok (lo := lo) (hi := hi) (by omega) hi2 hv2 hv0.1
        refine lv_aload_n hx hb dX8_takesNumber_83 rfl (lv_at hl 0 rfl) ?_
        refine va_get (D := g) (ci := 8) (v := vI i) (C := RX8) (T := TX8) (N := 28) hx hb hts inF_X8 hown hK.1 hP 0 rfl rfl 16 (by decide) lk_f98 (fun _ h9 => h9) rfl dX8_takesNumber_84 ?_
        refine lv_aload_n hx hb dX8_takesNumber_87 rfl (lv_at hl 0 rfl) ?_
        refine va_get (D := g) (ci := 8) (v := vI at1_1) (C := RX8) (T := TX8) (N := 28) hx hb hts inF_X8 hown hK.1 hP 0 rfl rfl 17 (by decide) lk_f105 (fun _ h9 => h9) rfl dX8_takesNumber_88 ?_
        refine lv_iconst (v := Int32.ofInt 1) hx hb dX8_takesNumber_91 rfl ?_
        refine ri_add hx hb dX8_takesNumber_92 (fun z92 e92 => ?_)
        refine ri_icmp_eq (tgt := 120) hx hb dX8_takesNumber_93 (by decide) ⟨by omega, by omega⟩ ⟨by omega, by omega⟩ (fun c93 => ?_) (fun c93 => ?_)
        · skip
          refine lv_iconst (v := Int32.ofInt 1) hx hb dX8_takesNumber_120 rfl ?_
          refine lv_goto (tgt := 125) hx hb dX8_takesNumber_121 (by decide) ?_
          refine lv_istore_n (lv' := [(3, vI 1), (0, .ref hm), (1, vI lo), (2, vI hi)]) hx hb dX8_takesNumber_125 rfl hl (by decide) rfl (fun ls hl => ?_)
          refine lv_iload_n hx hb dX8_takesNumber_126 rfl (lv_at hl 0 rfl) ?_
          refine ri_if_eq (tgt := 159) hx hb dX8_takesNumber_127 (by decide) ⟨by omega, by omega⟩ (fun c127_ => ?_) (fun c127_ => ?_)
          · exact absurd c127_ (by decide)
          · skip
            refine lv_aload_n hx hb dX8_takesNumber_130 rfl (lv_at hl 1 rfl) ?_
            refine va_get (D := g) (ci := 8) (v := vI v) (C := RX8) (T := TX8) (N := 28) hx hb hts inF_X8 hown hK.1 hP 0 rfl rfl 18 (by decide) lk_f111 (fun _ h9 => h9) rfl dX8_takesNumber_131 ?_
            refine lv_sipush (v := Int32.ofInt 200) hx hb dX8_takesNumber_134 (by decide) ?_
            refine ri_icmp_gt (tgt := 159) hx hb dX8_takesNumber_137 (by decide) ⟨by omega, by omega⟩ ⟨by omega, by omega⟩ (fun c137 => ?_) (fun c137 => ?_)
            · skip
              refine lv_iconst (v := Int32.ofInt 0) hx hb dX8_takesNumber_159 rfl ?_
              refine zr_Z hx hb hr hlk hQ (i, at1_1, v) hP hD hS dX8_takesNumber_160 (Nat.le_of_ble_eq_true rfl) (Nat.le_of_ble_eq_true rfl) (Or.inl rfl) ?_
              show at1_1 = skp t n at0 ∧ (at0 ≤ i ∧ i ≤ n) ∧ ((0 = 1 ∧ numOK t n (skp t n at0) lo hi ∧ v = vl t n (skp t n at0) ∧ nx t n (skp t n at0) = skp t n i) ∨ (0 = 0 ∧ ¬ numOK t n (skp t n at0) lo hi))
              refine ⟨q1, by omega, ?_⟩
              rw [← q1]
              by_cases h9 : numOK t n at1_1 lo hi
              · have h8 := ht9.1.mp h9
                first | exact Or.inl ⟨rfl, h9, (ht9.2.1 h9).1.symm, (ht9.2.1 h9).2⟩ | (exfalso; omega)
              · have h8 : ¬ (i ≠ at1_1 ∧ (i = at1_1 + 1 ∨ t at1_1 ≠ 48) ∧ v ≤ 200 ∧ lo ≤ v ∧ v ≤ hi) := fun q => h9 (ht9.1.mpr q)
                first | exact Or.inr ⟨rfl, h9⟩ | (exfalso; omega)
            · skip
              refine lv_aload_n hx hb dX8_takesNumber_140 rfl (lv_at hl 1 rfl) ?_
              refine va_get (D := g) (ci := 8) (v := vI v) (C := RX8) (T := TX8) (N := 28) hx hb hts inF_X8 hown hK.1 hP 0 rfl rfl 18 (by decide) lk_f111 (fun _ h9 => h9) rfl dX8_takesNumber_141 ?_
              refine ri_l hx hb dX8_takesNumber_144 ⟨by omega, by omega⟩ ?_
              refine lv_iload_n hx hb dX8_takesNumber_145 rfl (lv_at hl 2 rfl) ?_
              refine ri_l hx hb dX8_takesNumber_146 ⟨by omega, by omega⟩ ?_
              refine lv_iload_n hx hb dX8_takesNumber_147 rfl (lv_at hl 3 rfl) ?_
              refine ri_l hx hb dX8_takesNumber_148 ⟨by omega, by omega⟩ ?_
              refine zc_SI (As := [vJ v, vJ lo, vJ hi]) (rest := []) (wc := []) (wr := [(hm, oB 8 [.ref m0, vI un, .ref m2, .ref m3, vI mo, vI oft, vI la, vI du, .ref m8, .ref m9, vI to, .ref m11, .ref m12, vJ tr, .ref m14, vI n, vI i, vI at1_1, vI v, .ref m19, vI rdu, .ref m21, .ref m22, vI se, vI its, .ref m25, .ref m26, vJ lt0]), (m14, aI ca 200 t)]) (k_X8_in l g ca v lo hi (by exact ⟨by omega, by omega⟩) (by exact ⟨by omega, by omega⟩) (by exact ⟨by omega, by omega⟩)) dX8_takesNumber_149 (va_cwS 3 hts gX8_takesNumber_X8_in rfl rfl rfl (by decide +kernel) (by rw [hR]; exact ⟨Nat.le_of_ble_eq_true rfl, Nat.le_of_ble_eq_true rfl⟩)) ⟨hx, hb, hml, hown, hts⟩ hl.1 hK hP hD hS hA [] [0, 1] rfl (by decide) rfl (by decide) (by decide) rfl rfl (Nat.le_of_ble_eq_true rfl) (by rw [hR]; exact ⟨Nat.le_of_ble_eq_true rfl, Nat.le_of_ble_eq_true rfl⟩) (fun z149 u H locs q149 hP hD hS => ?_)
              have q149 : (z149 = 1 ∧ lo ≤ v ∧ v ≤ hi) ∨ (z149 = 0 ∧ ¬ (lo ≤ v ∧ v ≤ hi)) := q149
              have hP : va_P g vwCl [(hm, oB 8 [.ref m0, vI un, .ref m2, .ref m3, vI mo, vI oft, vI la, vI du, .ref m8, .ref m9, vI to, .ref m11, .ref m12, vJ tr, .ref m14, vI n, vI i, vI at1_1, vI v, .ref m19, vI rdu, .ref m21, .ref m22, vI se, vI its, .ref m25, .ref m26, vJ lt0]), (m14, aI ca 200 t)] H := hP.sub [0, 1] rfl
              have hD : va_D A [(hm, oB 8 [.ref m0, vI un, .ref m2, .ref m3, vI mo, vI oft, vI la, vI du, .ref m8, .ref m9, vI to, .ref m11, .ref m12, vJ tr, .ref m14, vI n, vI i, vI at1_1, vI v, .ref m19, vI rdu, .ref m21, .ref m22, vI se, vI its, .ref m25, .ref m26, vJ lt0]), (m14, aI ca 200 t)] := hD.sub [0, 1] (by decide) rfl
              refine ri_if_eq (tgt := 159) hx hb dX8_takesNumber_152 (by decide) ⟨by omega, by omega⟩ (fun c152 => ?_) (fun c152 => ?_)
              · skip
                refine lv_iconst (v := Int32.ofInt 0) hx hb dX8_takesNumber_159 rfl ?_
                refine zr_Z hx hb hr hlk hQ (i, at1_1, v) hP hD hS dX8_takesNumber_160 (Nat.le_of_ble_eq_true rfl) (Nat.le_of_ble_eq_true rfl) (Or.inl rfl) ?_
                show at1_1 = skp t n at0 ∧ (at0 ≤ i ∧ i ≤ n) ∧ ((0 = 1 ∧ numOK t n (skp t n at0) lo hi ∧ v = vl t n (skp t n at0) ∧ nx t n (skp t n at0) = skp t n i) ∨ (0 = 0 ∧ ¬ numOK t n (skp t n at0) lo hi))
                refine ⟨q1, by omega, ?_⟩
                rw [← q1]
                by_cases h9 : numOK t n at1_1 lo hi
                · have h8 := ht9.1.mp h9
                  first | exact Or.inl ⟨rfl, h9, (ht9.2.1 h9).1.symm, (ht9.2.1 h9).2⟩ | (exfalso; omega)
                · have h8 : ¬ (i ≠ at1_1 ∧ (i = at1_1 + 1 ∨ t at1_1 ≠ 48) ∧ v ≤ 200 ∧ lo ≤ v ∧ v ≤ hi) := fun q => h9 (ht9.1.mpr q)
                  first | exact Or.inr ⟨rfl, h9⟩ | (exfalso; omega)
              · skip
                refine lv_iconst (v := Int32.ofInt 1) hx hb dX8_takesNumber_155 rfl ?_
                refine lv_goto (tgt := 160) hx hb dX8_takesNumber_156 (by decide) ?_
                refine zr_Z hx hb hr hlk hQ (i, at1_1, v) hP hD hS dX8_takesNumber_160 (Nat.le_of_ble_eq_true rfl) (Nat.le_of_ble_eq_true rfl) (Or.inr rfl) ?_
                show at1_1 = skp t n at0 ∧ (at0 ≤ i ∧ i ≤ n) ∧ ((1 = 1 ∧ numOK t n (skp t n at0) lo hi ∧ v = vl t n (skp t n at0) ∧ nx t n (skp t n at0) = skp t n i) ∨ (1 = 0 ∧ ¬ numOK t n (skp t n at0) lo hi))
                refine ⟨q1, by omega, ?_⟩
                rw [← q1]
                by_cases h9 : numOK t n at1_1 lo hi
                · have h8 := ht9.1.mp h9
                  first | exact Or.inl ⟨rfl, h9, (ht9.2.1 h9).1.symm, (ht9.2.1 h9).2⟩ | (exfalso; omega)
                · have h8 : ¬ (i ≠ at1_1 ∧ (i = at1_1 + 1 ∨ t at1_1 ≠ 48) ∧ v ≤ 200 ∧ lo ≤ v ∧ v ≤ hi) := fun q => h9 (ht9.1.mpr q)
                  first | exact Or.inr ⟨rfl, h9⟩ | (exfalso; omega)
        · skip
          refine lv_aload_n hx hb dX8_takesNumber_96 rfl (lv_at hl 0 rfl) ?_
          refine va_get (D := g) (ci := 8) (v := vI i) (C := RX8) (T := TX8) (N := 28) hx hb hts inF_X8 hown hK.1 hP 0 rfl rfl 16 (by decide) lk_f98 (fun _ h9 => h9) rfl dX8_takesNumber_97 ?_
          refine lv_aload_n hx hb dX8_takesNumber_100 rfl (lv_at hl 0 rfl) ?_
          refine va_get (D := g) (ci := 8) (v := vI at1_1) (C := RX8) (T := TX8) (N := 28) hx hb hts inF_X8 hown hK.1 hP 0 rfl rfl 17 (by decide) lk_f105 (fun _ h9 => h9) rfl dX8_takesNumber_101 ?_
          refine ri_icmp_le (tgt := 124) hx hb dX8_takesNumber_104 (by decide) ⟨by omega, by omega⟩ ⟨by omega, by omega⟩ (fun c104 => ?_) (fun c104 => ?_)
          · skip
            refine lv_iconst (v := Int32.ofInt 0) hx hb dX8_takesNumber_124 rfl ?_
            refine lv_istore_n (lv' := [(3, vI 0), (0, .ref hm), (1, vI lo), (2, vI hi)]) hx hb dX8_takesNumber_125 rfl hl (by decide) rfl (fun ls hl => ?_)
            refine lv_iload_n hx hb dX8_takesNumber_126 rfl (lv_at hl 0 rfl) ?_
            refine ri_if_eq (tgt := 159) hx hb dX8_takesNumber_127 (by decide) ⟨by omega, by omega⟩ (fun c127_ => ?_) (fun c127_ => ?_)
            · skip
              refine lv_iconst (v := Int32.ofInt 0) hx hb dX8_takesNumber_159 rfl ?_
              refine zr_Z hx hb hr hlk hQ (i, at1_1, v) hP hD hS dX8_takesNumber_160 (Nat.le_of_ble_eq_true rfl) (Nat.le_of_ble_eq_true rfl) (Or.inl rfl) ?_
              show at1_1 = skp t n at0 ∧ (at0 ≤ i ∧ i ≤ n) ∧ ((0 = 1 ∧ numOK t n (skp t n at0) lo hi ∧ v = vl t n (skp t n at0) ∧ nx t n (skp t n at0) = skp t n i) ∨ (0 = 0 ∧ ¬ numOK t n (skp t n at0) lo hi))
              refine ⟨q1, by omega, ?_⟩
              rw [← q1]
              by_cases h9 : numOK t n at1_1 lo hi
              · have h8 := ht9.1.mp h9
                first | exact Or.inl ⟨rfl, h9, (ht9.2.1 h9).1.symm, (ht9.2.1 h9).2⟩ | (exfalso; omega)
              · have h8 : ¬ (i ≠ at1_1 ∧ (i = at1_1 + 1 ∨ t at1_1 ≠ 48) ∧ v ≤ 200 ∧ lo ≤ v ∧ v ≤ hi) := fun q => h9 (ht9.1.mpr q)
                first | exact Or.inr ⟨rfl, h9⟩ | (exfalso; omega)
            · exact absurd c127_ (by decide)
          · skip
            refine lv_aload_n hx hb dX8_takesNumber_107 rfl (lv_at hl 0 rfl) ?_
            refine lv_aload_n hx hb dX8_takesNumber_108 rfl (lv_at hl 0 rfl) ?_
            refine va_get (D := g) (ci := 8) (v := vI at1_1) (C := RX8) (T := TX8) (N := 28) hx hb hts inF_X8 hown hK.1 hP 0 rfl rfl 17 (by decide) lk_f105 (fun _ h9 => h9) rfl dX8_takesNumber_109 ?_
            refine zc_VI (As := [vI at1_1]) (rest := []) (wc := [(hm, oB 8 [.ref m0, vI un, .ref m2, .ref m3, vI mo, vI oft, vI la, vI du, .ref m8, .ref m9, vI to, .ref m11, .ref m12, vJ tr, .ref m14, vI n, vI i, vI at1_1, vI v, .ref m19, vI rdu, .ref m21, .ref m22, vI se, vI its, .ref m25, .ref m26, vJ lt0]), (m14, aI ca 200 t)]) (wr := []) (k_X8_letterAt l g ca hm m0 m2 m3 m8 m9 m11 m12 m14 m19 m21 m22 m25 m26 un mo oft la du to tr n i at1_1 v rdu se its lt0 t at1_1 (by first | assumption | omega) (by first | assumption | omega)) dX8_takesNumber_112 (cwV 1 hts gX8_takesNumber_X8_letterAt rfl rfl rfl (by decide +kernel) (by rw [hR]; exact ⟨Nat.le_of_ble_eq_true rfl, Nat.le_of_ble_eq_true rfl⟩)) ⟨hx, hb, hml, hown, hts⟩ hl.1 hK hP hD hS hA 0 rfl rfl rfl [0, 1] [] rfl (by decide) rfl (by decide) (by decide) rfl rfl (Nat.le_of_ble_eq_true rfl) (by rw [hR]; exact ⟨Nat.le_of_ble_eq_true rfl, Nat.le_of_ble_eq_true rfl⟩) (fun z112 u H locs q112 hP hD hS => ?_)
            have q112 : (at1_1 < n ∧ z112 = t at1_1) ∨ (¬ at1_1 < n ∧ z112 = -1) := q112
            have hP : va_P g vwCl [(hm, oB 8 [.ref m0, vI un, .ref m2, .ref m3, vI mo, vI oft, vI la, vI du, .ref m8, .ref m9, vI to, .ref m11, .ref m12, vJ tr, .ref m14, vI n, vI i, vI at1_1, vI v, .ref m19, vI rdu, .ref m21, .ref m22, vI se, vI its, .ref m25, .ref m26, vJ lt0]), (m14, aI ca 200 t)] H := hP.sub [0, 1] rfl
            have hD : va_D A [(hm, oB 8 [.ref m0, vI un, .ref m2, .ref m3, vI mo, vI oft, vI la, vI du, .ref m8, .ref m9, vI to, .ref m11, .ref m12, vJ tr, .ref m14, vI n, vI i, vI at1_1, vI v, .ref m19, vI rdu, .ref m21, .ref m22, vI se, vI its, .ref m25, .ref m26, vJ lt0]), (m14, aI ca 200 t)] := hD.sub [0, 1] (by decide) rfl
            have hz112 : -1 ≤ z112 ∧ z112 ≤ 255 := by
              rcases q112 with q9 | q9
              · have := hT.2 at1_1 (by omega) q9.1; omega
              · omega
            refine lv_bipush (v := Int32.ofInt 48) hx hb dX8_takesNumber_115 (by decide) ?_
            refine ri_icmp_eq (tgt := 124) hx hb dX8_takesNumber_117 (by decide) ⟨by omega, by omega⟩ ⟨by omega, by omega⟩ (fun c117 => ?_) (fun c117 => ?_)
            · skip
              refine lv_iconst (v := Int32.ofInt 0) hx hb dX8_takesNumber_124 rfl ?_
              refine lv_istore_n (lv' := [(3, vI 0), (0, .ref hm), (1, vI lo), (2, vI hi)]) hx hb dX8_takesNumber_125 rfl hl (by decide) rfl (fun ls hl => ?_)
              refine lv_iload_n hx hb dX8_takesNumber_126 rfl (lv_at hl 0 rfl) ?_
              refine ri_if_eq (tgt := 159) hx hb dX8_takesNumber_127 (by decide) ⟨by omega, by omega⟩ (fun c127_ => ?_) (fun c127_ => ?_)
              · skip
                refine lv_iconst (v := Int32.ofInt 0) hx hb dX8_takesNumber_159 rfl ?_
                refine zr_Z hx hb hr hlk hQ (i, at1_1, v) hP hD hS dX8_takesNumber_160 (Nat.le_of_ble_eq_true rfl) (Nat.le_of_ble_eq_true rfl) (Or.inl rfl) ?_
                show at1_1 = skp t n at0 ∧ (at0 ≤ i ∧ i ≤ n) ∧ ((0 = 1 ∧ numOK t n (skp t n at0) lo hi ∧ v = vl t n (skp t n at0) ∧ nx t n (skp t n at0) = skp t n i) ∨ (0 = 0 ∧ ¬ numOK t n (skp t n at0) lo hi))
                refine ⟨q1, by omega, ?_⟩
                rw [← q1]
                by_cases h9 : numOK t n at1_1 lo hi
                · have h8 := ht9.1.mp h9
                  first | exact Or.inl ⟨rfl, h9, (ht9.2.1 h9).1.symm, (ht9.2.1 h9).2⟩ | (exfalso; omega)
                · have h8 : ¬ (i ≠ at1_1 ∧ (i = at1_1 + 1 ∨ t at1_1 ≠ 48) ∧ v ≤ 200 ∧ lo ≤ v ∧ v ≤ hi) := fun q => h9 (ht9.1.mpr q)
                  first | exact Or.inr ⟨rfl, h9⟩ | (exfalso; omega)
              · exact absurd c127_ (by decide)
            · skip
              refine lv_iconst (v := Int32.ofInt 1) hx hb dX8_takesNumber_120 rfl ?_
              refine lv_goto (tgt := 125) hx hb dX8_takesNumber_121 (by decide) ?_
              refine lv_istore_n (lv' := [(3, vI 1), (0, .ref hm), (1, vI lo), (2, vI hi)]) hx hb dX8_takesNumber_125 rfl hl (by decide) rfl (fun ls hl => ?_)
              refine lv_iload_n hx hb dX8_takesNumber_126 rfl (lv_at hl 0 rfl) ?_
              refine ri_if_eq (tgt := 159) hx hb dX8_takesNumber_127 (by decide) ⟨by omega, by omega⟩ (fun c127_ => ?_) (fun c127_ => ?_)
              · exact absurd c127_ (by decide)
              · skip
                refine lv_aload_n hx hb dX8_takesNumber_130 rfl (lv_at hl 1 rfl) ?_
                refine va_get (D := g) (ci := 8) (v := vI v) (C := RX8) (T := TX8) (N := 28) hx hb hts inF_X8 hown hK.1 hP 0 rfl rfl 18 (by decide) lk_f111 (fun _ h9 => h9) rfl dX8_takesNumber_131 ?_
                refine lv_sipush (v := Int32.ofInt 200) hx hb dX8_takesNumber_134 (by decide) ?_
                refine ri_icmp_gt (tgt := 159) hx hb dX8_takesNumber_137 (by decide) ⟨by omega, by omega⟩ ⟨by omega, by omega⟩ (fun c137 => ?_) (fun c137 => ?_)
                · skip
                  refine lv_iconst (v := Int32.ofInt 0) hx hb dX8_takesNumber_159 rfl ?_
                  refine zr_Z hx hb hr hlk hQ (i, at1_1, v) hP hD hS dX8_takesNumber_160 (Nat.le_of_ble_eq_true rfl) (Nat.le_of_ble_eq_true rfl) (Or.inl rfl) ?_
                  show at1_1 = skp t n at0 ∧ (at0 ≤ i ∧ i ≤ n) ∧ ((0 = 1 ∧ numOK t n (skp t n at0) lo hi ∧ v = vl t n (skp t n at0) ∧ nx t n (skp t n at0) = skp t n i) ∨ (0 = 0 ∧ ¬ numOK t n (skp t n at0) lo hi))
                  refine ⟨q1, by omega, ?_⟩
                  rw [← q1]
                  by_cases h9 : numOK t n at1_1 lo hi
                  · have h8 := ht9.1.mp h9
                    first | exact Or.inl ⟨rfl, h9, (ht9.2.1 h9).1.symm, (ht9.2.1 h9).2⟩ | (exfalso; omega)
                  · have h8 : ¬ (i ≠ at1_1 ∧ (i = at1_1 + 1 ∨ t at1_1 ≠ 48) ∧ v ≤ 200 ∧ lo ≤ v ∧ v ≤ hi) := fun q => h9 (ht9.1.mpr q)
                    first | exact Or.inr ⟨rfl, h9⟩ | (exfalso; omega)
                · skip
                  refine lv_aload_n hx hb dX8_takesNumber_140 rfl (lv_at hl 1 rfl) ?_
                  refine va_get (D := g) (ci := 8) (v := vI v) (C := RX8) (T := TX8) (N := 28) hx hb hts inF_X8 hown hK.1 hP 0 rfl rfl 18 (by decide) lk_f111 (fun _ h9 => h9) rfl dX8_takesNumber_141 ?_
                  refine ri_l hx hb dX8_takesNumber_144 ⟨by omega, by omega⟩ ?_
                  refine lv_iload_n hx hb dX8_takesNumber_145 rfl (lv_at hl 2 rfl) ?_
                  refine ri_l hx hb dX8_takesNumber_146 ⟨by omega, by omega⟩ ?_
                  refine lv_iload_n hx hb dX8_takesNumber_147 rfl (lv_at hl 3 rfl) ?_
                  refine ri_l hx hb dX8_takesNumber_148 ⟨by omega, by omega⟩ ?_
                  refine zc_SI (As := [vJ v, vJ lo, vJ hi]) (rest := []) (wc := []) (wr := [(hm, oB 8 [.ref m0, vI un, .ref m2, .ref m3, vI mo, vI oft, vI la, vI du, .ref m8, .ref m9, vI to, .ref m11, .ref m12, vJ tr, .ref m14, vI n, vI i, vI at1_1, vI v, .ref m19, vI rdu, .ref m21, .ref m22, vI se, vI its, .ref m25, .ref m26, vJ lt0]), (m14, aI ca 200 t)]) (k_X8_in l g ca v lo hi (by exact ⟨by omega, by omega⟩) (by exact ⟨by omega, by omega⟩) (by exact ⟨by omega, by omega⟩)) dX8_takesNumber_149 (va_cwS 3 hts gX8_takesNumber_X8_in rfl rfl rfl (by decide +kernel) (by rw [hR]; exact ⟨Nat.le_of_ble_eq_true rfl, Nat.le_of_ble_eq_true rfl⟩)) ⟨hx, hb, hml, hown, hts⟩ hl.1 hK hP hD hS hA [] [0, 1] rfl (by decide) rfl (by decide) (by decide) rfl rfl (Nat.le_of_ble_eq_true rfl) (by rw [hR]; exact ⟨Nat.le_of_ble_eq_true rfl, Nat.le_of_ble_eq_true rfl⟩) (fun z149 u H locs q149 hP hD hS => ?_)
                  have q149 : (z149 = 1 ∧ lo ≤ v ∧ v ≤ hi) ∨ (z149 = 0 ∧ ¬ (lo ≤ v ∧ v ≤ hi)) := q149
                  have hP : va_P g vwCl [(hm, oB 8 [.ref m0, vI un, .ref m2, .ref m3, vI mo, vI oft, vI la, vI du, .ref m8, .ref m9, vI to, .ref m11, .ref m12, vJ tr, .ref m14, vI n, vI i, vI at1_1, vI v, .ref m19, vI rdu, .ref m21, .ref m22, vI se, vI its, .ref m25, .ref m26, vJ lt0]), (m14, aI ca 200 t)] H := hP.sub [0, 1] rfl
                  have hD : va_D A [(hm, oB 8 [.ref m0, vI un, .ref m2, .ref m3, vI mo, vI oft, vI la, vI du, .ref m8, .ref m9, vI to, .ref m11, .ref m12, vJ tr, .ref m14, vI n, vI i, vI at1_1, vI v, .ref m19, vI rdu, .ref m21, .ref m22, vI se, vI its, .ref m25, .ref m26, vJ lt0]), (m14, aI ca 200 t)] := hD.sub [0, 1] (by decide) rfl
                  refine ri_if_eq (tgt := 159) hx hb dX8_takesNumber_152 (by decide) ⟨by omega, by omega⟩ (fun c152 => ?_) (fun c152 => ?_)
                  · skip
                    refine lv_iconst (v := Int32.ofInt 0) hx hb dX8_takesNumber_159 rfl ?_
                    refine zr_Z hx hb hr hlk hQ (i, at1_1, v) hP hD hS dX8_takesNumber_160 (Nat.le_of_ble_eq_true rfl) (Nat.le_of_ble_eq_true rfl) (Or.inl rfl) ?_
                    show at1_1 = skp t n at0 ∧ (at0 ≤ i ∧ i ≤ n) ∧ ((0 = 1 ∧ numOK t n (skp t n at0) lo hi ∧ v = vl t n (skp t n at0) ∧ nx t n (skp t n at0) = skp t n i) ∨ (0 = 0 ∧ ¬ numOK t n (skp t n at0) lo hi))
                    refine ⟨q1, by omega, ?_⟩
                    rw [← q1]
                    by_cases h9 : numOK t n at1_1 lo hi
                    · have h8 := ht9.1.mp h9
                      first | exact Or.inl ⟨rfl, h9, (ht9.2.1 h9).1.symm, (ht9.2.1 h9).2⟩ | (exfalso; omega)
                    · have h8 : ¬ (i ≠ at1_1 ∧ (i = at1_1 + 1 ∨ t at1_1 ≠ 48) ∧ v ≤ 200 ∧ lo ≤ v ∧ v ≤ hi) := fun q => h9 (ht9.1.mpr q)
                      first | exact Or.inr ⟨rfl, h9⟩ | (exfalso; omega)
                  · skip
                    refine lv_iconst (v := Int32.ofInt 1) hx hb dX8_takesNumber_155 rfl ?_
                    refine lv_goto (tgt := 160) hx hb dX8_takesNumber_156 (by decide) ?_
                    refine zr_Z hx hb hr hlk hQ (i, at1_1, v) hP hD hS dX8_takesNumber_160 (Nat.le_of_ble_eq_true rfl) (Nat.le_of_ble_eq_true rfl) (Or.inr rfl) ?_
                    show at1_1 = skp t n at0 ∧ (at0 ≤ i ∧ i ≤ n) ∧ ((1 = 1 ∧ numOK t n (skp t n at0) lo hi ∧ v = vl t n (skp t n at0) ∧ nx t n (skp t n at0) = skp t n i) ∨ (1 = 0 ∧ ¬ numOK t n (skp t n at0) lo hi))
                    refine ⟨q1, by omega, ?_⟩
                    rw [← q1]
                    by_cases h9 : numOK t n at1_1 lo hi
                    · have h8 := ht9.1.mp h9
                      first | exact Or.inl ⟨rfl, h9, (ht9.2.1 h9).1.symm, (ht9.2.1 h9).2⟩ | (exfalso; omega)
                    · have h8 : ¬ (i ≠ at1_1 ∧ (i = at1_1 + 1 ∨ t at1_1 ≠ 48) ∧ v ≤ 200 ∧ lo ≤ v ∧ v ≤ hi) := fun q => h9 (ht9.1.mpr q)
                      first | exact Or.inr ⟨rfl, h9⟩ | (exfalso; omega)
      · skip
        refine lv_aload_n hx hb dX8_takesNumber_30 rfl (lv_at hl 0 rfl) ?_
        refine lv_aload_n hx hb dX8_takesNumber_31 rfl (lv_at hl 0 rfl) ?_
        refine va_get (D := g) (ci := 8) (v := vI v) (C := RX8) (T := TX8) (N := 28) hx hb hts inF_X8 hown hK.1 hP 0 rfl rfl 18 (by decide) lk_f111 (fun _ h9 => h9) rfl dX8_takesNumber_32 ?_
        refine lv_sipush (v := Int32.ofInt 200) hx hb dX8_takesNumber_35 (by decide) ?_
        refine ri_icmp_le (tgt := 48) hx hb dX8_takesNumber_38 (by decide) ⟨by omega, by omega⟩ ⟨by omega, by omega⟩ (fun c38 => ?_) (fun c38 => ?_)
        · skip
          refine lv_bipush (v := Int32.ofInt 10) hx hb dX8_takesNumber_48 (by decide) ?_
          refine lv_aload_n hx hb dX8_takesNumber_50 rfl (lv_at hl 0 rfl) ?_
          refine va_get (D := g) (ci := 8) (v := vI v) (C := RX8) (T := TX8) (N := 28) hx hb hts inF_X8 hown hK.1 hP 0 rfl rfl 18 (by decide) lk_f111 (fun _ h9 => h9) rfl dX8_takesNumber_51 ?_
          refine ri_mul hx hb dX8_takesNumber_54 (fun z54 e54 => ?_)
          refine lv_aload_n hx hb dX8_takesNumber_55 rfl (lv_at hl 0 rfl) ?_
          refine lv_aload_n hx hb dX8_takesNumber_56 rfl (lv_at hl 0 rfl) ?_
          refine va_get (D := g) (ci := 8) (v := vI i) (C := RX8) (T := TX8) (N := 28) hx hb hts inF_X8 hown hK.1 hP 0 rfl rfl 16 (by decide) lk_f98 (fun _ h9 => h9) rfl dX8_takesNumber_57 ?_
          refine zc_VI (As := [vI i]) (rest := [vI z54, .ref hm]) (wc := [(hm, oB 8 [.ref m0, vI un, .ref m2, .ref m3, vI mo, vI oft, vI la, vI du, .ref m8, .ref m9, vI to, .ref m11, .ref m12, vJ tr, .ref m14, vI n, vI i, vI at1_1, vI v, .ref m19, vI rdu, .ref m21, .ref m22, vI se, vI its, .ref m25, .ref m26, vJ lt0]), (m14, aI ca 200 t)]) (wr := []) (k_X8_letterAt l g ca hm m0 m2 m3 m8 m9 m11 m12 m14 m19 m21 m22 m25 m26 un mo oft la du to tr n i at1_1 v rdu se its lt0 t i (by first | assumption | omega) (by first | assumption | omega)) dX8_takesNumber_60 (cwV 1 hts gX8_takesNumber_X8_letterAt rfl rfl rfl (by decide +kernel) (by rw [hR]; exact ⟨Nat.le_of_ble_eq_true rfl, Nat.le_of_ble_eq_true rfl⟩)) ⟨hx, hb, hml, hown, hts⟩ hl.1 hK hP hD hS hA 0 rfl rfl rfl [0, 1] [] rfl (by decide) rfl (by decide) (by decide) rfl rfl (Nat.le_of_ble_eq_true rfl) (by rw [hR]; exact ⟨Nat.le_of_ble_eq_true rfl, Nat.le_of_ble_eq_true rfl⟩) (fun z60 u H locs q60 hP hD hS => ?_)
          have q60 : (i < n ∧ z60 = t i) ∨ (¬ i < n ∧ z60 = -1) := q60
          have hP : va_P g vwCl [(hm, oB 8 [.ref m0, vI un, .ref m2, .ref m3, vI mo, vI oft, vI la, vI du, .ref m8, .ref m9, vI to, .ref m11, .ref m12, vJ tr, .ref m14, vI n, vI i, vI at1_1, vI v, .ref m19, vI rdu, .ref m21, .ref m22, vI se, vI its, .ref m25, .ref m26, vJ lt0]), (m14, aI ca 200 t)] H := hP.sub [0, 1] rfl
          have hD : va_D A [(hm, oB 8 [.ref m0, vI un, .ref m2, .ref m3, vI mo, vI oft, vI la, vI du, .ref m8, .ref m9, vI to, .ref m11, .ref m12, vJ tr, .ref m14, vI n, vI i, vI at1_1, vI v, .ref m19, vI rdu, .ref m21, .ref m22, vI se, vI its, .ref m25, .ref m26, vJ lt0]), (m14, aI ca 200 t)] := hD.sub [0, 1] (by decide) rfl
          refine ri_add hx hb dX8_takesNumber_63 (fun z63 e63 => ?_)
          refine lv_bipush (v := Int32.ofInt 48) hx hb dX8_takesNumber_64 (by decide) ?_
          refine ri_sub hx hb dX8_takesNumber_66 (fun z66 e66 => ?_)
          refine va_put (D := g) (ci := 8) (v := vI z66) (ty := .int) (C := RX8) (T := TX8) (N := 28) hx hb hts inF_X8 tyX8 tyX8_ok nmX8 hown hK.1 hP hD hS 0 rfl rfl 18 (by decide) lk_f111 (fun _ h9 => h9) rfl (by decide +kernel) rfl rfl (Nat.le_of_ble_eq_true rfl) dX8_takesNumber_67 (fun H locs hP hD hS => ?_)
          have hP : va_P g vwCl [(hm, oB 8 [.ref m0, vI un, .ref m2, .ref m3, vI mo, vI oft, vI la, vI du, .ref m8, .ref m9, vI to, .ref m11, .ref m12, vJ tr, .ref m14, vI n, vI i, vI at1_1, vI z66, .ref m19, vI rdu, .ref m21, .ref m22, vI se, vI its, .ref m25, .ref m26, vJ lt0]), (m14, aI ca 200 t)] H := hP
          have hD : va_D A [(hm, oB 8 [.ref m0, vI un, .ref m2, .ref m3, vI mo, vI oft, vI la, vI du, .ref m8, .ref m9, vI to, .ref m11, .ref m12, vJ tr, .ref m14, vI n, vI i, vI at1_1, vI z66, .ref m19, vI rdu, .ref m21, .ref m22, vI se, vI its, .ref m25, .ref m26, vJ lt0]), (m14, aI ca 200 t)] := hD
          refine lv_aload_n hx hb dX8_takesNumber_70 rfl (lv_at hl 0 rfl) ?_
          refine lv_dup hx hb dX8_takesNumber_71 rfl ?_
          refine va_get (D := g) (ci := 8) (v := vI i) (C := RX8) (T := TX8) (N := 28) hx hb hts inF_X8 hown hK.1 hP 0 rfl rfl 16 (by decide) lk_f98 (fun _ h9 => h9) rfl dX8_takesNumber_72 ?_
          refine lv_iconst (v := Int32.ofInt 1) hx hb dX8_takesNumber_75 rfl ?_
          refine ri_add hx hb dX8_takesNumber_76 (fun z76 e76 => ?_)
          refine va_put (D := g) (ci := 8) (v := vI z76) (ty := .int) (C := RX8) (T := TX8) (N := 28) hx hb hts inF_X8 tyX8 tyX8_ok nmX8 hown hK.1 hP hD hS 0 rfl rfl 16 (by decide) lk_f98 (fun _ h9 => h9) rfl (by decide +kernel) rfl rfl (Nat.le_of_ble_eq_true rfl) dX8_takesNumber_77 (fun H locs hP hD hS => ?_)
          have hP : va_P g vwCl [(hm, oB 8 [.ref m0, vI un, .ref m2, .ref m3, vI mo, vI oft, vI la, vI du, .ref m8, .ref m9, vI to, .ref m11, .ref m12, vJ tr, .ref m14, vI n, vI z76, vI at1_1, vI z66, .ref m19, vI rdu, .ref m21, .ref m22, vI se, vI its, .ref m25, .ref m26, vJ lt0]), (m14, aI ca 200 t)] H := hP
          have hD : va_D A [(hm, oB 8 [.ref m0, vI un, .ref m2, .ref m3, vI mo, vI oft, vI la, vI du, .ref m8, .ref m9, vI to, .ref m11, .ref m12, vJ tr, .ref m14, vI n, vI z76, vI at1_1, vI z66, .ref m19, vI rdu, .ref m21, .ref m22, vI se, vI its, .ref m25, .ref m26, vJ lt0]), (m14, aI ca 200 t)] := hD
          refine lv_goto (tgt := 9) hx hb dX8_takesNumber_80 (by decide) ?_
          exact ih9 z76 z66 (by first | assumption | omega) (by rw [← hde, dep_s (p := i) (by omega) (by omega), e76]) (by rw [← hdv0, dvp_s (p := i) (by omega) (by omega), e76]; congr 1; (repeat' split) <;> first | rfl | omega) (by first | assumption | omega) (by omega) _ _ hP hD hS ls (lv_sub hl [0, 1, 2] rfl)
        · skip
          refine lv_aload_n hx hb dX8_takesNumber_41 rfl (lv_at hl 0 rfl) ?_
          refine va_get (D := g) (ci := 8) (v := vI v) (C := RX8) (T := TX8) (N := 28) hx hb hts inF_X8 hown hK.1 hP 0 rfl rfl 18 (by decide) lk_f111 (fun _ h9 => h9) rfl dX8_takesNumber_42 ?_
          refine lv_goto (tgt := 67) hx hb dX8_takesNumber_45 (by decide) ?_
          refine va_put (D := g) (ci := 8) (v := vI v) (ty := .int) (C := RX8) (T := TX8) (N := 28) hx hb hts inF_X8 tyX8 tyX8_ok nmX8 hown hK.1 hP hD hS 0 rfl rfl 18 (by decide) lk_f111 (fun _ h9 => h9) rfl (by decide +kernel) rfl rfl (Nat.le_of_ble_eq_true rfl) dX8_takesNumber_67 (fun H locs hP hD hS => ?_)
          have hP : va_P g vwCl [(hm, oB 8 [.ref m0, vI un, .ref m2, .ref m3, vI mo, vI oft, vI la, vI du, .ref m8, .ref m9, vI to, .ref m11, .ref m12, vJ tr, .ref m14, vI n, vI i, vI at1_1, vI v, .ref m19, vI rdu, .ref m21, .ref m22, vI se, vI its, .ref m25, .ref m26, vJ lt0]), (m14, aI ca 200 t)] H := hP
          have hD : va_D A [(hm, oB 8 [.ref m0, vI un, .ref m2, .ref m3, vI mo, vI oft, vI la, vI du, .ref m8, .ref m9, vI to, .ref m11, .ref m12, vJ tr, .ref m14, vI n, vI i, vI at1_1, vI v, .ref m19, vI rdu, .ref m21, .ref m22, vI se, vI its, .ref m25, .ref m26, vJ lt0]), (m14, aI ca 200 t)] := hD
          refine lv_aload_n hx hb dX8_takesNumber_70 rfl (lv_at hl 0 rfl) ?_
          refine lv_dup hx hb dX8_takesNumber_71 rfl ?_
          refine va_get (D := g) (ci := 8) (v := vI i) (C := RX8) (T := TX8) (N := 28) hx hb hts inF_X8 hown hK.1 hP 0 rfl rfl 16 (by decide) lk_f98 (fun _ h9 => h9) rfl dX8_takesNumber_72 ?_
          refine lv_iconst (v := Int32.ofInt 1) hx hb dX8_takesNumber_75 rfl ?_
          refine ri_add hx hb dX8_takesNumber_76 (fun z76 e76 => ?_)
          refine va_put (D := g) (ci := 8) (v := vI z76) (ty := .int) (C := RX8) (T := TX8) (N := 28) hx hb hts inF_X8 tyX8 tyX8_ok nmX8 hown hK.1 hP hD hS 0 rfl rfl 16 (by decide) lk_f98 (fun _ h9 => h9) rfl (by decide +kernel) rfl rfl (Nat.le_of_ble_eq_true rfl) dX8_takesNumber_77 (fun H locs hP hD hS => ?_)
          have hP : va_P g vwCl [(hm, oB 8 [.ref m0, vI un, .ref m2, .ref m3, vI mo, vI oft, vI la, vI du, .ref m8, .ref m9, vI to, .ref m11, .ref m12, vJ tr, .ref m14, vI n, vI z76, vI at1_1, vI v, .ref m19, vI rdu, .ref m21, .ref m22, vI se, vI its, .ref m25, .ref m26, vJ lt0]), (m14, aI ca 200 t)] H := hP
          have hD : va_D A [(hm, oB 8 [.ref m0, vI un, .ref m2, .ref m3, vI mo, vI oft, vI la, vI du, .ref m8, .ref m9, vI to, .ref m11, .ref m12, vJ tr, .ref m14, vI n, vI z76, vI at1_1, vI v, .ref m19, vI rdu, .ref m21, .ref m22, vI se, vI its, .ref m25, .ref m26, vJ lt0]), (m14, aI ca 200 t)] := hD
          refine lv_goto (tgt := 9) hx hb dX8_takesNumber_80 (by decide) ?_
          exact ih9 z76 v (by first | assumption | omega) (by rw [← hde, dep_s (p := i) (by omega) (by omega), e76]) (by rw [← hdv0, dvp_s (p := i) (by omega) (by omega), e76]; congr 1; (repeat' split) <;> first | rfl | omega) (by first | assumption | omega) (by omega) _ _ hP hD hS ls (lv_sub hl [0, 1, 2] rfl)
  exact L9 _ at1_1 0 (by first | assumption | omega) (by rfl) (by rw [if_neg (by omega)]) (by first | assumption | omega) (Nat.lt_succ_self _) _ _ hP hD hS ls (lv_sub hl [0, 1, 2] rfl)
set_option maxHeartbeats 4000000 in
set_option maxRecDepth 100000 in
theorem k_X8_takesEnd (l : Launch) (g : va_G) (ca : Nat → ClassId) (hm : Nat) (m0 : Nat) (m2 : Nat) (m3 : Nat) (m8 : Nat) (m9 : Nat) (m11 : Nat) (m12 : Nat) (m14 : Nat) (m19 : Nat) (m21 : Nat) (m22 : Nat) (m25 : Nat) (m26 : Nat) (un : Int) (mo : Int) (oft : Int) (la : Int) (du : Int) (to : Int) (tr : Int) (n : Int) (at0 : Int) (sa : Int) (vv : Int) (rdu : Int) (se : Int) (its : Int) (lt0 : Int) (t : Int → Int) (hT : TXok t n) (hat : 0 ≤ at0 ∧ at0 ≤ n) : zI (S := Int × Int) l yX8_takesEnd wsX8_takesEnd ({ frames := 2, cells := 0, slots := 0, locals := 41 } : Room) g ca [.ref hm] [(hm, oB 8 [.ref m0, vI un, .ref m2, .ref m3, vI mo, vI oft, vI la, vI du, .ref m8, .ref m9, vI to, .ref m11, .ref m12, vJ tr, .ref m14, vI n, vI at0, vI sa, vI vv, .ref m19, vI rdu, .ref m21, .ref m22, vI se, vI its, .ref m25, .ref m26, vJ lt0]), (m14, aI ca 200 t)] (fun (z : Int) (u : Int × Int) => u.2 = skp t n at0 ∧ (at0 ≤ u.1 ∧ u.1 ≤ n) ∧ ((z = 1 ∧ kd t n (skp t n at0) = 59 ∧ nx t n (skp t n at0) = skp t n u.1) ∨ (z = 0 ∧ ¬ kd t n (skp t n at0) = 59))) (fun (u : Int × Int) => [(hm, oB 8 [.ref m0, vI un, .ref m2, .ref m3, vI mo, vI oft, vI la, vI du, .ref m8, .ref m9, vI to, .ref m11, .ref m12, vJ tr, .ref m14, vI n, vI u.1, vI u.2, vI vv, .ref m19, vI rdu, .ref m21, .ref m22, vI se, vI its, .ref m25, .ref m26, vJ lt0]), (m14, aI ca 200 t)]) 0 0 := by
  refine zm_I (cc := cX8_takesEnd) (maxL := 2) (ret := some .boolean) (by decide) rfl (Nat.le_of_ble_eq_true rfl) ?_
  intro p e s m below meth c A ls R args Q hR hargs hQ hx hb hml hr hts hown hlk hnm hK hP hD hA hS hl
  have hown : s.vm.findClass RX8 = some m.cls := hown
  have hl : lv_has ls 2 [(0, .ref hm)] := hl
  have lk_f98 : (Cond.fieldLink RX8 98 "DripRingsModel" "at" "I").before args s = true := hts _ (by decide +kernel)
  have inF_X8 : ∀ w ∈ wsX80, w ∈ wsX8_takesEnd := by decide +kernel
  have hn := hT.1
  refine lv_aload_n hx hb dX8_takesEnd_0 rfl (lv_at hl 0 rfl) ?_
  refine zc_VV (As := []) (rest := []) (wc := [(hm, oB 8 [.ref m0, vI un, .ref m2, .ref m3, vI mo, vI oft, vI la, vI du, .ref m8, .ref m9, vI to, .ref m11, .ref m12, vJ tr, .ref m14, vI n, vI at0, vI sa, vI vv, .ref m19, vI rdu, .ref m21, .ref m22, vI se, vI its, .ref m25, .ref m26, vJ lt0]), (m14, aI ca 200 t)]) (wr := []) (k_X8_blanks l g ca hm m0 m2 m3 m8 m9 m11 m12 m14 m19 m21 m22 m25 m26 un mo oft la du to tr n at0 sa vv rdu se its lt0 t (by first | assumption | omega) (by first | assumption | omega)) dX8_takesEnd_1 (cwV 0 hts gX8_takesEnd_X8_blanks rfl rfl rfl (by decide +kernel) (by rw [hR]; exact ⟨Nat.le_of_ble_eq_true rfl, Nat.le_of_ble_eq_true rfl⟩)) ⟨hx, hb, hml, hown, hts⟩ hl.1 hK hP hD hS hA 0 rfl rfl rfl [0, 1] [] rfl (by decide) rfl (by decide) (by decide) rfl rfl (Nat.le_of_ble_eq_true rfl) (by rw [hR]; exact ⟨Nat.le_of_ble_eq_true rfl, Nat.le_of_ble_eq_true rfl⟩) (fun u H locs q1 hP hD hS => ?_)
  obtain ⟨at1_1, rfl⟩ : ∃ q, q = u := ⟨_, rfl⟩
  have q1 : at1_1 = skp t n at0 := q1
  have hP : va_P g vwCl [(hm, oB 8 [.ref m0, vI un, .ref m2, .ref m3, vI mo, vI oft, vI la, vI du, .ref m8, .ref m9, vI to, .ref m11, .ref m12, vJ tr, .ref m14, vI n, vI at1_1, vI at1_1, vI vv, .ref m19, vI rdu, .ref m21, .ref m22, vI se, vI its, .ref m25, .ref m26, vJ lt0]), (m14, aI ca 200 t)] H := hP.sub [0, 1] rfl
  have hD : va_D A [(hm, oB 8 [.ref m0, vI un, .ref m2, .ref m3, vI mo, vI oft, vI la, vI du, .ref m8, .ref m9, vI to, .ref m11, .ref m12, vJ tr, .ref m14, vI n, vI at1_1, vI at1_1, vI vv, .ref m19, vI rdu, .ref m21, .ref m22, vI se, vI its, .ref m25, .ref m26, vJ lt0]), (m14, aI ca 200 t)] := hD.sub [0, 1] (by decide) rfl
  have hs1 := skp_all t hat.2
  rw [← q1] at hs1
  refine lv_aload_n hx hb dX8_takesEnd_4 rfl (lv_at hl 0 rfl) ?_
  refine lv_aload_n hx hb dX8_takesEnd_5 rfl (lv_at hl 0 rfl) ?_
  refine va_get (D := g) (ci := 8) (v := vI at1_1) (C := RX8) (T := TX8) (N := 28) hx hb hts inF_X8 hown hK.1 hP 0 rfl rfl 16 (by decide) lk_f98 (fun _ h9 => h9) rfl dX8_takesEnd_6 ?_
  refine zc_VI (As := [vI at1_1]) (rest := []) (wc := [(hm, oB 8 [.ref m0, vI un, .ref m2, .ref m3, vI mo, vI oft, vI la, vI du, .ref m8, .ref m9, vI to, .ref m11, .ref m12, vJ tr, .ref m14, vI n, vI at1_1, vI at1_1, vI vv, .ref m19, vI rdu, .ref m21, .ref m22, vI se, vI its, .ref m25, .ref m26, vJ lt0]), (m14, aI ca 200 t)]) (wr := []) (k_X8_letterAt l g ca hm m0 m2 m3 m8 m9 m11 m12 m14 m19 m21 m22 m25 m26 un mo oft la du to tr n at1_1 at1_1 vv rdu se its lt0 t at1_1 (by first | assumption | omega) (by first | assumption | omega)) dX8_takesEnd_9 (cwV 1 hts gX8_takesEnd_X8_letterAt rfl rfl rfl (by decide +kernel) (by rw [hR]; exact ⟨Nat.le_of_ble_eq_true rfl, Nat.le_of_ble_eq_true rfl⟩)) ⟨hx, hb, hml, hown, hts⟩ hl.1 hK hP hD hS hA 0 rfl rfl rfl [0, 1] [] rfl (by decide) rfl (by decide) (by decide) rfl rfl (Nat.le_of_ble_eq_true rfl) (by rw [hR]; exact ⟨Nat.le_of_ble_eq_true rfl, Nat.le_of_ble_eq_true rfl⟩) (fun z9 u H locs q9 hP hD hS => ?_)
  have q9 : (at1_1 < n ∧ z9 = t at1_1) ∨ (¬ at1_1 < n ∧ z9 = -1) := q9
  have hP : va_P g vwCl [(hm, oB 8 [.ref m0, vI un, .ref m2, .ref m3, vI mo, vI oft, vI la, vI du, .ref m8, .ref m9, vI to, .ref m11, .ref m12, vJ tr, .ref m14, vI n, vI at1_1, vI at1_1, vI vv, .ref m19, vI rdu, .ref m21, .ref m22, vI se, vI its, .ref m25, .ref m26, vJ lt0]), (m14, aI ca 200 t)] H := hP.sub [0, 1] rfl
  have hD : va_D A [(hm, oB 8 [.ref m0, vI un, .ref m2, .ref m3, vI mo, vI oft, vI la, vI du, .ref m8, .ref m9, vI to, .ref m11, .ref m12, vJ tr, .ref m14, vI n, vI at1_1, vI at1_1, vI vv, .ref m19, vI rdu, .ref m21, .ref m22, vI se, vI its, .ref m25, .ref m26, vJ lt0]), (m14, aI ca 200 t)] := hD.sub [0, 1] (by decide) rfl
  have hz9 : -1 ≤ z9 ∧ z9 ≤ 255 := by
    rcases q9 with q9 | q9
    · have := hT.2 at1_1 (by omega) q9.1; omega
    · omega
  refine lv_bipush (v := Int32.ofInt 59) hx hb dX8_takesEnd_12 (by decide) ?_
  refine ri_icmp_ne (tgt := 21) hx hb dX8_takesEnd_14 (by decide) ⟨by omega, by omega⟩ ⟨by omega, by omega⟩ (fun c14 => ?_) (fun c14 => ?_)
  · skip
    refine lv_iconst (v := Int32.ofInt 0) hx hb dX8_takesEnd_21 rfl ?_
    refine lv_istore_n (lv' := [(1, vI 0), (0, .ref hm)]) hx hb dX8_takesEnd_22 rfl hl (by decide) rfl (fun ls hl => ?_)
    refine lv_aload_n hx hb dX8_takesEnd_23 rfl (lv_at hl 1 rfl) ?_
    refine lv_dup hx hb dX8_takesEnd_24 rfl ?_
    refine va_get (D := g) (ci := 8) (v := vI at1_1) (C := RX8) (T := TX8) (N := 28) hx hb hts inF_X8 hown hK.1 hP 0 rfl rfl 16 (by decide) lk_f98 (fun _ h9 => h9) rfl dX8_takesEnd_25 ?_
    refine lv_iload_n hx hb dX8_takesEnd_28 rfl (lv_at hl 0 rfl) ?_
    refine ri_if_eq (tgt := 36) hx hb dX8_takesEnd_29 (by decide) ⟨by omega, by omega⟩ (fun c29_ => ?_) (fun c29_ => ?_)
    · skip
      refine lv_iconst (v := Int32.ofInt 0) hx hb dX8_takesEnd_36 rfl ?_
      refine ri_add hx hb dX8_takesEnd_37 (fun z37 e37 => ?_)
      refine va_put (D := g) (ci := 8) (v := vI z37) (ty := .int) (C := RX8) (T := TX8) (N := 28) hx hb hts inF_X8 tyX8 tyX8_ok nmX8 hown hK.1 hP hD hS 0 rfl rfl 16 (by decide) lk_f98 (fun _ h9 => h9) rfl (by decide +kernel) rfl rfl (Nat.le_of_ble_eq_true rfl) dX8_takesEnd_38 (fun H locs hP hD hS => ?_)
      have hP : va_P g vwCl [(hm, oB 8 [.ref m0, vI un, .ref m2, .ref m3, vI mo, vI oft, vI la, vI du, .ref m8, .ref m9, vI to, .ref m11, .ref m12, vJ tr, .ref m14, vI n, vI z37, vI at1_1, vI vv, .ref m19, vI rdu, .ref m21, .ref m22, vI se, vI its, .ref m25, .ref m26, vJ lt0]), (m14, aI ca 200 t)] H := hP
      have hD : va_D A [(hm, oB 8 [.ref m0, vI un, .ref m2, .ref m3, vI mo, vI oft, vI la, vI du, .ref m8, .ref m9, vI to, .ref m11, .ref m12, vJ tr, .ref m14, vI n, vI z37, vI at1_1, vI vv, .ref m19, vI rdu, .ref m21, .ref m22, vI se, vI its, .ref m25, .ref m26, vJ lt0]), (m14, aI ca 200 t)] := hD
      refine lv_iload_n hx hb dX8_takesEnd_41 rfl (lv_at hl 0 rfl) ?_
      refine zr_Z hx hb hr hlk hQ (z37, at1_1) hP hD hS dX8_takesEnd_42 (Nat.le_of_ble_eq_true rfl) (Nat.le_of_ble_eq_true rfl) (Or.inl rfl) ?_
      show at1_1 = skp t n at0 ∧ (at0 ≤ z37 ∧ z37 ≤ n) ∧ ((0 = 1 ∧ kd t n (skp t n at0) = 59 ∧ nx t n (skp t n at0) = skp t n z37) ∨ (0 = 0 ∧ ¬ kd t n (skp t n at0) = 59))
      refine ⟨q1, by omega, ?_⟩
      rw [← q1]
      first
      | (have h9 : at1_1 < n ∧ t at1_1 = 59 := by omega
         exact Or.inl ⟨rfl, (kd_sign h9.1 (by omega)).mpr h9.2, by unfold nx; rw [en_sign (by omega), e37]⟩)
      | (refine Or.inr ⟨rfl, fun q => ?_⟩
         have h8 := kd_lt (show kd t n at1_1 ≠ -1 by omega)
         have h9 := (kd_sign h8 (by omega)).mp q
         omega)
    · exact absurd c29_ (by decide)
  · skip
    refine lv_iconst (v := Int32.ofInt 1) hx hb dX8_takesEnd_17 rfl ?_
    refine lv_goto (tgt := 22) hx hb dX8_takesEnd_18 (by decide) ?_
    refine lv_istore_n (lv' := [(1, vI 1), (0, .ref hm)]) hx hb dX8_takesEnd_22 rfl hl (by decide) rfl (fun ls hl => ?_)
    refine lv_aload_n hx hb dX8_takesEnd_23 rfl (lv_at hl 1 rfl) ?_
    refine lv_dup hx hb dX8_takesEnd_24 rfl ?_
    refine va_get (D := g) (ci := 8) (v := vI at1_1) (C := RX8) (T := TX8) (N := 28) hx hb hts inF_X8 hown hK.1 hP 0 rfl rfl 16 (by decide) lk_f98 (fun _ h9 => h9) rfl dX8_takesEnd_25 ?_
    refine lv_iload_n hx hb dX8_takesEnd_28 rfl (lv_at hl 0 rfl) ?_
    refine ri_if_eq (tgt := 36) hx hb dX8_takesEnd_29 (by decide) ⟨by omega, by omega⟩ (fun c29_ => ?_) (fun c29_ => ?_)
    · exact absurd c29_ (by decide)
    · skip
      refine lv_iconst (v := Int32.ofInt 1) hx hb dX8_takesEnd_32 rfl ?_
      refine lv_goto (tgt := 37) hx hb dX8_takesEnd_33 (by decide) ?_
      refine ri_add hx hb dX8_takesEnd_37 (fun z37 e37 => ?_)
      refine va_put (D := g) (ci := 8) (v := vI z37) (ty := .int) (C := RX8) (T := TX8) (N := 28) hx hb hts inF_X8 tyX8 tyX8_ok nmX8 hown hK.1 hP hD hS 0 rfl rfl 16 (by decide) lk_f98 (fun _ h9 => h9) rfl (by decide +kernel) rfl rfl (Nat.le_of_ble_eq_true rfl) dX8_takesEnd_38 (fun H locs hP hD hS => ?_)
      have hP : va_P g vwCl [(hm, oB 8 [.ref m0, vI un, .ref m2, .ref m3, vI mo, vI oft, vI la, vI du, .ref m8, .ref m9, vI to, .ref m11, .ref m12, vJ tr, .ref m14, vI n, vI z37, vI at1_1, vI vv, .ref m19, vI rdu, .ref m21, .ref m22, vI se, vI its, .ref m25, .ref m26, vJ lt0]), (m14, aI ca 200 t)] H := hP
      have hD : va_D A [(hm, oB 8 [.ref m0, vI un, .ref m2, .ref m3, vI mo, vI oft, vI la, vI du, .ref m8, .ref m9, vI to, .ref m11, .ref m12, vJ tr, .ref m14, vI n, vI z37, vI at1_1, vI vv, .ref m19, vI rdu, .ref m21, .ref m22, vI se, vI its, .ref m25, .ref m26, vJ lt0]), (m14, aI ca 200 t)] := hD
      refine lv_iload_n hx hb dX8_takesEnd_41 rfl (lv_at hl 0 rfl) ?_
      refine zr_Z hx hb hr hlk hQ (z37, at1_1) hP hD hS dX8_takesEnd_42 (Nat.le_of_ble_eq_true rfl) (Nat.le_of_ble_eq_true rfl) (Or.inr rfl) ?_
      show at1_1 = skp t n at0 ∧ (at0 ≤ z37 ∧ z37 ≤ n) ∧ ((1 = 1 ∧ kd t n (skp t n at0) = 59 ∧ nx t n (skp t n at0) = skp t n z37) ∨ (1 = 0 ∧ ¬ kd t n (skp t n at0) = 59))
      refine ⟨q1, by omega, ?_⟩
      rw [← q1]
      first
      | (have h9 : at1_1 < n ∧ t at1_1 = 59 := by omega
         exact Or.inl ⟨rfl, (kd_sign h9.1 (by omega)).mpr h9.2, by unfold nx; rw [en_sign (by omega), e37]⟩)
      | (refine Or.inr ⟨rfl, fun q => ?_⟩
         have h8 := kd_lt (show kd t n at1_1 ≠ -1 by omega)
         have h9 := (kd_sign h8 (by omega)).mp q
         omega)
set_option maxHeartbeats 4000000 in
set_option maxRecDepth 100000 in
theorem k_X8_takes (l : Launch) (g : va_G) (ca : Nat → ClassId) (hm : Nat) (m0 : Nat) (m2 : Nat) (m3 : Nat) (m8 : Nat) (m9 : Nat) (m11 : Nat) (m12 : Nat) (m14 : Nat) (m19 : Nat) (m21 : Nat) (m22 : Nat) (m25 : Nat) (m26 : Nat) (un : Int) (mo : Int) (oft : Int) (la : Int) (du : Int) (to : Int) (tr : Int) (n : Int) (at0 : Int) (sa : Int) (vv : Int) (rdu : Int) (se : Int) (its : Int) (lt0 : Int) (t : Int → Int) (rd : Int → Int) (pl : Int) (lo : Int) (hi : Int) (hT : TXok t n) (hat : 0 ≤ at0 ∧ at0 ≤ n) (hlo : 0 ≤ lo ∧ lo ≤ 1000 ∧ 0 ≤ hi ∧ hi ≤ 1000) (hpl : 0 ≤ pl ∧ pl ≤ 5) : zI (S := Int × Int × Int × (Int → Int)) l yX8_takes wsX8_takes ({ frames := 3, cells := 0, slots := 0, locals := 64 } : Room) g ca [.ref hm, vI pl, vI lo, vI hi] [(hm, oB 8 [.ref m0, vI un, .ref m2, .ref m3, vI mo, vI oft, vI la, vI du, .ref m8, .ref m9, vI to, .ref m11, .ref m12, vJ tr, .ref m14, vI n, vI at0, vI sa, vI vv, .ref m19, vI rdu, .ref m21, .ref m22, vI se, vI its, .ref m25, .ref m26, vJ lt0]), (m14, aI ca 200 t), (m19, aI ca 6 rd)] (fun (z : Int) (u : Int × Int × Int × (Int → Int)) => u.2.1 = skp t n at0 ∧ (at0 ≤ u.1 ∧ u.1 ≤ n) ∧ ((z = 1 ∧ numOK t n (skp t n at0) lo hi ∧ u.2.2.2 = zu rd pl (vl t n (skp t n at0)) ∧ nx t n (skp t n at0) = skp t n u.1) ∨ (z = 0 ∧ ¬ numOK t n (skp t n at0) lo hi))) (fun (u : Int × Int × Int × (Int → Int)) => [(hm, oB 8 [.ref m0, vI un, .ref m2, .ref m3, vI mo, vI oft, vI la, vI du, .ref m8, .ref m9, vI to, .ref m11, .ref m12, vJ tr, .ref m14, vI n, vI u.1, vI u.2.1, vI u.2.2.1, .ref m19, vI rdu, .ref m21, .ref m22, vI se, vI its, .ref m25, .ref m26, vJ lt0]), (m14, aI ca 200 t), (m19, aI ca 6 u.2.2.2)]) 0 0 := by
  refine zm_I (cc := cX8_takes) (maxL := 4) (ret := some .boolean) (by decide) rfl (Nat.le_of_ble_eq_true rfl) ?_
  intro p e s m below meth c A ls R args Q hR hargs hQ hx hb hml hr hts hown hlk hnm hK hP hD hA hS hl
  have hown : s.vm.findClass RX8 = some m.cls := hown
  have hl : lv_has ls 4 [(0, .ref hm), (1, vI pl), (2, vI lo), (3, vI hi)] := hl
  have lk_f36 : (Cond.fieldLink RX8 36 "DripRingsModel" "read" "[I").before args s = true := hts _ (by decide +kernel)
  have inF_X8 : ∀ w ∈ wsX80, w ∈ wsX8_takes := by decide +kernel
  have lk_f111 : (Cond.fieldLink RX8 111 "DripRingsModel" "value" "I").before args s = true := hts _ (by decide +kernel)
  refine lv_aload_n hx hb dX8_takes_0 rfl (lv_at hl 0 rfl) ?_
  refine lv_iload_n hx hb dX8_takes_1 rfl (lv_at hl 2 rfl) ?_
  refine lv_iload_n hx hb dX8_takes_2 rfl (lv_at hl 3 rfl) ?_
  refine zc_VI (As := [vI lo, vI hi]) (rest := []) (wc := [(hm, oB 8 [.ref m0, vI un, .ref m2, .ref m3, vI mo, vI oft, vI la, vI du, .ref m8, .ref m9, vI to, .ref m11, .ref m12, vJ tr, .ref m14, vI n, vI at0, vI sa, vI vv, .ref m19, vI rdu, .ref m21, .ref m22, vI se, vI its, .ref m25, .ref m26, vJ lt0]), (m14, aI ca 200 t)]) (wr := [(m19, aI ca 6 rd)]) (k_X8_takesNumber l g ca hm m0 m2 m3 m8 m9 m11 m12 m14 m19 m21 m22 m25 m26 un mo oft la du to tr n at0 sa vv rdu se its lt0 t lo hi (by first | assumption | omega) (by first | assumption | omega) (by first | assumption | omega)) dX8_takes_3 (cwV 2 hts gX8_takes_X8_takesNumber rfl rfl rfl (by decide +kernel) (by rw [hR]; exact ⟨Nat.le_of_ble_eq_true rfl, Nat.le_of_ble_eq_true rfl⟩)) ⟨hx, hb, hml, hown, hts⟩ hl.1 hK hP hD hS hA 0 rfl rfl rfl [0, 1] [2] rfl (by decide) rfl (by decide) (by decide) rfl rfl (Nat.le_of_ble_eq_true rfl) (by rw [hR]; exact ⟨Nat.le_of_ble_eq_true rfl, Nat.le_of_ble_eq_true rfl⟩) (fun z3 u H locs q3 hP hD hS => ?_)
  obtain ⟨at1_3, sa1_3, vv1_3⟩ := u
  have q3 : sa1_3 = skp t n at0 ∧ (at0 ≤ at1_3 ∧ at1_3 ≤ n) ∧ ((z3 = 1 ∧ numOK t n (skp t n at0) lo hi ∧ vv1_3 = vl t n (skp t n at0) ∧ nx t n (skp t n at0) = skp t n at1_3) ∨ (z3 = 0 ∧ ¬ numOK t n (skp t n at0) lo hi)) := q3
  obtain ⟨q3_0, q3_1, q3_2⟩ := q3
  have hP : va_P g vwCl [(hm, oB 8 [.ref m0, vI un, .ref m2, .ref m3, vI mo, vI oft, vI la, vI du, .ref m8, .ref m9, vI to, .ref m11, .ref m12, vJ tr, .ref m14, vI n, vI at1_3, vI sa1_3, vI vv1_3, .ref m19, vI rdu, .ref m21, .ref m22, vI se, vI its, .ref m25, .ref m26, vJ lt0]), (m14, aI ca 200 t), (m19, aI ca 6 rd)] H := hP.sub [1, 2, 0] rfl
  have hD : va_D A [(hm, oB 8 [.ref m0, vI un, .ref m2, .ref m3, vI mo, vI oft, vI la, vI du, .ref m8, .ref m9, vI to, .ref m11, .ref m12, vJ tr, .ref m14, vI n, vI at1_3, vI sa1_3, vI vv1_3, .ref m19, vI rdu, .ref m21, .ref m22, vI se, vI its, .ref m25, .ref m26, vJ lt0]), (m14, aI ca 200 t), (m19, aI ca 6 rd)] := hD.sub [1, 2, 0] (by decide) rfl
  refine ri_if_ne (tgt := 11) hx hb dX8_takes_6 (by decide) ⟨by omega, by omega⟩ (fun c6 => ?_) (fun c6 => ?_)
  · skip
    refine lv_aload_n hx hb dX8_takes_11 rfl (lv_at hl 0 rfl) ?_
    refine va_get (D := g) (ci := 8) (v := .ref m19) (C := RX8) (T := TX8) (N := 28) hx hb hts inF_X8 hown hK.1 hP 0 rfl rfl 19 (by decide) lk_f36 (fun _ h9 => h9) rfl dX8_takes_12 ?_
    refine lv_iload_n hx hb dX8_takes_15 rfl (lv_at hl 1 rfl) ?_
    refine lv_aload_n hx hb dX8_takes_16 rfl (lv_at hl 0 rfl) ?_
    refine va_get (D := g) (ci := 8) (v := vI vv1_3) (C := RX8) (T := TX8) (N := 28) hx hb hts inF_X8 hown hK.1 hP 0 rfl rfl 18 (by decide) lk_f111 (fun _ h9 => h9) rfl dX8_takes_17 ?_
    refine ra_ist hx hb hK hP hD hS 2 rfl dX8_takes_20 ⟨by omega, by omega⟩ (by omega) (fun H locs hP hD hS => ?_)
    have hP : va_P g vwCl [(hm, oB 8 [.ref m0, vI un, .ref m2, .ref m3, vI mo, vI oft, vI la, vI du, .ref m8, .ref m9, vI to, .ref m11, .ref m12, vJ tr, .ref m14, vI n, vI at1_3, vI sa1_3, vI vv1_3, .ref m19, vI rdu, .ref m21, .ref m22, vI se, vI its, .ref m25, .ref m26, vJ lt0]), (m14, aI ca 200 t), (m19, aI ca 6 (zu rd pl vv1_3))] H := hP
    have hD : va_D A [(hm, oB 8 [.ref m0, vI un, .ref m2, .ref m3, vI mo, vI oft, vI la, vI du, .ref m8, .ref m9, vI to, .ref m11, .ref m12, vJ tr, .ref m14, vI n, vI at1_3, vI sa1_3, vI vv1_3, .ref m19, vI rdu, .ref m21, .ref m22, vI se, vI its, .ref m25, .ref m26, vJ lt0]), (m14, aI ca 200 t), (m19, aI ca 6 (zu rd pl vv1_3))] := hD
    refine lv_iconst (v := Int32.ofInt 1) hx hb dX8_takes_21 rfl ?_
    refine zr_Z hx hb hr hlk hQ (at1_3, sa1_3, vv1_3, zu rd pl vv1_3) hP hD hS dX8_takes_22 (Nat.le_of_ble_eq_true rfl) (Nat.le_of_ble_eq_true rfl) (Or.inr rfl) ?_
    show sa1_3 = skp t n at0 ∧ (at0 ≤ at1_3 ∧ at1_3 ≤ n) ∧ ((1 = 1 ∧ numOK t n (skp t n at0) lo hi ∧ (zu rd pl vv1_3) = zu rd pl (vl t n (skp t n at0)) ∧ nx t n (skp t n at0) = skp t n at1_3) ∨ (1 = 0 ∧ ¬ numOK t n (skp t n at0) lo hi))
    refine ⟨q3_0, by omega, ?_⟩
    rcases q3_2 with q9 | q9
    · first | exact Or.inl ⟨rfl, q9.2.1, by rw [q9.2.2.1], q9.2.2.2⟩ | (exfalso; omega)
    · first | exact Or.inr ⟨rfl, q9.2⟩ | (exfalso; omega)
  · skip
    refine lv_iconst (v := Int32.ofInt 0) hx hb dX8_takes_9 rfl ?_
    refine zr_Z hx hb hr hlk hQ (at1_3, sa1_3, vv1_3, rd) hP hD hS dX8_takes_10 (Nat.le_of_ble_eq_true rfl) (Nat.le_of_ble_eq_true rfl) (Or.inl rfl) ?_
    show sa1_3 = skp t n at0 ∧ (at0 ≤ at1_3 ∧ at1_3 ≤ n) ∧ ((0 = 1 ∧ numOK t n (skp t n at0) lo hi ∧ rd = zu rd pl (vl t n (skp t n at0)) ∧ nx t n (skp t n at0) = skp t n at1_3) ∨ (0 = 0 ∧ ¬ numOK t n (skp t n at0) lo hi))
    refine ⟨q3_0, by omega, ?_⟩
    rcases q3_2 with q9 | q9
    · first | exact Or.inl ⟨rfl, q9.2.1, by rw [q9.2.2.1], q9.2.2.2⟩ | (exfalso; omega)
    · first | exact Or.inr ⟨rfl, q9.2⟩ | (exfalso; omega)
set_option maxHeartbeats 4000000 in
set_option maxRecDepth 100000 in
theorem k_X8_takesDue (l : Launch) (g : va_G) (ca : Nat → ClassId) (hm : Nat) (m0 : Nat) (m2 : Nat) (m3 : Nat) (m8 : Nat) (m9 : Nat) (m11 : Nat) (m12 : Nat) (m14 : Nat) (m19 : Nat) (m21 : Nat) (m22 : Nat) (m25 : Nat) (m26 : Nat) (un : Int) (mo : Int) (oft : Int) (la : Int) (du : Int) (to : Int) (tr : Int) (n : Int) (at0 : Int) (sa : Int) (vv : Int) (rdu : Int) (se : Int) (its : Int) (lt0 : Int) (t : Int → Int) (rN : Int → Int) (rW : Int → Int) (hT : TXok t n) (hat : 0 ≤ at0 ∧ at0 ≤ n) (hrdu : 0 ≤ rdu ∧ rdu ≤ 6) : zI (S := Int × Int × Int × Int × (Int → Int) × (Int → Int)) l yX8_takesDue wsX8_takesDue ({ frames := 3, cells := 0, slots := 0, locals := 64 } : Room) g ca [.ref hm] [(hm, oB 8 [.ref m0, vI un, .ref m2, .ref m3, vI mo, vI oft, vI la, vI du, .ref m8, .ref m9, vI to, .ref m11, .ref m12, vJ tr, .ref m14, vI n, vI at0, vI sa, vI vv, .ref m19, vI rdu, .ref m21, .ref m22, vI se, vI its, .ref m25, .ref m26, vJ lt0]), (m14, aI ca 200 t), (m21, aI ca 6 rN), (m22, aI ca 6 rW)] (fun (z : Int) (u : Int × Int × Int × Int × (Int → Int) × (Int → Int)) => (at0 ≤ u.1 ∧ u.1 ≤ n) ∧ ((z = 1 ∧ rdu < 6 ∧ numOK t n (skp t n at0) 1 120 ∧ numOK t n (nx t n (skp t n at0)) 1 200 ∧ nx t n (nx t n (skp t n at0)) = skp t n u.1 ∧ u.2.2.2.1 = rdu + 1 ∧ u.2.2.2.2.1 = zu rN rdu (vl t n (skp t n at0)) ∧ u.2.2.2.2.2 = zu rW rdu (vl t n (nx t n (skp t n at0)))) ∨ (z = 0 ∧ ((rdu = 6 ∧ u.2.1 = sa) ∨ (rdu < 6 ∧ ¬ numOK t n (skp t n at0) 1 120 ∧ u.2.1 = skp t n at0) ∨ (rdu < 6 ∧ numOK t n (skp t n at0) 1 120 ∧ ¬ numOK t n (nx t n (skp t n at0)) 1 200 ∧ u.2.1 = nx t n (skp t n at0)))))) (fun (u : Int × Int × Int × Int × (Int → Int) × (Int → Int)) => [(hm, oB 8 [.ref m0, vI un, .ref m2, .ref m3, vI mo, vI oft, vI la, vI du, .ref m8, .ref m9, vI to, .ref m11, .ref m12, vJ tr, .ref m14, vI n, vI u.1, vI u.2.1, vI u.2.2.1, .ref m19, vI u.2.2.2.1, .ref m21, .ref m22, vI se, vI its, .ref m25, .ref m26, vJ lt0]), (m14, aI ca 200 t), (m21, aI ca 6 u.2.2.2.2.1), (m22, aI ca 6 u.2.2.2.2.2)]) 0 0 := by
  refine zm_I (cc := cX8_takesDue) (maxL := 1) (ret := some .boolean) (by decide) rfl (Nat.le_of_ble_eq_true rfl) ?_
  intro p e s m below meth c A ls R args Q hR hargs hQ hx hb hml hr hts hown hlk hnm hK hP hD hA hS hl
  have hown : s.vm.findClass RX8 = some m.cls := hown
  have hl : lv_has ls 1 [(0, .ref hm)] := hl
  have lk_f57 : (Cond.fieldLink RX8 57 "DripRingsModel" "readDues" "I").before args s = true := hts _ (by decide +kernel)
  have inF_X8 : ∀ w ∈ wsX80, w ∈ wsX8_takesDue := by decide +kernel
  have lk_f39 : (Cond.fieldLink RX8 39 "DripRingsModel" "readNight" "[I").before args s = true := hts _ (by decide +kernel)
  have lk_f111 : (Cond.fieldLink RX8 111 "DripRingsModel" "value" "I").before args s = true := hts _ (by decide +kernel)
  have lk_f42 : (Cond.fieldLink RX8 42 "DripRingsModel" "readWeight" "[I").before args s = true := hts _ (by decide +kernel)
  refine lv_aload_n hx hb dX8_takesDue_0 rfl (lv_at hl 0 rfl) ?_
  refine va_get (D := g) (ci := 8) (v := vI rdu) (C := RX8) (T := TX8) (N := 28) hx hb hts inF_X8 hown hK.1 hP 0 rfl rfl 20 (by decide) lk_f57 (fun _ h9 => h9) rfl dX8_takesDue_1 ?_
  refine lv_bipush (v := Int32.ofInt 6) hx hb dX8_takesDue_4 (by decide) ?_
  refine ri_icmp_eq (tgt := 19) hx hb dX8_takesDue_6 (by decide) ⟨by omega, by omega⟩ ⟨by omega, by omega⟩ (fun c6 => ?_) (fun c6 => ?_)
  · skip
    refine lv_iconst (v := Int32.ofInt 0) hx hb dX8_takesDue_19 rfl ?_
    refine zr_Z hx hb hr hlk hQ (at0, sa, vv, rdu, rN, rW) hP hD hS dX8_takesDue_20 (Nat.le_of_ble_eq_true rfl) (Nat.le_of_ble_eq_true rfl) (Or.inl rfl) ?_
    show (at0 ≤ at0 ∧ at0 ≤ n) ∧ ((0 = 1 ∧ rdu < 6 ∧ numOK t n (skp t n at0) 1 120 ∧ numOK t n (nx t n (skp t n at0)) 1 200 ∧ nx t n (nx t n (skp t n at0)) = skp t n at0 ∧ rdu = rdu + 1 ∧ rN = zu rN rdu (vl t n (skp t n at0)) ∧ rW = zu rW rdu (vl t n (nx t n (skp t n at0)))) ∨ (0 = 0 ∧ ((rdu = 6 ∧ sa = sa) ∨ (rdu < 6 ∧ ¬ numOK t n (skp t n at0) 1 120 ∧ sa = skp t n at0) ∨ (rdu < 6 ∧ numOK t n (skp t n at0) 1 120 ∧ ¬ numOK t n (nx t n (skp t n at0)) 1 200 ∧ sa = nx t n (skp t n at0)))))
    refine ⟨by omega, ?_⟩
    first
    | exact Or.inr ⟨rfl, Or.inl ⟨by omega, rfl⟩⟩
    | (rcases q13_2 with q9 | q9
       · first
         | (rw [← q9.2.2.2] at q39_0 q39_2
            rcases q39_2 with q8 | q8
            · first | exact Or.inl ⟨rfl, by omega, q9.2.1, q8.2.1, q8.2.2.2, e66, by rw [q9.2.2.1], by rw [q8.2.2.1]⟩ | (exfalso; omega)
            · first | exact Or.inr ⟨rfl, Or.inr (Or.inr ⟨by omega, q9.2.1, q8.2, q39_0⟩)⟩ | (exfalso; omega))
         | (exfalso; omega)
       · first | exact Or.inr ⟨rfl, Or.inr (Or.inl ⟨by omega, q9.2, q13_0⟩)⟩ | (exfalso; omega))
  · skip
    refine lv_aload_n hx hb dX8_takesDue_9 rfl (lv_at hl 0 rfl) ?_
    refine lv_iconst (v := Int32.ofInt 1) hx hb dX8_takesDue_10 rfl ?_
    refine lv_bipush (v := Int32.ofInt 120) hx hb dX8_takesDue_11 (by decide) ?_
    refine zc_VI (As := [vI 1, vI 120]) (rest := []) (wc := [(hm, oB 8 [.ref m0, vI un, .ref m2, .ref m3, vI mo, vI oft, vI la, vI du, .ref m8, .ref m9, vI to, .ref m11, .ref m12, vJ tr, .ref m14, vI n, vI at0, vI sa, vI vv, .ref m19, vI rdu, .ref m21, .ref m22, vI se, vI its, .ref m25, .ref m26, vJ lt0]), (m14, aI ca 200 t)]) (wr := [(m21, aI ca 6 rN), (m22, aI ca 6 rW)]) (k_X8_takesNumber l g ca hm m0 m2 m3 m8 m9 m11 m12 m14 m19 m21 m22 m25 m26 un mo oft la du to tr n at0 sa vv rdu se its lt0 t 1 120 (by first | assumption | omega) (by first | assumption | omega) (by first | assumption | omega)) dX8_takesDue_13 (cwV 2 hts gX8_takesDue_X8_takesNumber rfl rfl rfl (by decide +kernel) (by rw [hR]; exact ⟨Nat.le_of_ble_eq_true rfl, Nat.le_of_ble_eq_true rfl⟩)) ⟨hx, hb, hml, hown, hts⟩ hl.1 hK hP hD hS hA 0 rfl rfl rfl [0, 1] [2, 3] rfl (by decide) rfl (by decide) (by decide) rfl rfl (Nat.le_of_ble_eq_true rfl) (by rw [hR]; exact ⟨Nat.le_of_ble_eq_true rfl, Nat.le_of_ble_eq_true rfl⟩) (fun z13 u H locs q13 hP hD hS => ?_)
    obtain ⟨at1_13, sa1_13, vv1_13⟩ := u
    have q13 : sa1_13 = skp t n at0 ∧ (at0 ≤ at1_13 ∧ at1_13 ≤ n) ∧ ((z13 = 1 ∧ numOK t n (skp t n at0) 1 120 ∧ vv1_13 = vl t n (skp t n at0) ∧ nx t n (skp t n at0) = skp t n at1_13) ∨ (z13 = 0 ∧ ¬ numOK t n (skp t n at0) 1 120)) := q13
    obtain ⟨q13_0, q13_1, q13_2⟩ := q13
    have hP : va_P g vwCl [(hm, oB 8 [.ref m0, vI un, .ref m2, .ref m3, vI mo, vI oft, vI la, vI du, .ref m8, .ref m9, vI to, .ref m11, .ref m12, vJ tr, .ref m14, vI n, vI at1_13, vI sa1_13, vI vv1_13, .ref m19, vI rdu, .ref m21, .ref m22, vI se, vI its, .ref m25, .ref m26, vJ lt0]), (m14, aI ca 200 t), (m21, aI ca 6 rN), (m22, aI ca 6 rW)] H := hP.sub [2, 3, 0, 1] rfl
    have hD : va_D A [(hm, oB 8 [.ref m0, vI un, .ref m2, .ref m3, vI mo, vI oft, vI la, vI du, .ref m8, .ref m9, vI to, .ref m11, .ref m12, vJ tr, .ref m14, vI n, vI at1_13, vI sa1_13, vI vv1_13, .ref m19, vI rdu, .ref m21, .ref m22, vI se, vI its, .ref m25, .ref m26, vJ lt0]), (m14, aI ca 200 t), (m21, aI ca 6 rN), (m22, aI ca 6 rW)] := hD.sub [2, 3, 0, 1] (by decide) rfl
    refine ri_if_ne (tgt := 21) hx hb dX8_takesDue_16 (by decide) ⟨by omega, by omega⟩ (fun c16 => ?_) (fun c16 => ?_)
    · skip
      refine lv_aload_n hx hb dX8_takesDue_21 rfl (lv_at hl 0 rfl) ?_
      refine va_get (D := g) (ci := 8) (v := .ref m21) (C := RX8) (T := TX8) (N := 28) hx hb hts inF_X8 hown hK.1 hP 0 rfl rfl 21 (by decide) lk_f39 (fun _ h9 => h9) rfl dX8_takesDue_22 ?_
      refine lv_aload_n hx hb dX8_takesDue_25 rfl (lv_at hl 0 rfl) ?_
      refine va_get (D := g) (ci := 8) (v := vI rdu) (C := RX8) (T := TX8) (N := 28) hx hb hts inF_X8 hown hK.1 hP 0 rfl rfl 20 (by decide) lk_f57 (fun _ h9 => h9) rfl dX8_takesDue_26 ?_
      refine lv_aload_n hx hb dX8_takesDue_29 rfl (lv_at hl 0 rfl) ?_
      refine va_get (D := g) (ci := 8) (v := vI vv1_13) (C := RX8) (T := TX8) (N := 28) hx hb hts inF_X8 hown hK.1 hP 0 rfl rfl 18 (by decide) lk_f111 (fun _ h9 => h9) rfl dX8_takesDue_30 ?_
      refine ra_ist hx hb hK hP hD hS 2 rfl dX8_takesDue_33 ⟨by omega, by omega⟩ (by omega) (fun H locs hP hD hS => ?_)
      have hP : va_P g vwCl [(hm, oB 8 [.ref m0, vI un, .ref m2, .ref m3, vI mo, vI oft, vI la, vI du, .ref m8, .ref m9, vI to, .ref m11, .ref m12, vJ tr, .ref m14, vI n, vI at1_13, vI sa1_13, vI vv1_13, .ref m19, vI rdu, .ref m21, .ref m22, vI se, vI its, .ref m25, .ref m26, vJ lt0]), (m14, aI ca 200 t), (m21, aI ca 6 (zu rN rdu vv1_13)), (m22, aI ca 6 rW)] H := hP
      have hD : va_D A [(hm, oB 8 [.ref m0, vI un, .ref m2, .ref m3, vI mo, vI oft, vI la, vI du, .ref m8, .ref m9, vI to, .ref m11, .ref m12, vJ tr, .ref m14, vI n, vI at1_13, vI sa1_13, vI vv1_13, .ref m19, vI rdu, .ref m21, .ref m22, vI se, vI its, .ref m25, .ref m26, vJ lt0]), (m14, aI ca 200 t), (m21, aI ca 6 (zu rN rdu vv1_13)), (m22, aI ca 6 rW)] := hD
      refine lv_aload_n hx hb dX8_takesDue_34 rfl (lv_at hl 0 rfl) ?_
      refine lv_iconst (v := Int32.ofInt 1) hx hb dX8_takesDue_35 rfl ?_
      refine lv_sipush (v := Int32.ofInt 200) hx hb dX8_takesDue_36 (by decide) ?_
      refine zc_VI (As := [vI 1, vI 200]) (rest := []) (wc := [(hm, oB 8 [.ref m0, vI un, .ref m2, .ref m3, vI mo, vI oft, vI la, vI du, .ref m8, .ref m9, vI to, .ref m11, .ref m12, vJ tr, .ref m14, vI n, vI at1_13, vI sa1_13, vI vv1_13, .ref m19, vI rdu, .ref m21, .ref m22, vI se, vI its, .ref m25, .ref m26, vJ lt0]), (m14, aI ca 200 t)]) (wr := [(m21, aI ca 6 (zu rN rdu vv1_13)), (m22, aI ca 6 rW)]) (k_X8_takesNumber l g ca hm m0 m2 m3 m8 m9 m11 m12 m14 m19 m21 m22 m25 m26 un mo oft la du to tr n at1_13 sa1_13 vv1_13 rdu se its lt0 t 1 200 (by first | assumption | omega) (by first | assumption | omega) (by first | assumption | omega)) dX8_takesDue_39 (cwV 2 hts gX8_takesDue_X8_takesNumber rfl rfl rfl (by decide +kernel) (by rw [hR]; exact ⟨Nat.le_of_ble_eq_true rfl, Nat.le_of_ble_eq_true rfl⟩)) ⟨hx, hb, hml, hown, hts⟩ hl.1 hK hP hD hS hA 0 rfl rfl rfl [0, 1] [2, 3] rfl (by decide) rfl (by decide) (by decide) rfl rfl (Nat.le_of_ble_eq_true rfl) (by rw [hR]; exact ⟨Nat.le_of_ble_eq_true rfl, Nat.le_of_ble_eq_true rfl⟩) (fun z39 u H locs q39 hP hD hS => ?_)
      obtain ⟨at1_39, sa1_39, vv1_39⟩ := u
      have q39 : sa1_39 = skp t n at1_13 ∧ (at1_13 ≤ at1_39 ∧ at1_39 ≤ n) ∧ ((z39 = 1 ∧ numOK t n (skp t n at1_13) 1 200 ∧ vv1_39 = vl t n (skp t n at1_13) ∧ nx t n (skp t n at1_13) = skp t n at1_39) ∨ (z39 = 0 ∧ ¬ numOK t n (skp t n at1_13) 1 200)) := q39
      obtain ⟨q39_0, q39_1, q39_2⟩ := q39
      have hP : va_P g vwCl [(hm, oB 8 [.ref m0, vI un, .ref m2, .ref m3, vI mo, vI oft, vI la, vI du, .ref m8, .ref m9, vI to, .ref m11, .ref m12, vJ tr, .ref m14, vI n, vI at1_39, vI sa1_39, vI vv1_39, .ref m19, vI rdu, .ref m21, .ref m22, vI se, vI its, .ref m25, .ref m26, vJ lt0]), (m14, aI ca 200 t), (m21, aI ca 6 (zu rN rdu vv1_13)), (m22, aI ca 6 rW)] H := hP.sub [2, 3, 0, 1] rfl
      have hD : va_D A [(hm, oB 8 [.ref m0, vI un, .ref m2, .ref m3, vI mo, vI oft, vI la, vI du, .ref m8, .ref m9, vI to, .ref m11, .ref m12, vJ tr, .ref m14, vI n, vI at1_39, vI sa1_39, vI vv1_39, .ref m19, vI rdu, .ref m21, .ref m22, vI se, vI its, .ref m25, .ref m26, vJ lt0]), (m14, aI ca 200 t), (m21, aI ca 6 (zu rN rdu vv1_13)), (m22, aI ca 6 rW)] := hD.sub [2, 3, 0, 1] (by decide) rfl
      refine ri_if_ne (tgt := 47) hx hb dX8_takesDue_42 (by decide) ⟨by omega, by omega⟩ (fun c42 => ?_) (fun c42 => ?_)
      · skip
        refine lv_aload_n hx hb dX8_takesDue_47 rfl (lv_at hl 0 rfl) ?_
        refine va_get (D := g) (ci := 8) (v := .ref m22) (C := RX8) (T := TX8) (N := 28) hx hb hts inF_X8 hown hK.1 hP 0 rfl rfl 22 (by decide) lk_f42 (fun _ h9 => h9) rfl dX8_takesDue_48 ?_
        refine lv_aload_n hx hb dX8_takesDue_51 rfl (lv_at hl 0 rfl) ?_
        refine va_get (D := g) (ci := 8) (v := vI rdu) (C := RX8) (T := TX8) (N := 28) hx hb hts inF_X8 hown hK.1 hP 0 rfl rfl 20 (by decide) lk_f57 (fun _ h9 => h9) rfl dX8_takesDue_52 ?_
        refine lv_aload_n hx hb dX8_takesDue_55 rfl (lv_at hl 0 rfl) ?_
        refine va_get (D := g) (ci := 8) (v := vI vv1_39) (C := RX8) (T := TX8) (N := 28) hx hb hts inF_X8 hown hK.1 hP 0 rfl rfl 18 (by decide) lk_f111 (fun _ h9 => h9) rfl dX8_takesDue_56 ?_
        refine ra_ist hx hb hK hP hD hS 3 rfl dX8_takesDue_59 ⟨by omega, by omega⟩ (by omega) (fun H locs hP hD hS => ?_)
        have hP : va_P g vwCl [(hm, oB 8 [.ref m0, vI un, .ref m2, .ref m3, vI mo, vI oft, vI la, vI du, .ref m8, .ref m9, vI to, .ref m11, .ref m12, vJ tr, .ref m14, vI n, vI at1_39, vI sa1_39, vI vv1_39, .ref m19, vI rdu, .ref m21, .ref m22, vI se, vI its, .ref m25, .ref m26, vJ lt0]), (m14, aI ca 200 t), (m21, aI ca 6 (zu rN rdu vv1_13)), (m22, aI ca 6 (zu rW rdu vv1_39))] H := hP
        have hD : va_D A [(hm, oB 8 [.ref m0, vI un, .ref m2, .ref m3, vI mo, vI oft, vI la, vI du, .ref m8, .ref m9, vI to, .ref m11, .ref m12, vJ tr, .ref m14, vI n, vI at1_39, vI sa1_39, vI vv1_39, .ref m19, vI rdu, .ref m21, .ref m22, vI se, vI its, .ref m25, .ref m26, vJ lt0]), (m14, aI ca 200 t), (m21, aI ca 6 (zu rN rdu vv1_13)), (m22, aI ca 6 (zu rW rdu vv1_39))] := hD
        refine lv_aload_n hx hb dX8_takesDue_60 rfl (lv_at hl 0 rfl) ?_
        refine lv_dup hx hb dX8_takesDue_61 rfl ?_
        refine va_get (D := g) (ci := 8) (v := vI rdu) (C := RX8) (T := TX8) (N := 28) hx hb hts inF_X8 hown hK.1 hP 0 rfl rfl 20 (by decide) lk_f57 (fun _ h9 => h9) rfl dX8_takesDue_62 ?_
        refine lv_iconst (v := Int32.ofInt 1) hx hb dX8_takesDue_65 rfl ?_
        refine ri_add hx hb dX8_takesDue_66 (fun z66 e66 => ?_)
        refine va_put (D := g) (ci := 8) (v := vI z66) (ty := .int) (C := RX8) (T := TX8) (N := 28) hx hb hts inF_X8 tyX8 tyX8_ok nmX8 hown hK.1 hP hD hS 0 rfl rfl 20 (by decide) lk_f57 (fun _ h9 => h9) rfl (by decide +kernel) rfl rfl (Nat.le_of_ble_eq_true rfl) dX8_takesDue_67 (fun H locs hP hD hS => ?_)
        have hP : va_P g vwCl [(hm, oB 8 [.ref m0, vI un, .ref m2, .ref m3, vI mo, vI oft, vI la, vI du, .ref m8, .ref m9, vI to, .ref m11, .ref m12, vJ tr, .ref m14, vI n, vI at1_39, vI sa1_39, vI vv1_39, .ref m19, vI z66, .ref m21, .ref m22, vI se, vI its, .ref m25, .ref m26, vJ lt0]), (m14, aI ca 200 t), (m21, aI ca 6 (zu rN rdu vv1_13)), (m22, aI ca 6 (zu rW rdu vv1_39))] H := hP
        have hD : va_D A [(hm, oB 8 [.ref m0, vI un, .ref m2, .ref m3, vI mo, vI oft, vI la, vI du, .ref m8, .ref m9, vI to, .ref m11, .ref m12, vJ tr, .ref m14, vI n, vI at1_39, vI sa1_39, vI vv1_39, .ref m19, vI z66, .ref m21, .ref m22, vI se, vI its, .ref m25, .ref m26, vJ lt0]), (m14, aI ca 200 t), (m21, aI ca 6 (zu rN rdu vv1_13)), (m22, aI ca 6 (zu rW rdu vv1_39))] := hD
        refine lv_iconst (v := Int32.ofInt 1) hx hb dX8_takesDue_70 rfl ?_
        refine zr_Z hx hb hr hlk hQ (at1_39, sa1_39, vv1_39, z66, zu rN rdu vv1_13, zu rW rdu vv1_39) hP hD hS dX8_takesDue_71 (Nat.le_of_ble_eq_true rfl) (Nat.le_of_ble_eq_true rfl) (Or.inr rfl) ?_
        show (at0 ≤ at1_39 ∧ at1_39 ≤ n) ∧ ((1 = 1 ∧ rdu < 6 ∧ numOK t n (skp t n at0) 1 120 ∧ numOK t n (nx t n (skp t n at0)) 1 200 ∧ nx t n (nx t n (skp t n at0)) = skp t n at1_39 ∧ z66 = rdu + 1 ∧ (zu rN rdu vv1_13) = zu rN rdu (vl t n (skp t n at0)) ∧ (zu rW rdu vv1_39) = zu rW rdu (vl t n (nx t n (skp t n at0)))) ∨ (1 = 0 ∧ ((rdu = 6 ∧ sa1_39 = sa) ∨ (rdu < 6 ∧ ¬ numOK t n (skp t n at0) 1 120 ∧ sa1_39 = skp t n at0) ∨ (rdu < 6 ∧ numOK t n (skp t n at0) 1 120 ∧ ¬ numOK t n (nx t n (skp t n at0)) 1 200 ∧ sa1_39 = nx t n (skp t n at0)))))
        refine ⟨by omega, ?_⟩
        first
        | exact Or.inr ⟨rfl, Or.inl ⟨by omega, rfl⟩⟩
        | (rcases q13_2 with q9 | q9
           · first
             | (rw [← q9.2.2.2] at q39_0 q39_2
                rcases q39_2 with q8 | q8
                · first | exact Or.inl ⟨rfl, by omega, q9.2.1, q8.2.1, q8.2.2.2, e66, by rw [q9.2.2.1], by rw [q8.2.2.1]⟩ | (exfalso; omega)
                · first | exact Or.inr ⟨rfl, Or.inr (Or.inr ⟨by omega, q9.2.1, q8.2, q39_0⟩)⟩ | (exfalso; omega))
             | (exfalso; omega)
           · first | exact Or.inr ⟨rfl, Or.inr (Or.inl ⟨by omega, q9.2, q13_0⟩)⟩ | (exfalso; omega))
      · skip
        refine lv_iconst (v := Int32.ofInt 0) hx hb dX8_takesDue_45 rfl ?_
        refine zr_Z hx hb hr hlk hQ (at1_39, sa1_39, vv1_39, rdu, zu rN rdu vv1_13, rW) hP hD hS dX8_takesDue_46 (Nat.le_of_ble_eq_true rfl) (Nat.le_of_ble_eq_true rfl) (Or.inl rfl) ?_
        show (at0 ≤ at1_39 ∧ at1_39 ≤ n) ∧ ((0 = 1 ∧ rdu < 6 ∧ numOK t n (skp t n at0) 1 120 ∧ numOK t n (nx t n (skp t n at0)) 1 200 ∧ nx t n (nx t n (skp t n at0)) = skp t n at1_39 ∧ rdu = rdu + 1 ∧ (zu rN rdu vv1_13) = zu rN rdu (vl t n (skp t n at0)) ∧ rW = zu rW rdu (vl t n (nx t n (skp t n at0)))) ∨ (0 = 0 ∧ ((rdu = 6 ∧ sa1_39 = sa) ∨ (rdu < 6 ∧ ¬ numOK t n (skp t n at0) 1 120 ∧ sa1_39 = skp t n at0) ∨ (rdu < 6 ∧ numOK t n (skp t n at0) 1 120 ∧ ¬ numOK t n (nx t n (skp t n at0)) 1 200 ∧ sa1_39 = nx t n (skp t n at0)))))
        refine ⟨by omega, ?_⟩
        first
        | exact Or.inr ⟨rfl, Or.inl ⟨by omega, rfl⟩⟩
        | (rcases q13_2 with q9 | q9
           · first
             | (rw [← q9.2.2.2] at q39_0 q39_2
                rcases q39_2 with q8 | q8
                · first | exact Or.inl ⟨rfl, by omega, q9.2.1, q8.2.1, q8.2.2.2, e66, by rw [q9.2.2.1], by rw [q8.2.2.1]⟩ | (exfalso; omega)
                · first | exact Or.inr ⟨rfl, Or.inr (Or.inr ⟨by omega, q9.2.1, q8.2, q39_0⟩)⟩ | (exfalso; omega))
             | (exfalso; omega)
           · first | exact Or.inr ⟨rfl, Or.inr (Or.inl ⟨by omega, q9.2, q13_0⟩)⟩ | (exfalso; omega))
    · skip
      refine lv_iconst (v := Int32.ofInt 0) hx hb dX8_takesDue_19 rfl ?_
      refine zr_Z hx hb hr hlk hQ (at1_13, sa1_13, vv1_13, rdu, rN, rW) hP hD hS dX8_takesDue_20 (Nat.le_of_ble_eq_true rfl) (Nat.le_of_ble_eq_true rfl) (Or.inl rfl) ?_
      show (at0 ≤ at1_13 ∧ at1_13 ≤ n) ∧ ((0 = 1 ∧ rdu < 6 ∧ numOK t n (skp t n at0) 1 120 ∧ numOK t n (nx t n (skp t n at0)) 1 200 ∧ nx t n (nx t n (skp t n at0)) = skp t n at1_13 ∧ rdu = rdu + 1 ∧ rN = zu rN rdu (vl t n (skp t n at0)) ∧ rW = zu rW rdu (vl t n (nx t n (skp t n at0)))) ∨ (0 = 0 ∧ ((rdu = 6 ∧ sa1_13 = sa) ∨ (rdu < 6 ∧ ¬ numOK t n (skp t n at0) 1 120 ∧ sa1_13 = skp t n at0) ∨ (rdu < 6 ∧ numOK t n (skp t n at0) 1 120 ∧ ¬ numOK t n (nx t n (skp t n at0)) 1 200 ∧ sa1_13 = nx t n (skp t n at0)))))
      refine ⟨by omega, ?_⟩
      first
      | exact Or.inr ⟨rfl, Or.inl ⟨by omega, rfl⟩⟩
      | (rcases q13_2 with q9 | q9
         · first
           | (rw [← q9.2.2.2] at q39_0 q39_2
              rcases q39_2 with q8 | q8
              · first | exact Or.inl ⟨rfl, by omega, q9.2.1, q8.2.1, q8.2.2.2, e66, by rw [q9.2.2.1], by rw [q8.2.2.1]⟩ | (exfalso; omega)
              · first | exact Or.inr ⟨rfl, Or.inr (Or.inr ⟨by omega, q9.2.1, q8.2, q39_0⟩)⟩ | (exfalso; omega))
           | (exfalso; omega)
         · first | exact Or.inr ⟨rfl, Or.inr (Or.inl ⟨by omega, q9.2, q13_0⟩)⟩ | (exfalso; omega))
