set_option maxHeartbeats 4000000 in
set_option maxRecDepth 100000 in
theorem k_X8_begins (l : Launch) (g : va_G) (ca : Nat → ClassId) (hm : Nat) (m0 : Nat) (m2 : Nat) (m3 : Nat) (m8 : Nat) (m9 : Nat) (m11 : Nat) (m12 : Nat) (m14 : Nat) (m19 : Nat) (m21 : Nat) (m22 : Nat) (m25 : Nat) (m26 : Nat) (un : Int) (mo : Int) (oft : Int) (la : Int) (du : Int) (to : Int) (tr : Int) (n : Int) (at0 : Int) (sa : Int) (vv : Int) (rdu : Int) (se : Int) (its : Int) (lt0 : Int) (d : Int → Int) (h0 : Int) (hh0 : 0 ≤ h0 ∧ h0 ≤ 6677) : zV (S := (Int → Int)) l yX8_begins wsX8_begins ({ frames := 0, cells := 0, slots := 0, locals := 0 } : Room) g ca [.ref hm, vI h0] [(hm, oB 8 [.ref m0, vI un, .ref m2, .ref m3, vI mo, vI oft, vI la, vI du, .ref m8, .ref m9, vI to, .ref m11, .ref m12, vJ tr, .ref m14, vI n, vI at0, vI sa, vI vv, .ref m19, vI rdu, .ref m21, .ref m22, vI se, vI its, .ref m25, .ref m26, vJ lt0]), (m0, aJ ca 7284 d)] (fun (u : (Int → Int)) => AT u h0 bg 0 0 ∧ FRM d u h0) (fun (u : (Int → Int)) => [(hm, oB 8 [.ref m0, vI un, .ref m2, .ref m3, vI mo, vI oft, vI la, vI du, .ref m8, .ref m9, vI to, .ref m11, .ref m12, vJ tr, .ref m14, vI n, vI at0, vI sa, vI vv, .ref m19, vI rdu, .ref m21, .ref m22, vI se, vI its, .ref m25, .ref m26, vJ lt0]), (m0, aJ ca 7284 u)]) 0 0 := by
  refine zm_V (cc := cX8_begins) (maxL := 3) (ret := none) (by decide) rfl (Nat.le_of_ble_eq_true rfl) ?_
  intro p e s m below meth c A ls R args Q hR hargs hQ hx hb hml hr hts hown hlk hnm hK hP hD hA hS hl
  have hown : s.vm.findClass RX8 = some m.cls := hown
  have hl : lv_has ls 3 [(0, .ref hm), (1, vI h0)] := hl
  have lk_f7 : (Cond.fieldLink RX8 7 "DripRingsModel" "d" "[J").before args s = true := hts _ (by decide +kernel)
  have inF_X8 : ∀ w ∈ wsX80, w ∈ wsX8_begins := by decide +kernel
  refine lv_iconst (v := Int32.ofInt 0) hx hb dX8_begins_0 rfl ?_
  refine lv_istore_n (lv' := [(2, vI 0), (0, .ref hm), (1, vI h0)]) hx hb dX8_begins_1 rfl hl (by decide) rfl (fun ls hl => ?_)
  have L2 : ∀ (N2 : Nat) (i : Int) (f : Int → Int) (hi : 0 ≤ i ∧ i ≤ 607) (hf : ∀ j : Int, f j = if h0 ≤ j ∧ j < h0 + i then 0 else d j) (hμ : (607 - i).toNat < N2) (H : Heap) (locs : List Loc) (hP : va_P g vwCl [(hm, oB 8 [.ref m0, vI un, .ref m2, .ref m3, vI mo, vI oft, vI la, vI du, .ref m8, .ref m9, vI to, .ref m11, .ref m12, vJ tr, .ref m14, vI n, vI at0, vI sa, vI vv, .ref m19, vI rdu, .ref m21, .ref m22, vI se, vI its, .ref m25, .ref m26, vJ lt0]), (m0, aJ ca 7284 f)] H) (hD : va_D A [(hm, oB 8 [.ref m0, vI un, .ref m2, .ref m3, vI mo, vI oft, vI la, vI du, .ref m8, .ref m9, vI to, .ref m11, .ref m12, vJ tr, .ref m14, vI n, vI at0, vI sa, vI vv, .ref m19, vI rdu, .ref m21, .ref m22, vI se, vI its, .ref m25, .ref m26, vJ lt0]), (m0, aJ ca 7284 f)]) (hS : va_S A s.heap H locs) (ls : Array Slot) (hl : lv_has ls 3 [(2, vI i), (0, .ref hm), (1, vI h0)]), W p l e R s m args below meth c H locs 0 0 Q (F0 m 2 ls []) := by
    intro N2; induction N2 with
    | zero => intro i f hi hf hμ; exact absurd hμ (Nat.not_lt_zero _)
    | succ N2 ih2 =>
      intro i f hi hf hμ H locs hP hD hS ls hl
      refine lv_iload_n hx hb dX8_begins_2 rfl (lv_at hl 0 rfl) ?_
      refine lv_sipush (v := Int32.ofInt 607) hx hb dX8_begins_3 (by decide) ?_
      refine ri_icmp_ge (tgt := 24) hx hb dX8_begins_6 (by decide) ⟨by omega, by omega⟩ ⟨by omega, by omega⟩ (fun c6 => ?_) (fun c6 => ?_)
      · skip
        refine lv_aload_n hx hb dX8_begins_24 rfl (lv_at hl 1 rfl) ?_
        refine va_get (D := g) (ci := 8) (v := .ref m0) (C := RX8) (T := TX8) (N := 28) hx hb hts inF_X8 hown hK.1 hP 0 rfl rfl 0 (by decide) lk_f7 (fun _ h9 => h9) rfl dX8_begins_25 ?_
        refine lv_iload_n hx hb dX8_begins_28 rfl (lv_at hl 2 rfl) ?_
        refine lv_lconst (v := Int64.ofInt 1) hx hb dX8_begins_29 (by decide) ?_
        refine ra_lst hx hb hK hP hD hS 1 rfl dX8_begins_30 ⟨by omega, by omega⟩ (by omega) (fun H locs hP hD hS => ?_)
        have hP : va_P g vwCl [(hm, oB 8 [.ref m0, vI un, .ref m2, .ref m3, vI mo, vI oft, vI la, vI du, .ref m8, .ref m9, vI to, .ref m11, .ref m12, vJ tr, .ref m14, vI n, vI at0, vI sa, vI vv, .ref m19, vI rdu, .ref m21, .ref m22, vI se, vI its, .ref m25, .ref m26, vJ lt0]), (m0, aJ ca 7284 (zu f h0 1))] H := hP
        have hD : va_D A [(hm, oB 8 [.ref m0, vI un, .ref m2, .ref m3, vI mo, vI oft, vI la, vI du, .ref m8, .ref m9, vI to, .ref m11, .ref m12, vJ tr, .ref m14, vI n, vI at0, vI sa, vI vv, .ref m19, vI rdu, .ref m21, .ref m22, vI se, vI its, .ref m25, .ref m26, vJ lt0]), (m0, aJ ca 7284 (zu f h0 1))] := hD
        refine zr_V hx hb hr hlk hQ (zu f h0 1) hP hD hS dX8_begins_31 (Nat.le_of_ble_eq_true rfl) (Nat.le_of_ble_eq_true rfl) ?_
        show AT (zu f h0 1) h0 bg 0 0 ∧ FRM d (zu f h0 1) h0
        refine ⟨⟨fun k h1 h2 => ?_, ?_, ?_⟩, fun j hj => ?_⟩
        · unfold bg
          rw [zu_e, zu_e, hf]
          split
          · rw [if_pos (by omega)]
          · rw [if_pos (by omega), if_neg (by omega)]
        · rw [zu_n (by omega), hf, if_pos (by omega)]
        · rw [zu_n (by omega), hf, if_pos (by omega)]
        · rw [zu_n (by omega), hf, if_neg (by omega)]
      · skip
        refine lv_aload_n hx hb dX8_begins_9 rfl (lv_at hl 1 rfl) ?_
        refine va_get (D := g) (ci := 8) (v := .ref m0) (C := RX8) (T := TX8) (N := 28) hx hb hts inF_X8 hown hK.1 hP 0 rfl rfl 0 (by decide) lk_f7 (fun _ h9 => h9) rfl dX8_begins_10 ?_
        refine lv_iload_n hx hb dX8_begins_13 rfl (lv_at hl 2 rfl) ?_
        refine lv_iload_n hx hb dX8_begins_14 rfl (lv_at hl 0 rfl) ?_
        refine ri_add hx hb dX8_begins_15 (fun z15 e15 => ?_)
        refine lv_lconst (v := Int64.ofInt 0) hx hb dX8_begins_16 (by decide) ?_
        refine ra_lst hx hb hK hP hD hS 1 rfl dX8_begins_17 ⟨by omega, by omega⟩ (by omega) (fun H locs hP hD hS => ?_)
        have hP : va_P g vwCl [(hm, oB 8 [.ref m0, vI un, .ref m2, .ref m3, vI mo, vI oft, vI la, vI du, .ref m8, .ref m9, vI to, .ref m11, .ref m12, vJ tr, .ref m14, vI n, vI at0, vI sa, vI vv, .ref m19, vI rdu, .ref m21, .ref m22, vI se, vI its, .ref m25, .ref m26, vJ lt0]), (m0, aJ ca 7284 (zu f z15 0))] H := hP
        have hD : va_D A [(hm, oB 8 [.ref m0, vI un, .ref m2, .ref m3, vI mo, vI oft, vI la, vI du, .ref m8, .ref m9, vI to, .ref m11, .ref m12, vJ tr, .ref m14, vI n, vI at0, vI sa, vI vv, .ref m19, vI rdu, .ref m21, .ref m22, vI se, vI its, .ref m25, .ref m26, vJ lt0]), (m0, aJ ca 7284 (zu f z15 0))] := hD
        obtain ⟨z18, e18⟩ : ∃ q : Int, q = i + 1 := ⟨_, rfl⟩
        refine ri_inc (lv' := [(2, vI z18), (0, .ref hm), (1, vI h0)]) hx hb dX8_begins_18 hl (k := 0) rfl (by decide) z18 e18 rfl (fun ls hl => ?_)
        refine lv_goto (tgt := 2) hx hb dX8_begins_21 (by decide) ?_
        exact ih2 z18 (zu f z15 0) (by first | assumption | omega) (by
              intro j
              rw [zu_e]
              split
              · rw [if_pos (by omega)]
              · rw [hf j]
                split <;> split <;> first | rfl | omega) (by omega) _ _ hP hD hS ls (lv_sub hl [0, 1, 2] rfl)
  exact L2 _ 0 d (by first | assumption | omega) (by intro j; rw [if_neg (by omega)]) (Nat.lt_succ_self _) _ _ hP hD hS ls (lv_sub hl [0, 1, 2] rfl)
set_option maxHeartbeats 4000000 in
set_option maxRecDepth 100000 in
theorem k_X8_copy (l : Launch) (g : va_G) (ca : Nat → ClassId) (hm : Nat) (m0 : Nat) (m2 : Nat) (m3 : Nat) (m8 : Nat) (m9 : Nat) (m11 : Nat) (m12 : Nat) (m14 : Nat) (m19 : Nat) (m21 : Nat) (m22 : Nat) (m25 : Nat) (m26 : Nat) (un : Int) (mo : Int) (oft : Int) (la : Int) (du : Int) (to : Int) (tr : Int) (n : Int) (at0 : Int) (sa : Int) (vv : Int) (rdu : Int) (se : Int) (its : Int) (lt0 : Int) (d : Int → Int) (fr : Int) (tt : Int) (hfr : 0 ≤ fr ∧ fr ≤ 6677 ∧ 0 ≤ tt ∧ tt ≤ 6677 ∧ (fr + 607 ≤ tt ∨ tt + 607 ≤ fr)) : zV (S := (Int → Int)) l yX8_copy wsX8_copy ({ frames := 0, cells := 0, slots := 0, locals := 0 } : Room) g ca [.ref hm, vI fr, vI tt] [(hm, oB 8 [.ref m0, vI un, .ref m2, .ref m3, vI mo, vI oft, vI la, vI du, .ref m8, .ref m9, vI to, .ref m11, .ref m12, vJ tr, .ref m14, vI n, vI at0, vI sa, vI vv, .ref m19, vI rdu, .ref m21, .ref m22, vI se, vI its, .ref m25, .ref m26, vJ lt0]), (m0, aJ ca 7284 d)] (fun (u : (Int → Int)) => (∀ j : Int, u j = if tt ≤ j ∧ j < tt + 607 then d (fr + (j - tt)) else d j)) (fun (u : (Int → Int)) => [(hm, oB 8 [.ref m0, vI un, .ref m2, .ref m3, vI mo, vI oft, vI la, vI du, .ref m8, .ref m9, vI to, .ref m11, .ref m12, vJ tr, .ref m14, vI n, vI at0, vI sa, vI vv, .ref m19, vI rdu, .ref m21, .ref m22, vI se, vI its, .ref m25, .ref m26, vJ lt0]), (m0, aJ ca 7284 u)]) 0 0 := by
  refine zm_V (cc := cX8_copy) (maxL := 4) (ret := none) (by decide) rfl (Nat.le_of_ble_eq_true rfl) ?_
  intro p e s m below meth c A ls R args Q hR hargs hQ hx hb hml hr hts hown hlk hnm hK hP hD hA hS hl
  have hown : s.vm.findClass RX8 = some m.cls := hown
  have hl : lv_has ls 4 [(0, .ref hm), (1, vI fr), (2, vI tt)] := hl
  have lk_f7 : (Cond.fieldLink RX8 7 "DripRingsModel" "d" "[J").before args s = true := hts _ (by decide +kernel)
  have inF_X8 : ∀ w ∈ wsX80, w ∈ wsX8_copy := by decide +kernel
  refine lv_iconst (v := Int32.ofInt 0) hx hb dX8_copy_0 rfl ?_
  refine lv_istore_n (lv' := [(3, vI 0), (0, .ref hm), (1, vI fr), (2, vI tt)]) hx hb dX8_copy_1 rfl hl (by decide) rfl (fun ls hl => ?_)
  have L2 : ∀ (N2 : Nat) (i : Int) (f : Int → Int) (hi : 0 ≤ i ∧ i ≤ 607) (hf : ∀ j : Int, f j = if tt ≤ j ∧ j < tt + i then d (fr + (j - tt)) else d j) (hμ : (607 - i).toNat < N2) (H : Heap) (locs : List Loc) (hP : va_P g vwCl [(hm, oB 8 [.ref m0, vI un, .ref m2, .ref m3, vI mo, vI oft, vI la, vI du, .ref m8, .ref m9, vI to, .ref m11, .ref m12, vJ tr, .ref m14, vI n, vI at0, vI sa, vI vv, .ref m19, vI rdu, .ref m21, .ref m22, vI se, vI its, .ref m25, .ref m26, vJ lt0]), (m0, aJ ca 7284 f)] H) (hD : va_D A [(hm, oB 8 [.ref m0, vI un, .ref m2, .ref m3, vI mo, vI oft, vI la, vI du, .ref m8, .ref m9, vI to, .ref m11, .ref m12, vJ tr, .ref m14, vI n, vI at0, vI sa, vI vv, .ref m19, vI rdu, .ref m21, .ref m22, vI se, vI its, .ref m25, .ref m26, vJ lt0]), (m0, aJ ca 7284 f)]) (hS : va_S A s.heap H locs) (ls : Array Slot) (hl : lv_has ls 4 [(3, vI i), (0, .ref hm), (1, vI fr), (2, vI tt)]), W p l e R s m args below meth c H locs 0 0 Q (F0 m 2 ls []) := by
    intro N2; induction N2 with
    | zero => intro i f hi hf hμ; exact absurd hμ (Nat.not_lt_zero _)
    | succ N2 ih2 =>
      intro i f hi hf hμ H locs hP hD hS ls hl
      refine lv_iload_n hx hb dX8_copy_2 rfl (lv_at hl 0 rfl) ?_
      refine lv_sipush (v := Int32.ofInt 607) hx hb dX8_copy_3 (by decide) ?_
      refine ri_icmp_ge (tgt := 31) hx hb dX8_copy_6 (by decide) ⟨by omega, by omega⟩ ⟨by omega, by omega⟩ (fun c6 => ?_) (fun c6 => ?_)
      · skip
        refine zr_V hx hb hr hlk hQ (f) hP hD hS dX8_copy_31 (Nat.le_of_ble_eq_true rfl) (Nat.le_of_ble_eq_true rfl) ?_
        show (∀ j : Int, f j = if tt ≤ j ∧ j < tt + 607 then d (fr + (j - tt)) else d j)
        intro j; rw [hf j, show i = 607 by omega]
      · skip
        refine lv_aload_n hx hb dX8_copy_9 rfl (lv_at hl 1 rfl) ?_
        refine va_get (D := g) (ci := 8) (v := .ref m0) (C := RX8) (T := TX8) (N := 28) hx hb hts inF_X8 hown hK.1 hP 0 rfl rfl 0 (by decide) lk_f7 (fun _ h9 => h9) rfl dX8_copy_10 ?_
        refine lv_iload_n hx hb dX8_copy_13 rfl (lv_at hl 3 rfl) ?_
        refine lv_iload_n hx hb dX8_copy_14 rfl (lv_at hl 0 rfl) ?_
        refine ri_add hx hb dX8_copy_15 (fun z15 e15 => ?_)
        refine lv_aload_n hx hb dX8_copy_16 rfl (lv_at hl 1 rfl) ?_
        refine va_get (D := g) (ci := 8) (v := .ref m0) (C := RX8) (T := TX8) (N := 28) hx hb hts inF_X8 hown hK.1 hP 0 rfl rfl 0 (by decide) lk_f7 (fun _ h9 => h9) rfl dX8_copy_17 ?_
        refine lv_iload_n hx hb dX8_copy_20 rfl (lv_at hl 2 rfl) ?_
        refine lv_iload_n hx hb dX8_copy_21 rfl (lv_at hl 0 rfl) ?_
        refine ri_add hx hb dX8_copy_22 (fun z22 e22 => ?_)
        refine ra_lld hx hb hK hP 1 rfl dX8_copy_23 ⟨by omega, by omega⟩ (by omega) ?_
        refine ra_lst hx hb hK hP hD hS 1 rfl dX8_copy_24 ⟨by omega, by omega⟩ (by omega) (fun H locs hP hD hS => ?_)
        have hP : va_P g vwCl [(hm, oB 8 [.ref m0, vI un, .ref m2, .ref m3, vI mo, vI oft, vI la, vI du, .ref m8, .ref m9, vI to, .ref m11, .ref m12, vJ tr, .ref m14, vI n, vI at0, vI sa, vI vv, .ref m19, vI rdu, .ref m21, .ref m22, vI se, vI its, .ref m25, .ref m26, vJ lt0]), (m0, aJ ca 7284 (zu f z15 (f z22)))] H := hP
        have hD : va_D A [(hm, oB 8 [.ref m0, vI un, .ref m2, .ref m3, vI mo, vI oft, vI la, vI du, .ref m8, .ref m9, vI to, .ref m11, .ref m12, vJ tr, .ref m14, vI n, vI at0, vI sa, vI vv, .ref m19, vI rdu, .ref m21, .ref m22, vI se, vI its, .ref m25, .ref m26, vJ lt0]), (m0, aJ ca 7284 (zu f z15 (f z22)))] := hD
        obtain ⟨z25, e25⟩ : ∃ q : Int, q = i + 1 := ⟨_, rfl⟩
        refine ri_inc (lv' := [(3, vI z25), (0, .ref hm), (1, vI fr), (2, vI tt)]) hx hb dX8_copy_25 hl (k := 0) rfl (by decide) z25 e25 rfl (fun ls hl => ?_)
        refine lv_goto (tgt := 2) hx hb dX8_copy_28 (by decide) ?_
        exact ih2 z25 (zu f z15 (f z22)) (by first | assumption | omega) (by
              intro j
              rw [zu_e]
              split
              · rw [if_pos (by omega), hf, if_neg (by omega)]
                congr 1; omega
              · rw [hf j]
                split <;> split <;> first | rfl | omega) (by omega) _ _ hP hD hS ls (lv_sub hl [0, 1, 2, 3] rfl)
  exact L2 _ 0 d (by first | assumption | omega) (by intro j; rw [if_neg (by omega)]) (Nat.lt_succ_self _) _ _ hP hD hS ls (lv_sub hl [0, 1, 2, 3] rfl)
set_option maxHeartbeats 4000000 in
set_option maxRecDepth 100000 in
theorem k_X8_eachOf (l : Launch) (g : va_G) (ca : Nat → ClassId) (hm : Nat) (m0 : Nat) (m2 : Nat) (m3 : Nat) (m8 : Nat) (m9 : Nat) (m11 : Nat) (m12 : Nat) (m14 : Nat) (m19 : Nat) (m21 : Nat) (m22 : Nat) (m25 : Nat) (m26 : Nat) (un : Int) (mo : Int) (oft : Int) (la : Int) (du : Int) (to : Int) (tr : Int) (n : Int) (at0 : Int) (sa : Int) (vv : Int) (rdu : Int) (se : Int) (its : Int) (lt0 : Int) (o : Int)  : zI (S := Unit) l yX8_eachOf wsX8_eachOf ({ frames := 0, cells := 0, slots := 0, locals := 0 } : Room) g ca [.ref hm, vI o] [(hm, oB 8 [.ref m0, vI un, .ref m2, .ref m3, vI mo, vI oft, vI la, vI du, .ref m8, .ref m9, vI to, .ref m11, .ref m12, vJ tr, .ref m14, vI n, vI at0, vI sa, vI vv, .ref m19, vI rdu, .ref m21, .ref m22, vI se, vI its, .ref m25, .ref m26, vJ lt0])] (fun (z : Int) (u : Unit) => z = ef oft la o) (fun (u : Unit) => [(hm, oB 8 [.ref m0, vI un, .ref m2, .ref m3, vI mo, vI oft, vI la, vI du, .ref m8, .ref m9, vI to, .ref m11, .ref m12, vJ tr, .ref m14, vI n, vI at0, vI sa, vI vv, .ref m19, vI rdu, .ref m21, .ref m22, vI se, vI its, .ref m25, .ref m26, vJ lt0])]) 0 0 := by
  refine zm_I (cc := cX8_eachOf) (maxL := 2) (ret := some .int) (by decide) rfl (Nat.le_of_ble_eq_true rfl) ?_
  intro p e s m below meth c A ls R args Q hR hargs hQ hx hb hml hr hts hown hlk hnm hK hP hD hA hS hl
  have hown : s.vm.findClass RX8 = some m.cls := hown
  have hl : lv_has ls 2 [(0, .ref hm), (1, vI o)] := hl
  have lk_f70 : (Cond.fieldLink RX8 70 "DripRingsModel" "each" "I").before args s = true := hts _ (by decide +kernel)
  have inF_X8 : ∀ w ∈ wsX80, w ∈ wsX8_eachOf := by decide +kernel
  have lk_f73 : (Cond.fieldLink RX8 73 "DripRingsModel" "later" "I").before args s = true := hts _ (by decide +kernel)
  refine lv_aload_n hx hb dX8_eachOf_0 rfl (lv_at hl 0 rfl) ?_
  refine va_get (D := g) (ci := 8) (v := vI oft) (C := RX8) (T := TX8) (N := 28) hx hb hts inF_X8 hown hK.1 hP 0 rfl rfl 5 (by decide) lk_f70 (fun _ h9 => h9) rfl dX8_eachOf_1 ?_
  refine lv_aload_n hx hb dX8_eachOf_4 rfl (lv_at hl 0 rfl) ?_
  refine va_get (D := g) (ci := 8) (v := vI la) (C := RX8) (T := TX8) (N := 28) hx hb hts inF_X8 hown hK.1 hP 0 rfl rfl 6 (by decide) lk_f73 (fun _ h9 => h9) rfl dX8_eachOf_5 ?_
  refine lv_iload_n hx hb dX8_eachOf_8 rfl (lv_at hl 1 rfl) ?_
  refine ri_mul hx hb dX8_eachOf_9 (fun z9 e9 => ?_)
  refine ri_add hx hb dX8_eachOf_10 (fun z10 e10 => ?_)
  refine zr_I hx hb hr hlk hQ () hP hD hS dX8_eachOf_11 (Nat.le_of_ble_eq_true rfl) (Nat.le_of_ble_eq_true rfl) ?_
  show z10 = ef oft la o
  unfold ef; rw [e10, e9, Int.mul_comm]
set_option maxHeartbeats 4000000 in
set_option maxRecDepth 100000 in
theorem k_X8_dripsOf (l : Launch) (g : va_G) (ca : Nat → ClassId) (hm : Nat) (m0 : Nat) (m2 : Nat) (m3 : Nat) (m8 : Nat) (m9 : Nat) (m11 : Nat) (m12 : Nat) (m14 : Nat) (m19 : Nat) (m21 : Nat) (m22 : Nat) (m25 : Nat) (m26 : Nat) (un : Int) (mo : Int) (oft : Int) (la : Int) (du : Int) (to : Int) (tr : Int) (n : Int) (at0 : Int) (sa : Int) (vv : Int) (rdu : Int) (se : Int) (its : Int) (lt0 : Int) (w : Int → Int) (o : Int) (ho : 0 ≤ o ∧ o ≤ 4) (hW : GW w) : zI (S := Unit) l yX8_dripsOf wsX8_dripsOf ({ frames := 0, cells := 0, slots := 0, locals := 0 } : Room) g ca [.ref hm, vI o] [(hm, oB 8 [.ref m0, vI un, .ref m2, .ref m3, vI mo, vI oft, vI la, vI du, .ref m8, .ref m9, vI to, .ref m11, .ref m12, vJ tr, .ref m14, vI n, vI at0, vI sa, vI vv, .ref m19, vI rdu, .ref m21, .ref m22, vI se, vI its, .ref m25, .ref m26, vJ lt0]), (m3, aI ca 5 w)] (fun (z : Int) (u : Unit) => (z = 1 ∧ o ≤ 3 ∧ 0 < w (o + 1)) ∨ (z = 0 ∧ ¬ (o ≤ 3 ∧ 0 < w (o + 1)))) (fun (u : Unit) => [(hm, oB 8 [.ref m0, vI un, .ref m2, .ref m3, vI mo, vI oft, vI la, vI du, .ref m8, .ref m9, vI to, .ref m11, .ref m12, vJ tr, .ref m14, vI n, vI at0, vI sa, vI vv, .ref m19, vI rdu, .ref m21, .ref m22, vI se, vI its, .ref m25, .ref m26, vJ lt0]), (m3, aI ca 5 w)]) 0 0 := by
  refine zm_I (cc := cX8_dripsOf) (maxL := 2) (ret := some .boolean) (by decide) rfl (Nat.le_of_ble_eq_true rfl) ?_
  intro p e s m below meth c A ls R args Q hR hargs hQ hx hb hml hr hts hown hlk hnm hK hP hD hA hS hl
  have hown : s.vm.findClass RX8 = some m.cls := hown
  have hl : lv_has ls 2 [(0, .ref hm), (1, vI o)] := hl
  have lk_f17 : (Cond.fieldLink RX8 17 "DripRingsModel" "weights" "[I").before args s = true := hts _ (by decide +kernel)
  have inF_X8 : ∀ w ∈ wsX80, w ∈ wsX8_dripsOf := by decide +kernel
  refine lv_iload_n hx hb dX8_dripsOf_0 rfl (lv_at hl 1 rfl) ?_
  refine lv_iconst (v := Int32.ofInt 4) hx hb dX8_dripsOf_1 rfl ?_
  refine ri_icmp_ge (tgt := 20) hx hb dX8_dripsOf_2 (by decide) ⟨by omega, by omega⟩ ⟨by omega, by omega⟩ (fun c2 => ?_) (fun c2 => ?_)
  · skip
    refine lv_iconst (v := Int32.ofInt 0) hx hb dX8_dripsOf_20 rfl ?_
    refine zr_Z hx hb hr hlk hQ () hP hD hS dX8_dripsOf_21 (Nat.le_of_ble_eq_true rfl) (Nat.le_of_ble_eq_true rfl) (Or.inl rfl) ?_
    show (0 = 1 ∧ o ≤ 3 ∧ 0 < w (o + 1)) ∨ (0 = 0 ∧ ¬ (o ≤ 3 ∧ 0 < w (o + 1)))
    omega
  · skip
    refine lv_aload_n hx hb dX8_dripsOf_5 rfl (lv_at hl 0 rfl) ?_
    refine va_get (D := g) (ci := 8) (v := .ref m3) (C := RX8) (T := TX8) (N := 28) hx hb hts inF_X8 hown hK.1 hP 0 rfl rfl 3 (by decide) lk_f17 (fun _ h9 => h9) rfl dX8_dripsOf_6 ?_
    refine lv_iload_n hx hb dX8_dripsOf_9 rfl (lv_at hl 1 rfl) ?_
    refine lv_iconst (v := Int32.ofInt 1) hx hb dX8_dripsOf_10 rfl ?_
    refine ri_add hx hb dX8_dripsOf_11 (fun z11 e11 => ?_)
    refine ra_ild hx hb hK hP 1 rfl dX8_dripsOf_12 ⟨by omega, by omega⟩ (by omega) ?_
    have hw13 := hW (o + 1) (by omega) (by omega)
    have e11b : w z11 = w (o + 1) := by rw [e11]
    refine ri_if_le (tgt := 20) hx hb dX8_dripsOf_13 (by decide) ⟨by omega, by omega⟩ (fun c13 => ?_) (fun c13 => ?_)
    · skip
      refine lv_iconst (v := Int32.ofInt 0) hx hb dX8_dripsOf_20 rfl ?_
      refine zr_Z hx hb hr hlk hQ () hP hD hS dX8_dripsOf_21 (Nat.le_of_ble_eq_true rfl) (Nat.le_of_ble_eq_true rfl) (Or.inl rfl) ?_
      show (0 = 1 ∧ o ≤ 3 ∧ 0 < w (o + 1)) ∨ (0 = 0 ∧ ¬ (o ≤ 3 ∧ 0 < w (o + 1)))
      omega
    · skip
      refine lv_iconst (v := Int32.ofInt 1) hx hb dX8_dripsOf_16 rfl ?_
      refine lv_goto (tgt := 21) hx hb dX8_dripsOf_17 (by decide) ?_
      refine zr_Z hx hb hr hlk hQ () hP hD hS dX8_dripsOf_21 (Nat.le_of_ble_eq_true rfl) (Nat.le_of_ble_eq_true rfl) (Or.inr rfl) ?_
      show (1 = 1 ∧ o ≤ 3 ∧ 0 < w (o + 1)) ∨ (1 = 0 ∧ ¬ (o ≤ 3 ∧ 0 < w (o + 1)))
      omega
set_option maxHeartbeats 4000000 in
set_option maxRecDepth 100000 in
theorem k_X8_manyOf (l : Launch) (g : va_G) (ca : Nat → ClassId) (hm : Nat) (m0 : Nat) (m2 : Nat) (m3 : Nat) (m8 : Nat) (m9 : Nat) (m11 : Nat) (m12 : Nat) (m14 : Nat) (m19 : Nat) (m21 : Nat) (m22 : Nat) (m25 : Nat) (m26 : Nat) (un : Int) (mo : Int) (oft : Int) (la : Int) (du : Int) (to : Int) (tr : Int) (n : Int) (at0 : Int) (sa : Int) (vv : Int) (rdu : Int) (se : Int) (its : Int) (lt0 : Int) (d : Int → Int) (h0 : Int) (o : Int) (b : Int → Int) (nn : Int) (ml : Int) (hh0 : 0 ≤ h0 ∧ h0 ≤ 6677) (ho : 0 ≤ o ∧ o ≤ 4) (hAT : AT d h0 b nn ml) (hB : GB b nn) : zJ (S := Unit) l yX8_manyOf wsX8_manyOf ({ frames := 0, cells := 0, slots := 0, locals := 0 } : Room) g ca [.ref hm, vI h0, vI o] [(hm, oB 8 [.ref m0, vI un, .ref m2, .ref m3, vI mo, vI oft, vI la, vI du, .ref m8, .ref m9, vI to, .ref m11, .ref m12, vJ tr, .ref m14, vI n, vI at0, vI sa, vI vv, .ref m19, vI rdu, .ref m21, .ref m22, vI se, vI its, .ref m25, .ref m26, vJ lt0]), (m0, aJ ca 7284 d)] (fun (z : Int) (u : Unit) => z = cnt b nn o) (fun (u : Unit) => [(hm, oB 8 [.ref m0, vI un, .ref m2, .ref m3, vI mo, vI oft, vI la, vI du, .ref m8, .ref m9, vI to, .ref m11, .ref m12, vJ tr, .ref m14, vI n, vI at0, vI sa, vI vv, .ref m19, vI rdu, .ref m21, .ref m22, vI se, vI its, .ref m25, .ref m26, vJ lt0]), (m0, aJ ca 7284 d)]) 0 0 := by
  refine zm_J (cc := cX8_manyOf) (maxL := 6) (ret := some .long) (by decide) rfl (Nat.le_of_ble_eq_true rfl) ?_
  intro p e s m below meth c A ls R args Q hR hargs hQ hx hb hml hr hts hown hlk hnm hK hP hD hA hS hl
  have hown : s.vm.findClass RX8 = some m.cls := hown
  have hl : lv_has ls 6 [(0, .ref hm), (1, vI h0), (2, vI o)] := hl
  have lk_f7 : (Cond.fieldLink RX8 7 "DripRingsModel" "d" "[J").before args s = true := hts _ (by decide +kernel)
  have inF_X8 : ∀ w ∈ wsX80, w ∈ wsX8_manyOf := by decide +kernel
  refine lv_lconst (v := Int64.ofInt 0) hx hb dX8_manyOf_0 (by decide) ?_
  refine lv_lstore_n (lv' := [(3, vJ 0), (0, .ref hm), (1, vI h0), (2, vI o)]) hx hb dX8_manyOf_1 rfl hl (by decide) rfl (fun ls hl => ?_)
  refine lv_iconst (v := Int32.ofInt 0) hx hb dX8_manyOf_2 rfl ?_
  refine lv_istore (lv' := [(5, vI 0), (3, vJ 0), (0, .ref hm), (1, vI h0), (2, vI o)]) hx hb dX8_manyOf_3 hl (by decide) rfl (fun ls hl => ?_)
  have L5 : ∀ (N5 : Nat) (i : Int) (a : Int) (hi : 0 ≤ i ∧ i ≤ 121) (ha : a = sm d (h0 + 121 * o) i.toNat) (hμ : (121 - i).toNat < N5) (H : Heap) (locs : List Loc) (hP : va_P g vwCl [(hm, oB 8 [.ref m0, vI un, .ref m2, .ref m3, vI mo, vI oft, vI la, vI du, .ref m8, .ref m9, vI to, .ref m11, .ref m12, vJ tr, .ref m14, vI n, vI at0, vI sa, vI vv, .ref m19, vI rdu, .ref m21, .ref m22, vI se, vI its, .ref m25, .ref m26, vJ lt0]), (m0, aJ ca 7284 d)] H) (hD : va_D A [(hm, oB 8 [.ref m0, vI un, .ref m2, .ref m3, vI mo, vI oft, vI la, vI du, .ref m8, .ref m9, vI to, .ref m11, .ref m12, vJ tr, .ref m14, vI n, vI at0, vI sa, vI vv, .ref m19, vI rdu, .ref m21, .ref m22, vI se, vI its, .ref m25, .ref m26, vJ lt0]), (m0, aJ ca 7284 d)]) (hS : va_S A s.heap H locs) (ls : Array Slot) (hl : lv_has ls 6 [(5, vI i), (3, vJ a), (0, .ref hm), (1, vI h0), (2, vI o)]), W p l e R s m args below meth c H locs 0 0 Q (F0 m 5 ls []) := by
    intro N5; induction N5 with
    | zero => intro i a hi ha hμ; exact absurd hμ (Nat.not_lt_zero _)
    | succ N5 ih5 =>
      intro i a hi ha hμ H locs hP hD hS ls hl
      refine lv_iload hx hb dX8_manyOf_5 (lv_at hl 0 rfl) ?_
      refine lv_bipush (v := Int32.ofInt 121) hx hb dX8_manyOf_7 (by decide) ?_
      refine ri_icmp_ge (tgt := 35) hx hb dX8_manyOf_9 (by decide) ⟨by omega, by omega⟩ ⟨by omega, by omega⟩ (fun c9 => ?_) (fun c9 => ?_)
      · skip
        refine lv_lload_n hx hb dX8_manyOf_35 rfl (lv_at hl 1 rfl) ?_
        refine zr_J hx hb hr hlk hQ () hP hD hS dX8_manyOf_36 (Nat.le_of_ble_eq_true rfl) (Nat.le_of_ble_eq_true rfl) ?_
        show a = cnt b nn o
        rw [ha, show i = 121 by omega]; exact (AT_sm hAT ho.1 (by omega)).trans (cnt_121 hB ho.1 ho.2)
      · skip
        refine lv_lload_n hx hb dX8_manyOf_12 rfl (lv_at hl 1 rfl) ?_
        refine lv_aload_n hx hb dX8_manyOf_13 rfl (lv_at hl 2 rfl) ?_
        refine va_get (D := g) (ci := 8) (v := .ref m0) (C := RX8) (T := TX8) (N := 28) hx hb hts inF_X8 hown hK.1 hP 0 rfl rfl 0 (by decide) lk_f7 (fun _ h9 => h9) rfl dX8_manyOf_14 ?_
        refine lv_iload_n hx hb dX8_manyOf_17 rfl (lv_at hl 3 rfl) ?_
        refine lv_bipush (v := Int32.ofInt 121) hx hb dX8_manyOf_18 (by decide) ?_
        refine lv_iload_n hx hb dX8_manyOf_20 rfl (lv_at hl 4 rfl) ?_
        refine ri_mul hx hb dX8_manyOf_21 (fun z21 e21 => ?_)
        refine ri_add hx hb dX8_manyOf_22 (fun z22 e22 => ?_)
        refine lv_iload hx hb dX8_manyOf_23 (lv_at hl 0 rfl) ?_
        refine ri_add hx hb dX8_manyOf_25 (fun z25 e25 => ?_)
        refine ra_lld hx hb hK hP 1 rfl dX8_manyOf_26 ⟨by omega, by omega⟩ (by omega) ?_
        refine rj_add hx hb dX8_manyOf_27 (fun z27 e27 => ?_)
        refine lv_lstore_n (lv' := [(3, vJ z27), (5, vI i), (0, .ref hm), (1, vI h0), (2, vI o)]) hx hb dX8_manyOf_28 rfl hl (by decide) rfl (fun ls hl => ?_)
        obtain ⟨z29, e29⟩ : ∃ q : Int, q = i + 1 := ⟨_, rfl⟩
        refine ri_inc (lv' := [(5, vI z29), (3, vJ z27), (0, .ref hm), (1, vI h0), (2, vI o)]) hx hb dX8_manyOf_29 hl (k := 1) rfl (by decide) z29 e29 rfl (fun ls hl => ?_)
        refine lv_goto (tgt := 5) hx hb dX8_manyOf_32 (by decide) ?_
        exact ih5 z29 z27 (by first | assumption | omega) (by rw [e29, sm_s _ _ (by omega), ← ha, e27, show z25 = h0 + 121 * o + i by omega]) (by omega) _ _ hP hD hS ls (lv_sub hl [0, 1, 2, 3, 4] rfl)
  exact L5 _ 0 0 (by first | assumption | omega) (by rfl) (Nat.lt_succ_self _) _ _ hP hD hS ls (lv_sub hl [0, 1, 2, 3, 4] rfl)
set_option maxHeartbeats 4000000 in
set_option maxRecDepth 100000 in
theorem k_X8_allOf (l : Launch) (g : va_G) (ca : Nat → ClassId) (hm : Nat) (m0 : Nat) (m2 : Nat) (m3 : Nat) (m8 : Nat) (m9 : Nat) (m11 : Nat) (m12 : Nat) (m14 : Nat) (m19 : Nat) (m21 : Nat) (m22 : Nat) (m25 : Nat) (m26 : Nat) (un : Int) (mo : Int) (oft : Int) (la : Int) (du : Int) (to : Int) (tr : Int) (n : Int) (at0 : Int) (sa : Int) (vv : Int) (rdu : Int) (se : Int) (its : Int) (lt0 : Int) (d : Int → Int) (h0 : Int) (b : Int → Int) (nn : Int) (ml : Int) (hh0 : 0 ≤ h0 ∧ h0 ≤ 6677) (hAT : AT d h0 b nn ml) (hB : GB b nn) : zJ (S := Unit) l yX8_allOf wsX8_allOf ({ frames := 1, cells := 0, slots := 0, locals := 25 } : Room) g ca [.ref hm, vI h0] [(hm, oB 8 [.ref m0, vI un, .ref m2, .ref m3, vI mo, vI oft, vI la, vI du, .ref m8, .ref m9, vI to, .ref m11, .ref m12, vJ tr, .ref m14, vI n, vI at0, vI sa, vI vv, .ref m19, vI rdu, .ref m21, .ref m22, vI se, vI its, .ref m25, .ref m26, vJ lt0]), (m0, aJ ca 7284 d)] (fun (z : Int) (u : Unit) => z = tot b nn) (fun (u : Unit) => [(hm, oB 8 [.ref m0, vI un, .ref m2, .ref m3, vI mo, vI oft, vI la, vI du, .ref m8, .ref m9, vI to, .ref m11, .ref m12, vJ tr, .ref m14, vI n, vI at0, vI sa, vI vv, .ref m19, vI rdu, .ref m21, .ref m22, vI se, vI its, .ref m25, .ref m26, vJ lt0]), (m0, aJ ca 7284 d)]) 0 0 := by
  refine zm_J (cc := cX8_allOf) (maxL := 5) (ret := some .long) (by decide) rfl (Nat.le_of_ble_eq_true rfl) ?_
  intro p e s m below meth c A ls R args Q hR hargs hQ hx hb hml hr hts hown hlk hnm hK hP hD hA hS hl
  have hown : s.vm.findClass RX8 = some m.cls := hown
  have hl : lv_has ls 5 [(0, .ref hm), (1, vI h0)] := hl
  refine lv_lconst (v := Int64.ofInt 0) hx hb dX8_allOf_0 (by decide) ?_
  refine lv_lstore_n (lv' := [(2, vJ 0), (0, .ref hm), (1, vI h0)]) hx hb dX8_allOf_1 rfl hl (by decide) rfl (fun ls hl => ?_)
  refine lv_iconst (v := Int32.ofInt 0) hx hb dX8_allOf_2 rfl ?_
  refine lv_istore (lv' := [(4, vI 0), (2, vJ 0), (0, .ref hm), (1, vI h0)]) hx hb dX8_allOf_3 hl (by decide) rfl (fun ls hl => ?_)
  have L5 : ∀ (N5 : Nat) (o : Int) (a : Int) (hi : 0 ≤ o ∧ o ≤ 5) (ha : a = sm (fun o => cnt b nn o) 0 o.toNat) (hμ : (5 - o).toNat < N5) (H : Heap) (locs : List Loc) (hP : va_P g vwCl [(hm, oB 8 [.ref m0, vI un, .ref m2, .ref m3, vI mo, vI oft, vI la, vI du, .ref m8, .ref m9, vI to, .ref m11, .ref m12, vJ tr, .ref m14, vI n, vI at0, vI sa, vI vv, .ref m19, vI rdu, .ref m21, .ref m22, vI se, vI its, .ref m25, .ref m26, vJ lt0]), (m0, aJ ca 7284 d)] H) (hD : va_D A [(hm, oB 8 [.ref m0, vI un, .ref m2, .ref m3, vI mo, vI oft, vI la, vI du, .ref m8, .ref m9, vI to, .ref m11, .ref m12, vJ tr, .ref m14, vI n, vI at0, vI sa, vI vv, .ref m19, vI rdu, .ref m21, .ref m22, vI se, vI its, .ref m25, .ref m26, vJ lt0]), (m0, aJ ca 7284 d)]) (hS : va_S A s.heap H locs) (ls : Array Slot) (hl : lv_has ls 5 [(4, vI o), (2, vJ a), (0, .ref hm), (1, vI h0)]), W p l e R s m args below meth c H locs 0 0 Q (F0 m 5 ls []) := by
    intro N5; induction N5 with
    | zero => intro o a hi ha hμ; exact absurd hμ (Nat.not_lt_zero _)
    | succ N5 ih5 =>
      intro o a hi ha hμ H locs hP hD hS ls hl
      refine lv_iload hx hb dX8_allOf_5 (lv_at hl 0 rfl) ?_
      refine lv_iconst (v := Int32.ofInt 5) hx hb dX8_allOf_7 rfl ?_
      refine ri_icmp_ge (tgt := 27) hx hb dX8_allOf_8 (by decide) ⟨by omega, by omega⟩ ⟨by omega, by omega⟩ (fun c8 => ?_) (fun c8 => ?_)
      · skip
        refine lv_lload_n hx hb dX8_allOf_27 rfl (lv_at hl 1 rfl) ?_
        refine zr_J hx hb hr hlk hQ () hP hD hS dX8_allOf_28 (Nat.le_of_ble_eq_true rfl) (Nat.le_of_ble_eq_true rfl) ?_
        show a = tot b nn
        rw [ha]; unfold tot; rw [show o = 5 by omega]; rfl
      · skip
        refine lv_lload_n hx hb dX8_allOf_11 rfl (lv_at hl 1 rfl) ?_
        refine lv_aload_n hx hb dX8_allOf_12 rfl (lv_at hl 2 rfl) ?_
        refine lv_iload_n hx hb dX8_allOf_13 rfl (lv_at hl 3 rfl) ?_
        refine lv_iload hx hb dX8_allOf_14 (lv_at hl 0 rfl) ?_
        refine zc_VJ (As := [vI h0, vI o]) (rest := [vJ a]) (wc := [(hm, oB 8 [.ref m0, vI un, .ref m2, .ref m3, vI mo, vI oft, vI la, vI du, .ref m8, .ref m9, vI to, .ref m11, .ref m12, vJ tr, .ref m14, vI n, vI at0, vI sa, vI vv, .ref m19, vI rdu, .ref m21, .ref m22, vI se, vI its, .ref m25, .ref m26, vJ lt0]), (m0, aJ ca 7284 d)]) (wr := []) (k_X8_manyOf l g ca hm m0 m2 m3 m8 m9 m11 m12 m14 m19 m21 m22 m25 m26 un mo oft la du to tr n at0 sa vv rdu se its lt0 d h0 o b nn ml (by first | assumption | omega) (by first | assumption | omega) (by first | assumption | omega) (by first | assumption | omega)) dX8_allOf_16 (cwV 2 hts gX8_allOf_X8_manyOf rfl rfl rfl (by decide +kernel) (by rw [hR]; exact ⟨Nat.le_of_ble_eq_true rfl, Nat.le_of_ble_eq_true rfl⟩)) ⟨hx, hb, hml, hown, hts⟩ hl.1 hK hP hD hS hA 0 rfl rfl rfl [0, 1] [] rfl (by decide) rfl (by decide) (by decide) rfl rfl (Nat.le_of_ble_eq_true rfl) (by rw [hR]; exact ⟨Nat.le_of_ble_eq_true rfl, Nat.le_of_ble_eq_true rfl⟩) (fun z16 u H locs q16 hP hD hS => ?_)
        have q16 : z16 = cnt b nn o := q16
        have hP : va_P g vwCl [(hm, oB 8 [.ref m0, vI un, .ref m2, .ref m3, vI mo, vI oft, vI la, vI du, .ref m8, .ref m9, vI to, .ref m11, .ref m12, vJ tr, .ref m14, vI n, vI at0, vI sa, vI vv, .ref m19, vI rdu, .ref m21, .ref m22, vI se, vI its, .ref m25, .ref m26, vJ lt0]), (m0, aJ ca 7284 d)] H := hP.sub [0, 1] rfl
        have hD : va_D A [(hm, oB 8 [.ref m0, vI un, .ref m2, .ref m3, vI mo, vI oft, vI la, vI du, .ref m8, .ref m9, vI to, .ref m11, .ref m12, vJ tr, .ref m14, vI n, vI at0, vI sa, vI vv, .ref m19, vI rdu, .ref m21, .ref m22, vI se, vI its, .ref m25, .ref m26, vJ lt0]), (m0, aJ ca 7284 d)] := hD.sub [0, 1] (by decide) rfl
        refine rj_add hx hb dX8_allOf_19 (fun z19 e19 => ?_)
        refine lv_lstore_n (lv' := [(2, vJ z19), (4, vI o), (0, .ref hm), (1, vI h0)]) hx hb dX8_allOf_20 rfl hl (by decide) rfl (fun ls hl => ?_)
        obtain ⟨z21, e21⟩ : ∃ q : Int, q = o + 1 := ⟨_, rfl⟩
        refine ri_inc (lv' := [(4, vI z21), (2, vJ z19), (0, .ref hm), (1, vI h0)]) hx hb dX8_allOf_21 hl (k := 1) rfl (by decide) z21 e21 rfl (fun ls hl => ?_)
        refine lv_goto (tgt := 5) hx hb dX8_allOf_24 (by decide) ?_
        exact ih5 z21 z19 (by first | assumption | omega) (by rw [e21, sm_s _ _ (by omega), ← ha, e19, q16, Int.zero_add]) (by omega) _ _ hP hD hS ls (lv_sub hl [0, 1, 2, 3] rfl)
  exact L5 _ 0 0 (by first | assumption | omega) (by rfl) (Nat.lt_succ_self _) _ _ hP hD hS ls (lv_sub hl [0, 1, 2, 3] rfl)
set_option maxHeartbeats 4000000 in
set_option maxRecDepth 100000 in
theorem k_X8_weighs (l : Launch) (g : va_G) (ca : Nat → ClassId) (hm : Nat) (m0 : Nat) (m2 : Nat) (m3 : Nat) (m8 : Nat) (m9 : Nat) (m11 : Nat) (m12 : Nat) (m14 : Nat) (m19 : Nat) (m21 : Nat) (m22 : Nat) (m25 : Nat) (m26 : Nat) (un : Int) (mo : Int) (oft : Int) (la : Int) (du : Int) (to : Int) (tr : Int) (n : Int) (at0 : Int) (sa : Int) (vv : Int) (rdu : Int) (se : Int) (its : Int) (lt0 : Int) (d : Int → Int) (w : Int → Int) (h0 : Int) (b : Int → Int) (nn : Int) (ml : Int) (hh0 : 0 ≤ h0 ∧ h0 ≤ 6677) (hAT : AT d h0 b nn ml) (hB : GB b nn) (hW : GW w) : zJ (S := Unit) l yX8_weighs wsX8_weighs ({ frames := 1, cells := 0, slots := 0, locals := 25 } : Room) g ca [.ref hm, vI h0] [(hm, oB 8 [.ref m0, vI un, .ref m2, .ref m3, vI mo, vI oft, vI la, vI du, .ref m8, .ref m9, vI to, .ref m11, .ref m12, vJ tr, .ref m14, vI n, vI at0, vI sa, vI vv, .ref m19, vI rdu, .ref m21, .ref m22, vI se, vI its, .ref m25, .ref m26, vJ lt0]), (m0, aJ ca 7284 d), (m3, aI ca 5 w)] (fun (z : Int) (u : Unit) => z = wgt b w nn + ml) (fun (u : Unit) => [(hm, oB 8 [.ref m0, vI un, .ref m2, .ref m3, vI mo, vI oft, vI la, vI du, .ref m8, .ref m9, vI to, .ref m11, .ref m12, vJ tr, .ref m14, vI n, vI at0, vI sa, vI vv, .ref m19, vI rdu, .ref m21, .ref m22, vI se, vI its, .ref m25, .ref m26, vJ lt0]), (m0, aJ ca 7284 d), (m3, aI ca 5 w)]) 0 0 := by
  refine zm_J (cc := cX8_weighs) (maxL := 5) (ret := some .long) (by decide) rfl (Nat.le_of_ble_eq_true rfl) ?_
  intro p e s m below meth c A ls R args Q hR hargs hQ hx hb hml hr hts hown hlk hnm hK hP hD hA hS hl
  have hown : s.vm.findClass RX8 = some m.cls := hown
  have hl : lv_has ls 5 [(0, .ref hm), (1, vI h0)] := hl
  have lk_f7 : (Cond.fieldLink RX8 7 "DripRingsModel" "d" "[J").before args s = true := hts _ (by decide +kernel)
  have inF_X8 : ∀ w ∈ wsX80, w ∈ wsX8_weighs := by decide +kernel
  have lk_f17 : (Cond.fieldLink RX8 17 "DripRingsModel" "weights" "[I").before args s = true := hts _ (by decide +kernel)
  refine lv_aload_n hx hb dX8_weighs_0 rfl (lv_at hl 0 rfl) ?_
  refine va_get (D := g) (ci := 8) (v := .ref m0) (C := RX8) (T := TX8) (N := 28) hx hb hts inF_X8 hown hK.1 hP 0 rfl rfl 0 (by decide) lk_f7 (fun _ h9 => h9) rfl dX8_weighs_1 ?_
  refine lv_iload_n hx hb dX8_weighs_4 rfl (lv_at hl 1 rfl) ?_
  refine lv_sipush (v := Int32.ofInt 605) hx hb dX8_weighs_5 (by decide) ?_
  refine ri_add hx hb dX8_weighs_8 (fun z8 e8 => ?_)
  refine ra_lld hx hb hK hP 1 rfl dX8_weighs_9 ⟨by omega, by omega⟩ (by omega) ?_
  refine lv_lstore_n (lv' := [(2, vJ (d z8)), (0, .ref hm), (1, vI h0)]) hx hb dX8_weighs_10 rfl hl (by decide) rfl (fun ls hl => ?_)
  refine lv_iconst (v := Int32.ofInt 0) hx hb dX8_weighs_11 rfl ?_
  refine lv_istore (lv' := [(4, vI 0), (2, vJ (d z8)), (0, .ref hm), (1, vI h0)]) hx hb dX8_weighs_12 hl (by decide) rfl (fun ls hl => ?_)
  have L14 : ∀ (N14 : Nat) (o : Int) (a : Int) (hi : 0 ≤ o ∧ o ≤ 5) (ha : a = ml + sm (fun o => cnt b nn o * w o) 0 o.toNat) (hμ : (5 - o).toNat < N14) (H : Heap) (locs : List Loc) (hP : va_P g vwCl [(hm, oB 8 [.ref m0, vI un, .ref m2, .ref m3, vI mo, vI oft, vI la, vI du, .ref m8, .ref m9, vI to, .ref m11, .ref m12, vJ tr, .ref m14, vI n, vI at0, vI sa, vI vv, .ref m19, vI rdu, .ref m21, .ref m22, vI se, vI its, .ref m25, .ref m26, vJ lt0]), (m0, aJ ca 7284 d), (m3, aI ca 5 w)] H) (hD : va_D A [(hm, oB 8 [.ref m0, vI un, .ref m2, .ref m3, vI mo, vI oft, vI la, vI du, .ref m8, .ref m9, vI to, .ref m11, .ref m12, vJ tr, .ref m14, vI n, vI at0, vI sa, vI vv, .ref m19, vI rdu, .ref m21, .ref m22, vI se, vI its, .ref m25, .ref m26, vJ lt0]), (m0, aJ ca 7284 d), (m3, aI ca 5 w)]) (hS : va_S A s.heap H locs) (ls : Array Slot) (hl : lv_has ls 5 [(4, vI o), (2, vJ a), (0, .ref hm), (1, vI h0)]), W p l e R s m args below meth c H locs 0 0 Q (F0 m 14 ls []) := by
    intro N14; induction N14 with
    | zero => intro o a hi ha hμ; exact absurd hμ (Nat.not_lt_zero _)
    | succ N14 ih14 =>
      intro o a hi ha hμ H locs hP hD hS ls hl
      refine lv_iload hx hb dX8_weighs_14 (lv_at hl 0 rfl) ?_
      refine lv_iconst (v := Int32.ofInt 5) hx hb dX8_weighs_16 rfl ?_
      refine ri_icmp_ge (tgt := 45) hx hb dX8_weighs_17 (by decide) ⟨by omega, by omega⟩ ⟨by omega, by omega⟩ (fun c17 => ?_) (fun c17 => ?_)
      · skip
        refine lv_lload_n hx hb dX8_weighs_45 rfl (lv_at hl 1 rfl) ?_
        refine zr_J hx hb hr hlk hQ () hP hD hS dX8_weighs_46 (Nat.le_of_ble_eq_true rfl) (Nat.le_of_ble_eq_true rfl) ?_
        show a = wgt b w nn + ml
        rw [ha]; unfold wgt; rw [show o = 5 by omega, show (5 : Int).toNat = 5 from rfl]; omega
      · skip
        refine lv_lload_n hx hb dX8_weighs_20 rfl (lv_at hl 1 rfl) ?_
        refine lv_aload_n hx hb dX8_weighs_21 rfl (lv_at hl 2 rfl) ?_
        refine lv_iload_n hx hb dX8_weighs_22 rfl (lv_at hl 3 rfl) ?_
        refine lv_iload hx hb dX8_weighs_23 (lv_at hl 0 rfl) ?_
        refine zc_VJ (As := [vI h0, vI o]) (rest := [vJ a]) (wc := [(hm, oB 8 [.ref m0, vI un, .ref m2, .ref m3, vI mo, vI oft, vI la, vI du, .ref m8, .ref m9, vI to, .ref m11, .ref m12, vJ tr, .ref m14, vI n, vI at0, vI sa, vI vv, .ref m19, vI rdu, .ref m21, .ref m22, vI se, vI its, .ref m25, .ref m26, vJ lt0]), (m0, aJ ca 7284 d)]) (wr := [(m3, aI ca 5 w)]) (k_X8_manyOf l g ca hm m0 m2 m3 m8 m9 m11 m12 m14 m19 m21 m22 m25 m26 un mo oft la du to tr n at0 sa vv rdu se its lt0 d h0 o b nn ml (by first | assumption | omega) (by first | assumption | omega) (by first | assumption | omega) (by first | assumption | omega)) dX8_weighs_25 (cwV 2 hts gX8_weighs_X8_manyOf rfl rfl rfl (by decide +kernel) (by rw [hR]; exact ⟨Nat.le_of_ble_eq_true rfl, Nat.le_of_ble_eq_true rfl⟩)) ⟨hx, hb, hml, hown, hts⟩ hl.1 hK hP hD hS hA 0 rfl rfl rfl [0, 1] [2] rfl (by decide) rfl (by decide) (by decide) rfl rfl (Nat.le_of_ble_eq_true rfl) (by rw [hR]; exact ⟨Nat.le_of_ble_eq_true rfl, Nat.le_of_ble_eq_true rfl⟩) (fun z25 u H locs q25 hP hD hS => ?_)
        have q25 : z25 = cnt b nn o := q25
        have hP : va_P g vwCl [(hm, oB 8 [.ref m0, vI un, .ref m2, .ref m3, vI mo, vI oft, vI la, vI du, .ref m8, .ref m9, vI to, .ref m11, .ref m12, vJ tr, .ref m14, vI n, vI at0, vI sa, vI vv, .ref m19, vI rdu, .ref m21, .ref m22, vI se, vI its, .ref m25, .ref m26, vJ lt0]), (m0, aJ ca 7284 d), (m3, aI ca 5 w)] H := hP.sub [1, 2, 0] rfl
        have hD : va_D A [(hm, oB 8 [.ref m0, vI un, .ref m2, .ref m3, vI mo, vI oft, vI la, vI du, .ref m8, .ref m9, vI to, .ref m11, .ref m12, vJ tr, .ref m14, vI n, vI at0, vI sa, vI vv, .ref m19, vI rdu, .ref m21, .ref m22, vI se, vI its, .ref m25, .ref m26, vJ lt0]), (m0, aJ ca 7284 d), (m3, aI ca 5 w)] := hD.sub [1, 2, 0] (by decide) rfl
        refine lv_aload_n hx hb dX8_weighs_28 rfl (lv_at hl 2 rfl) ?_
        refine va_get (D := g) (ci := 8) (v := .ref m3) (C := RX8) (T := TX8) (N := 28) hx hb hts inF_X8 hown hK.1 hP 0 rfl rfl 3 (by decide) lk_f17 (fun _ h9 => h9) rfl dX8_weighs_29 ?_
        refine lv_iload hx hb dX8_weighs_32 (lv_at hl 0 rfl) ?_
        refine ra_ild hx hb hK hP 2 rfl dX8_weighs_34 ⟨by omega, by omega⟩ (by omega) ?_
        have hw35 := hW o (by omega) (by omega)
        refine ri_l hx hb dX8_weighs_35 ⟨by omega, by omega⟩ ?_
        refine rj_mul hx hb dX8_weighs_36 (fun z36 e36 => ?_)
        refine rj_add hx hb dX8_weighs_37 (fun z37 e37 => ?_)
        refine lv_lstore_n (lv' := [(2, vJ z37), (4, vI o), (0, .ref hm), (1, vI h0)]) hx hb dX8_weighs_38 rfl hl (by decide) rfl (fun ls hl => ?_)
        obtain ⟨z39, e39⟩ : ∃ q : Int, q = o + 1 := ⟨_, rfl⟩
        refine ri_inc (lv' := [(4, vI z39), (2, vJ z37), (0, .ref hm), (1, vI h0)]) hx hb dX8_weighs_39 hl (k := 1) rfl (by decide) z39 e39 rfl (fun ls hl => ?_)
        refine lv_goto (tgt := 14) hx hb dX8_weighs_42 (by decide) ?_
        exact ih14 z39 z37 (by first | assumption | omega) (by rw [e39, sm_s _ _ (by omega), e37, e36, q25, ha, Int.zero_add]; omega) (by omega) _ _ hP hD hS ls (lv_sub hl [0, 1, 2, 3] rfl)
  exact L14 _ 0 (d z8) (by first | assumption | omega) (by rw [show z8 = h0 + 605 by omega, hAT.2.1, show (0 : Int).toNat = 0 from rfl, sm_0]; omega) (Nat.lt_succ_self _) _ _ hP hD hS ls (lv_sub hl [0, 1, 2, 3] rfl)
set_option maxHeartbeats 4000000 in
set_option maxRecDepth 100000 in
theorem k_X8_takesAway (l : Launch) (g : va_G) (ca : Nat → ClassId) (hm : Nat) (m0 : Nat) (m2 : Nat) (m3 : Nat) (m8 : Nat) (m9 : Nat) (m11 : Nat) (m12 : Nat) (m14 : Nat) (m19 : Nat) (m21 : Nat) (m22 : Nat) (m25 : Nat) (m26 : Nat) (un : Int) (mo : Int) (oft : Int) (la : Int) (du : Int) (to : Int) (tr : Int) (n : Int) (at0 : Int) (sa : Int) (vv : Int) (rdu : Int) (se : Int) (its : Int) (lt0 : Int) (d : Int → Int) (h0 : Int) (o : Int) (q : Int) (b : Int → Int) (nn : Int) (ml : Int) (hh0 : 0 ≤ h0 ∧ h0 ≤ 6677) (ho : 0 ≤ o ∧ o ≤ 4) (hAT : AT d h0 b nn ml) (hB : GB b nn) (hq : 0 ≤ q ∧ q ≤ 1000000000000000) : zV (S := (Int → Int)) l yX8_takesAway wsX8_takesAway ({ frames := 0, cells := 0, slots := 0, locals := 0 } : Room) g ca [.ref hm, vI h0, vI o, vJ q] [(hm, oB 8 [.ref m0, vI un, .ref m2, .ref m3, vI mo, vI oft, vI la, vI du, .ref m8, .ref m9, vI to, .ref m11, .ref m12, vJ tr, .ref m14, vI n, vI at0, vI sa, vI vv, .ref m19, vI rdu, .ref m21, .ref m22, vI se, vI its, .ref m25, .ref m26, vJ lt0]), (m0, aJ ca 7284 d)] (fun (u : (Int → Int)) => AT u h0 (tk b (121 * o) q) nn ml ∧ FRM d u h0) (fun (u : (Int → Int)) => [(hm, oB 8 [.ref m0, vI un, .ref m2, .ref m3, vI mo, vI oft, vI la, vI du, .ref m8, .ref m9, vI to, .ref m11, .ref m12, vJ tr, .ref m14, vI n, vI at0, vI sa, vI vv, .ref m19, vI rdu, .ref m21, .ref m22, vI se, vI its, .ref m25, .ref m26, vJ lt0]), (m0, aJ ca 7284 u)]) 0 0 := by
  refine zm_V (cc := cX8_takesAway) (maxL := 12) (ret := none) (by decide) rfl (Nat.le_of_ble_eq_true rfl) ?_
  intro p e s m below meth c A ls R args Q hR hargs hQ hx hb hml hr hts hown hlk hnm hK hP hD hA hS hl
  have hown : s.vm.findClass RX8 = some m.cls := hown
  have hl : lv_has ls 12 [(0, .ref hm), (1, vI h0), (2, vI o), (3, vJ q)] := hl
  have lk_f7 : (Cond.fieldLink RX8 7 "DripRingsModel" "d" "[J").before args s = true := hts _ (by decide +kernel)
  have inF_X8 : ∀ w ∈ wsX80, w ∈ wsX8_takesAway := by decide +kernel
  have hn0 := hB.1
  refine lv_lload_n hx hb dX8_takesAway_0 rfl (lv_at hl 3 rfl) ?_
  refine lv_lstore (lv' := [(5, vJ q), (0, .ref hm), (1, vI h0), (2, vI o), (3, vJ q)]) hx hb dX8_takesAway_1 hl (by decide) rfl (fun ls hl => ?_)
  refine lv_iconst (v := Int32.ofInt 0) hx hb dX8_takesAway_3 rfl ?_
  refine lv_istore (lv' := [(7, vI 0), (5, vJ q), (0, .ref hm), (1, vI h0), (2, vI o), (3, vJ q)]) hx hb dX8_takesAway_4 hl (by decide) rfl (fun ls hl => ?_)
  have L6 : ∀ (N6 : Nat) (i : Int) (rs : Int) (f : Int → Int) (hi : 0 ≤ i ∧ i ≤ 121) (hrs : rs = max 0 (q - sm b (121 * o) i.toNat)) (hf : ∀ j : Int, f j = if h0 + 121 * o ≤ j ∧ j < h0 + 121 * o + i then tk b (121 * o) q (j - h0) else d j) (hμ : (121 - i).toNat < N6) (H : Heap) (locs : List Loc) (hP : va_P g vwCl [(hm, oB 8 [.ref m0, vI un, .ref m2, .ref m3, vI mo, vI oft, vI la, vI du, .ref m8, .ref m9, vI to, .ref m11, .ref m12, vJ tr, .ref m14, vI n, vI at0, vI sa, vI vv, .ref m19, vI rdu, .ref m21, .ref m22, vI se, vI its, .ref m25, .ref m26, vJ lt0]), (m0, aJ ca 7284 f)] H) (hD : va_D A [(hm, oB 8 [.ref m0, vI un, .ref m2, .ref m3, vI mo, vI oft, vI la, vI du, .ref m8, .ref m9, vI to, .ref m11, .ref m12, vJ tr, .ref m14, vI n, vI at0, vI sa, vI vv, .ref m19, vI rdu, .ref m21, .ref m22, vI se, vI its, .ref m25, .ref m26, vJ lt0]), (m0, aJ ca 7284 f)]) (hS : va_S A s.heap H locs) (ls : Array Slot) (hl : lv_has ls 12 [(7, vI i), (5, vJ rs), (0, .ref hm), (1, vI h0), (2, vI o), (3, vJ q)]), W p l e R s m args below meth c H locs 0 0 Q (F0 m 6 ls []) := by
    intro N6; induction N6 with
    | zero => intro i rs f hi hrs hf hμ; exact absurd hμ (Nat.not_lt_zero _)
    | succ N6 ih6 =>
      intro i rs f hi hrs hf hμ H locs hP hD hS ls hl
      refine lv_iload hx hb dX8_takesAway_6 (lv_at hl 0 rfl) ?_
      refine lv_bipush (v := Int32.ofInt 121) hx hb dX8_takesAway_8 (by decide) ?_
      refine ri_icmp_ge (tgt := 78) hx hb dX8_takesAway_10 (by decide) ⟨by omega, by omega⟩ ⟨by omega, by omega⟩ (fun c10 => ?_) (fun c10 => ?_)
      · skip
        refine zr_V hx hb hr hlk hQ (f) hP hD hS dX8_takesAway_78 (Nat.le_of_ble_eq_true rfl) (Nat.le_of_ble_eq_true rfl) ?_
        show AT f h0 (tk b (121 * o) q) nn ml ∧ FRM d f h0
        have hi1 : i = 121 := by omega
        subst hi1
        exact ⟨AT_tk hAT ho.1 ho.2 hf, fun j hj => by rw [hf, if_neg (by omega)]⟩
      · skip
        refine lv_aload_n hx hb dX8_takesAway_13 rfl (lv_at hl 2 rfl) ?_
        refine va_get (D := g) (ci := 8) (v := .ref m0) (C := RX8) (T := TX8) (N := 28) hx hb hts inF_X8 hown hK.1 hP 0 rfl rfl 0 (by decide) lk_f7 (fun _ h9 => h9) rfl dX8_takesAway_14 ?_
        refine lv_iload_n hx hb dX8_takesAway_17 rfl (lv_at hl 3 rfl) ?_
        refine lv_bipush (v := Int32.ofInt 121) hx hb dX8_takesAway_18 (by decide) ?_
        refine lv_iload_n hx hb dX8_takesAway_20 rfl (lv_at hl 4 rfl) ?_
        refine ri_mul hx hb dX8_takesAway_21 (fun z21 e21 => ?_)
        refine ri_add hx hb dX8_takesAway_22 (fun z22 e22 => ?_)
        refine lv_iload hx hb dX8_takesAway_23 (lv_at hl 0 rfl) ?_
        refine ri_add hx hb dX8_takesAway_25 (fun z25 e25 => ?_)
        refine ra_lld hx hb hK hP 1 rfl dX8_takesAway_26 ⟨by omega, by omega⟩ (by omega) ?_
        have hf27 : f z25 = b (121 * o + i) := by
          rw [hf, if_neg (by omega), show z25 = h0 + (121 * o + i) by omega]
          exact hAT.1 _ (by omega) (by omega)
        have hb27 := hB.2.1 o i (by omega) (by omega) (by omega) (by omega)
        have hb28 := Bd_bd o
        have hsm := sm_bd (f := b) (a := 121 * o) (M := 1406408618241) (k := i.toNat) (fun j h1 h2 => by
          have h3 := hB.2.1 o j (by omega) (by omega) h1 (by omega)
          have h5 := (Bd_bd o).2
          omega)
        have hrs1 : 0 ≤ rs ∧ rs ≤ 1000000000000000 := by omega
        refine lv_lstore (lv' := [(8, vJ (f z25)), (7, vI i), (5, vJ rs), (0, .ref hm), (1, vI h0), (2, vI o), (3, vJ q)]) hx hb dX8_takesAway_27 hl (by decide) rfl (fun ls hl => ?_)
        refine lv_lload hx hb dX8_takesAway_29 (lv_at hl 0 rfl) ?_
        refine lv_lload hx hb dX8_takesAway_31 (lv_at hl 2 rfl) ?_
        refine rj_cmp hx hb dX8_takesAway_33 ⟨by omega, by omega⟩ ⟨by omega, by omega⟩ (fun z33 e33 => ?_)
        refine ri_if_ge (tgt := 42) hx hb dX8_takesAway_34 (by decide) ⟨by omega, by omega⟩ (fun c34 => ?_) (fun c34 => ?_)
        · skip
          have c34 : rs ≤ (f z25) := by omega
          clear e33
          refine lv_lload hx hb dX8_takesAway_42 (lv_at hl 2 rfl) ?_
          refine lv_lstore (lv' := [(10, vJ rs), (8, vJ (f z25)), (7, vI i), (5, vJ rs), (0, .ref hm), (1, vI h0), (2, vI o), (3, vJ q)]) hx hb dX8_takesAway_44 hl (by decide) rfl (fun ls hl => ?_)
          refine lv_aload_n hx hb dX8_takesAway_46 rfl (lv_at hl 4 rfl) ?_
          refine va_get (D := g) (ci := 8) (v := .ref m0) (C := RX8) (T := TX8) (N := 28) hx hb hts inF_X8 hown hK.1 hP 0 rfl rfl 0 (by decide) lk_f7 (fun _ h9 => h9) rfl dX8_takesAway_47 ?_
          refine lv_iload_n hx hb dX8_takesAway_50 rfl (lv_at hl 5 rfl) ?_
          refine lv_bipush (v := Int32.ofInt 121) hx hb dX8_takesAway_51 (by decide) ?_
          refine lv_iload_n hx hb dX8_takesAway_53 rfl (lv_at hl 6 rfl) ?_
          refine ri_mul hx hb dX8_takesAway_54 (fun z54 e54 => ?_)
          refine ri_add hx hb dX8_takesAway_55 (fun z55 e55 => ?_)
          refine lv_iload hx hb dX8_takesAway_56 (lv_at hl 2 rfl) ?_
          refine ri_add hx hb dX8_takesAway_58 (fun z58 e58 => ?_)
          refine lv_dup2_11 hx hb dX8_takesAway_59 rfl rfl ?_
          refine ra_lld hx hb hK hP 1 rfl dX8_takesAway_60 ⟨by omega, by omega⟩ (by omega) ?_
          refine lv_lload hx hb dX8_takesAway_61 (lv_at hl 0 rfl) ?_
          refine rj_sub hx hb dX8_takesAway_63 (fun z63 e63 => ?_)
          refine ra_lst hx hb hK hP hD hS 1 rfl dX8_takesAway_64 ⟨by omega, by omega⟩ (by omega) (fun H locs hP hD hS => ?_)
          have hP : va_P g vwCl [(hm, oB 8 [.ref m0, vI un, .ref m2, .ref m3, vI mo, vI oft, vI la, vI du, .ref m8, .ref m9, vI to, .ref m11, .ref m12, vJ tr, .ref m14, vI n, vI at0, vI sa, vI vv, .ref m19, vI rdu, .ref m21, .ref m22, vI se, vI its, .ref m25, .ref m26, vJ lt0]), (m0, aJ ca 7284 (zu f z58 z63))] H := hP
          have hD : va_D A [(hm, oB 8 [.ref m0, vI un, .ref m2, .ref m3, vI mo, vI oft, vI la, vI du, .ref m8, .ref m9, vI to, .ref m11, .ref m12, vJ tr, .ref m14, vI n, vI at0, vI sa, vI vv, .ref m19, vI rdu, .ref m21, .ref m22, vI se, vI its, .ref m25, .ref m26, vJ lt0]), (m0, aJ ca 7284 (zu f z58 z63))] := hD
          refine lv_lload hx hb dX8_takesAway_65 (lv_at hl 3 rfl) ?_
          refine lv_lload hx hb dX8_takesAway_67 (lv_at hl 0 rfl) ?_
          refine rj_sub hx hb dX8_takesAway_69 (fun z69 e69 => ?_)
          refine lv_lstore (lv' := [(5, vJ z69), (10, vJ rs), (8, vJ (f z25)), (7, vI i), (0, .ref hm), (1, vI h0), (2, vI o), (3, vJ q)]) hx hb dX8_takesAway_70 hl (by decide) rfl (fun ls hl => ?_)
          obtain ⟨z72, e72⟩ : ∃ q : Int, q = i + 1 := ⟨_, rfl⟩
          refine ri_inc (lv' := [(7, vI z72), (5, vJ z69), (10, vJ rs), (8, vJ (f z25)), (0, .ref hm), (1, vI h0), (2, vI o), (3, vJ q)]) hx hb dX8_takesAway_72 hl (k := 3) rfl (by decide) z72 e72 rfl (fun ls hl => ?_)
          refine lv_goto (tgt := 6) hx hb dX8_takesAway_75 (by decide) ?_
          exact ih6 z72 z69 (zu f z58 z63) (by first | assumption | omega) (by rw [e72, sm_s _ _ (by omega), e69]; omega) (by
                intro j
                rw [zu_e]
                split
                · rename_i hj
                  rw [if_pos (by omega), hj, show z58 - h0 = 121 * o + i by omega, tk_in (by omega) (by omega), ← hrs, e63, show z58 = z25 by omega]
                  omega
                · rw [hf j]
                  split <;> split <;> first | rfl | omega) (by omega) _ _ hP hD hS ls (lv_sub hl [0, 1, 4, 5, 6, 7] rfl)
        · skip
          have c34 : (f z25) < rs := by omega
          clear e33
          refine lv_lload hx hb dX8_takesAway_37 (lv_at hl 0 rfl) ?_
          refine lv_goto (tgt := 44) hx hb dX8_takesAway_39 (by decide) ?_
          refine lv_lstore (lv' := [(10, vJ (f z25)), (8, vJ (f z25)), (7, vI i), (5, vJ rs), (0, .ref hm), (1, vI h0), (2, vI o), (3, vJ q)]) hx hb dX8_takesAway_44 hl (by decide) rfl (fun ls hl => ?_)
          refine lv_aload_n hx hb dX8_takesAway_46 rfl (lv_at hl 4 rfl) ?_
          refine va_get (D := g) (ci := 8) (v := .ref m0) (C := RX8) (T := TX8) (N := 28) hx hb hts inF_X8 hown hK.1 hP 0 rfl rfl 0 (by decide) lk_f7 (fun _ h9 => h9) rfl dX8_takesAway_47 ?_
          refine lv_iload_n hx hb dX8_takesAway_50 rfl (lv_at hl 5 rfl) ?_
          refine lv_bipush (v := Int32.ofInt 121) hx hb dX8_takesAway_51 (by decide) ?_
          refine lv_iload_n hx hb dX8_takesAway_53 rfl (lv_at hl 6 rfl) ?_
          refine ri_mul hx hb dX8_takesAway_54 (fun z54 e54 => ?_)
          refine ri_add hx hb dX8_takesAway_55 (fun z55 e55 => ?_)
          refine lv_iload hx hb dX8_takesAway_56 (lv_at hl 2 rfl) ?_
          refine ri_add hx hb dX8_takesAway_58 (fun z58 e58 => ?_)
          refine lv_dup2_11 hx hb dX8_takesAway_59 rfl rfl ?_
          refine ra_lld hx hb hK hP 1 rfl dX8_takesAway_60 ⟨by omega, by omega⟩ (by omega) ?_
          refine lv_lload hx hb dX8_takesAway_61 (lv_at hl 0 rfl) ?_
          refine rj_sub hx hb dX8_takesAway_63 (fun z63 e63 => ?_)
          refine ra_lst hx hb hK hP hD hS 1 rfl dX8_takesAway_64 ⟨by omega, by omega⟩ (by omega) (fun H locs hP hD hS => ?_)
          have hP : va_P g vwCl [(hm, oB 8 [.ref m0, vI un, .ref m2, .ref m3, vI mo, vI oft, vI la, vI du, .ref m8, .ref m9, vI to, .ref m11, .ref m12, vJ tr, .ref m14, vI n, vI at0, vI sa, vI vv, .ref m19, vI rdu, .ref m21, .ref m22, vI se, vI its, .ref m25, .ref m26, vJ lt0]), (m0, aJ ca 7284 (zu f z58 z63))] H := hP
          have hD : va_D A [(hm, oB 8 [.ref m0, vI un, .ref m2, .ref m3, vI mo, vI oft, vI la, vI du, .ref m8, .ref m9, vI to, .ref m11, .ref m12, vJ tr, .ref m14, vI n, vI at0, vI sa, vI vv, .ref m19, vI rdu, .ref m21, .ref m22, vI se, vI its, .ref m25, .ref m26, vJ lt0]), (m0, aJ ca 7284 (zu f z58 z63))] := hD
          refine lv_lload hx hb dX8_takesAway_65 (lv_at hl 3 rfl) ?_
          refine lv_lload hx hb dX8_takesAway_67 (lv_at hl 0 rfl) ?_
          refine rj_sub hx hb dX8_takesAway_69 (fun z69 e69 => ?_)
          refine lv_lstore (lv' := [(5, vJ z69), (10, vJ (f z25)), (8, vJ (f z25)), (7, vI i), (0, .ref hm), (1, vI h0), (2, vI o), (3, vJ q)]) hx hb dX8_takesAway_70 hl (by decide) rfl (fun ls hl => ?_)
          obtain ⟨z72, e72⟩ : ∃ q : Int, q = i + 1 := ⟨_, rfl⟩
          refine ri_inc (lv' := [(7, vI z72), (5, vJ z69), (10, vJ (f z25)), (8, vJ (f z25)), (0, .ref hm), (1, vI h0), (2, vI o), (3, vJ q)]) hx hb dX8_takesAway_72 hl (k := 3) rfl (by decide) z72 e72 rfl (fun ls hl => ?_)
          refine lv_goto (tgt := 6) hx hb dX8_takesAway_75 (by decide) ?_
          exact ih6 z72 z69 (zu f z58 z63) (by first | assumption | omega) (by rw [e72, sm_s _ _ (by omega), e69]; omega) (by
                intro j
                rw [zu_e]
                split
                · rename_i hj
                  rw [if_pos (by omega), hj, show z58 - h0 = 121 * o + i by omega, tk_in (by omega) (by omega), ← hrs, e63, show z58 = z25 by omega]
                  omega
                · rw [hf j]
                  split <;> split <;> first | rfl | omega) (by omega) _ _ hP hD hS ls (lv_sub hl [0, 1, 4, 5, 6, 7] rfl)
  exact L6 _ 0 q d (by first | assumption | omega) (by rw [show (0 : Int).toNat = 0 from rfl, sm_0]; omega) (by intro j; rw [if_neg (by omega)]) (Nat.lt_succ_self _) _ _ hP hD hS ls (lv_sub hl [0, 1, 2, 3, 4, 5] rfl)
set_option maxHeartbeats 4000000 in
set_option maxRecDepth 100000 in
theorem k_X8_oldest (l : Launch) (g : va_G) (ca : Nat → ClassId) (hm : Nat) (m0 : Nat) (m2 : Nat) (m3 : Nat) (m8 : Nat) (m9 : Nat) (m11 : Nat) (m12 : Nat) (m14 : Nat) (m19 : Nat) (m21 : Nat) (m22 : Nat) (m25 : Nat) (m26 : Nat) (un : Int) (mo : Int) (oft : Int) (la : Int) (du : Int) (to : Int) (tr : Int) (n : Int) (at0 : Int) (sa : Int) (vv : Int) (rdu : Int) (se : Int) (its : Int) (lt0 : Int) (d : Int → Int) (o : Int) (b : Int → Int) (nn : Int) (ml : Int) (ho : 0 ≤ o ∧ o ≤ 4) (hAT : AT d 0 b nn ml) (hB : GB b nn) : zI (S := Unit) l yX8_oldest wsX8_oldest ({ frames := 0, cells := 0, slots := 0, locals := 0 } : Room) g ca [.ref hm, vI o] [(hm, oB 8 [.ref m0, vI un, .ref m2, .ref m3, vI mo, vI oft, vI la, vI du, .ref m8, .ref m9, vI to, .ref m11, .ref m12, vJ tr, .ref m14, vI n, vI at0, vI sa, vI vv, .ref m19, vI rdu, .ref m21, .ref m22, vI se, vI its, .ref m25, .ref m26, vJ lt0]), (m0, aJ ca 7284 d)] (fun (z : Int) (u : Unit) => z = og b (121 * o) nn 121 0) (fun (u : Unit) => [(hm, oB 8 [.ref m0, vI un, .ref m2, .ref m3, vI mo, vI oft, vI la, vI du, .ref m8, .ref m9, vI to, .ref m11, .ref m12, vJ tr, .ref m14, vI n, vI at0, vI sa, vI vv, .ref m19, vI rdu, .ref m21, .ref m22, vI se, vI its, .ref m25, .ref m26, vJ lt0]), (m0, aJ ca 7284 d)]) 0 0 := by
  refine zm_I (cc := cX8_oldest) (maxL := 3) (ret := some .int) (by decide) rfl (Nat.le_of_ble_eq_true rfl) ?_
  intro p e s m below meth c A ls R args Q hR hargs hQ hx hb hml hr hts hown hlk hnm hK hP hD hA hS hl
  have hown : s.vm.findClass RX8 = some m.cls := hown
  have hl : lv_has ls 3 [(0, .ref hm), (1, vI o)] := hl
  have lk_f7 : (Cond.fieldLink RX8 7 "DripRingsModel" "d" "[J").before args s = true := hts _ (by decide +kernel)
  have inF_X8 : ∀ w ∈ wsX80, w ∈ wsX8_oldest := by decide +kernel
  have hn0 := hB.1
  refine lv_iconst (v := Int32.ofInt 0) hx hb dX8_oldest_0 rfl ?_
  refine lv_istore_n (lv' := [(2, vI 0), (0, .ref hm), (1, vI o)]) hx hb dX8_oldest_1 rfl hl (by decide) rfl (fun ls hl => ?_)
  have L2 : ∀ (N2 : Nat) (i : Int) (k : Nat) (hi : 0 ≤ i ∧ i ≤ 121 ∧ i + k = 121) (ha : og b (121 * o) nn k i = og b (121 * o) nn 121 0) (hμ : k < N2) (H : Heap) (locs : List Loc) (hP : va_P g vwCl [(hm, oB 8 [.ref m0, vI un, .ref m2, .ref m3, vI mo, vI oft, vI la, vI du, .ref m8, .ref m9, vI to, .ref m11, .ref m12, vJ tr, .ref m14, vI n, vI at0, vI sa, vI vv, .ref m19, vI rdu, .ref m21, .ref m22, vI se, vI its, .ref m25, .ref m26, vJ lt0]), (m0, aJ ca 7284 d)] H) (hD : va_D A [(hm, oB 8 [.ref m0, vI un, .ref m2, .ref m3, vI mo, vI oft, vI la, vI du, .ref m8, .ref m9, vI to, .ref m11, .ref m12, vJ tr, .ref m14, vI n, vI at0, vI sa, vI vv, .ref m19, vI rdu, .ref m21, .ref m22, vI se, vI its, .ref m25, .ref m26, vJ lt0]), (m0, aJ ca 7284 d)]) (hS : va_S A s.heap H locs) (ls : Array Slot) (hl : lv_has ls 3 [(2, vI i), (0, .ref hm), (1, vI o)]), W p l e R s m args below meth c H locs 0 0 Q (F0 m 2 ls []) := by
    intro N2; induction N2 with
    | zero => intro i k hi ha hμ; exact absurd hμ (Nat.not_lt_zero _)
    | succ N2 ih2 =>
      intro i k hi ha hμ H locs hP hD hS ls hl
      refine lv_iload_n hx hb dX8_oldest_2 rfl (lv_at hl 0 rfl) ?_
      refine lv_bipush (v := Int32.ofInt 121) hx hb dX8_oldest_3 (by decide) ?_
      refine ri_icmp_ge (tgt := 42) hx hb dX8_oldest_5 (by decide) ⟨by omega, by omega⟩ ⟨by omega, by omega⟩ (fun c5 => ?_) (fun c5 => ?_)
      · skip
        refine lv_bipush (v := Int32.ofInt (-9)) hx hb dX8_oldest_42 (by decide) ?_
        refine zr_I hx hb hr hlk hQ () hP hD hS dX8_oldest_44 (Nat.le_of_ble_eq_true rfl) (Nat.le_of_ble_eq_true rfl) ?_
        show (-9) = og b (121 * o) nn 121 0
        rw [← ha, show k = 0 by omega]; rfl
      · skip
        obtain ⟨k1, rfl⟩ : ∃ q, k = q + 1 := ⟨k - 1, by omega⟩
        refine lv_aload_n hx hb dX8_oldest_8 rfl (lv_at hl 1 rfl) ?_
        refine va_get (D := g) (ci := 8) (v := .ref m0) (C := RX8) (T := TX8) (N := 28) hx hb hts inF_X8 hown hK.1 hP 0 rfl rfl 0 (by decide) lk_f7 (fun _ h9 => h9) rfl dX8_oldest_9 ?_
        refine lv_bipush (v := Int32.ofInt 121) hx hb dX8_oldest_12 (by decide) ?_
        refine lv_iload_n hx hb dX8_oldest_14 rfl (lv_at hl 2 rfl) ?_
        refine ri_mul hx hb dX8_oldest_15 (fun z15 e15 => ?_)
        refine lv_iload_n hx hb dX8_oldest_16 rfl (lv_at hl 0 rfl) ?_
        refine ri_add hx hb dX8_oldest_17 (fun z17 e17 => ?_)
        have hf18 : d z17 = b (121 * o + i) := by
          rw [show z17 = 0 + (121 * o + i) by omega]
          exact hAT.1 _ (by omega) (by omega)
        have hb18 := hB.2.1 o i (by omega) (by omega) (by omega) (by omega)
        have hb19 := Bd_bd o
        refine ra_lld hx hb hK hP 1 rfl dX8_oldest_18 ⟨by omega, by omega⟩ (by omega) ?_
        refine lv_lconst (v := Int64.ofInt 0) hx hb dX8_oldest_19 (by decide) ?_
        refine rj_cmp hx hb dX8_oldest_20 ⟨by omega, by omega⟩ ⟨by omega, by omega⟩ (fun z20 e20 => ?_)
        refine ri_if_le (tgt := 36) hx hb dX8_oldest_21 (by decide) ⟨by omega, by omega⟩ (fun c21 => ?_) (fun c21 => ?_)
        · skip
          have c21 : (d z17) ≤ 0 := by omega
          clear e20
          obtain ⟨z36, e36⟩ : ∃ q : Int, q = i + 1 := ⟨_, rfl⟩
          refine ri_inc (lv' := [(2, vI z36), (0, .ref hm), (1, vI o)]) hx hb dX8_oldest_36 hl (k := 0) rfl (by decide) z36 e36 rfl (fun ls hl => ?_)
          refine lv_goto (tgt := 2) hx hb dX8_oldest_39 (by decide) ?_
          exact ih2 z36 k1 (by first | assumption | omega) (by rw [← ha, og_n (by omega), e36]) (by omega) _ _ hP hD hS ls (lv_sub hl [0, 1, 2] rfl)
        · skip
          have c21 : 0 < (d z17) := by omega
          clear e20
          refine lv_aload_n hx hb dX8_oldest_24 rfl (lv_at hl 1 rfl) ?_
          refine va_get (D := g) (ci := 8) (v := .ref m0) (C := RX8) (T := TX8) (N := 28) hx hb hts inF_X8 hown hK.1 hP 0 rfl rfl 0 (by decide) lk_f7 (fun _ h9 => h9) rfl dX8_oldest_25 ?_
          refine lv_sipush (v := Int32.ofInt 606) hx hb dX8_oldest_28 (by decide) ?_
          refine ra_lld hx hb hK hP 1 rfl dX8_oldest_31 ⟨by omega, by omega⟩ (by omega) ?_
          have hd32 : d 606 = nn := by have := hAT.2.2; rw [show (0 : Int) + 606 = 606 from rfl] at this; exact this
          refine rj_i hx hb dX8_oldest_32 ⟨by omega, by omega⟩ ?_
          refine lv_iload_n hx hb dX8_oldest_33 rfl (lv_at hl 0 rfl) ?_
          refine ri_sub hx hb dX8_oldest_34 (fun z34 e34 => ?_)
          refine zr_I hx hb hr hlk hQ () hP hD hS dX8_oldest_35 (Nat.le_of_ble_eq_true rfl) (Nat.le_of_ble_eq_true rfl) ?_
          show z34 = og b (121 * o) nn 121 0
          rw [← ha, og_p (by omega)]; omega
  exact L2 _ 0 121 (by first | assumption | omega) (by rfl) (Nat.lt_succ_self _) _ _ hP hD hS ls (lv_sub hl [0, 1, 2] rfl)
set_option maxHeartbeats 4000000 in
set_option maxRecDepth 100000 in
theorem k_X8_goes (l : Launch) (g : va_G) (ca : Nat → ClassId) (hm : Nat) (m0 : Nat) (m2 : Nat) (m3 : Nat) (m8 : Nat) (m9 : Nat) (m11 : Nat) (m12 : Nat) (m14 : Nat) (m19 : Nat) (m21 : Nat) (m22 : Nat) (m25 : Nat) (m26 : Nat) (un : Int) (mo : Int) (oft : Int) (la : Int) (du : Int) (to : Int) (tr : Int) (n : Int) (at0 : Int) (sa : Int) (vv : Int) (rdu : Int) (se : Int) (its : Int) (lt0 : Int) (d : Int → Int) (w : Int → Int) (h0 : Int) (b : Int → Int) (nn : Int) (ml : Int) (hh0 : 0 ≤ h0 ∧ h0 ≤ 6677) (hAT : AT d h0 b nn ml) (hB : GB b nn) (hnn : nn ≤ 119) (hW : GW w) (hE : EAok (ef oft la)) (hM : 1 ≤ mo ∧ mo ≤ 9) : zJ (S := (Int → Int)) l yX8_goes wsX8_goes ({ frames := 1, cells := 0, slots := 0, locals := 21 } : Room) g ca [.ref hm, vI h0] [(hm, oB 8 [.ref m0, vI un, .ref m2, .ref m3, vI mo, vI oft, vI la, vI du, .ref m8, .ref m9, vI to, .ref m11, .ref m12, vJ tr, .ref m14, vI n, vI at0, vI sa, vI vv, .ref m19, vI rdu, .ref m21, .ref m22, vI se, vI its, .ref m25, .ref m26, vJ lt0]), (m0, aJ ca 7284 d), (m3, aI ca 5 w)] (fun (z : Int) (u : (Int → Int)) => AT u h0 (gs w (ef oft la) mo (nn + 1) b 4).1 (nn + 1) ml ∧ FRM d u h0 ∧ z = (gs w (ef oft la) mo (nn + 1) b 4).2) (fun (u : (Int → Int)) => [(hm, oB 8 [.ref m0, vI un, .ref m2, .ref m3, vI mo, vI oft, vI la, vI du, .ref m8, .ref m9, vI to, .ref m11, .ref m12, vJ tr, .ref m14, vI n, vI at0, vI sa, vI vv, .ref m19, vI rdu, .ref m21, .ref m22, vI se, vI its, .ref m25, .ref m26, vJ lt0]), (m0, aJ ca 7284 u), (m3, aI ca 5 w)]) 0 0 := by
  refine zm_J (cc := cX8_goes) (maxL := 9) (ret := some .long) (by decide) rfl (Nat.le_of_ble_eq_true rfl) ?_
  intro p e s m below meth c A ls R args Q hR hargs hQ hx hb hml hr hts hown hlk hnm hK hP hD hA hS hl
  have hown : s.vm.findClass RX8 = some m.cls := hown
  have hl : lv_has ls 9 [(0, .ref hm), (1, vI h0)] := hl
  have lk_f7 : (Cond.fieldLink RX8 7 "DripRingsModel" "d" "[J").before args s = true := hts _ (by decide +kernel)
  have inF_X8 : ∀ w ∈ wsX80, w ∈ wsX8_goes := by decide +kernel
  have lk_f67 : (Cond.fieldLink RX8 67 "DripRingsModel" "drips" "I").before args s = true := hts _ (by decide +kernel)
  have hn0 := hB.1
  refine lv_aload_n hx hb dX8_goes_0 rfl (lv_at hl 0 rfl) ?_
  refine va_get (D := g) (ci := 8) (v := .ref m0) (C := RX8) (T := TX8) (N := 28) hx hb hts inF_X8 hown hK.1 hP 0 rfl rfl 0 (by decide) lk_f7 (fun _ h9 => h9) rfl dX8_goes_1 ?_
  refine lv_iload_n hx hb dX8_goes_4 rfl (lv_at hl 1 rfl) ?_
  refine lv_sipush (v := Int32.ofInt 606) hx hb dX8_goes_5 (by decide) ?_
  refine ri_add hx hb dX8_goes_8 (fun z8 e8 => ?_)
  refine ra_lld hx hb hK hP 1 rfl dX8_goes_9 ⟨by omega, by omega⟩ (by omega) ?_
  have hd10 : d z8 = nn := by rw [show z8 = h0 + 606 by omega]; exact hAT.2.2
  refine rj_i hx hb dX8_goes_10 ⟨by omega, by omega⟩ ?_
  refine lv_iconst (v := Int32.ofInt 1) hx hb dX8_goes_11 rfl ?_
  refine ri_add hx hb dX8_goes_12 (fun z12 e12 => ?_)
  refine lv_istore_n (lv' := [(2, vI z12), (0, .ref hm), (1, vI h0)]) hx hb dX8_goes_13 rfl hl (by decide) rfl (fun ls hl => ?_)
  refine lv_aload_n hx hb dX8_goes_14 rfl (lv_at hl 1 rfl) ?_
  refine va_get (D := g) (ci := 8) (v := .ref m0) (C := RX8) (T := TX8) (N := 28) hx hb hts inF_X8 hown hK.1 hP 0 rfl rfl 0 (by decide) lk_f7 (fun _ h9 => h9) rfl dX8_goes_15 ?_
  refine lv_iload_n hx hb dX8_goes_18 rfl (lv_at hl 2 rfl) ?_
  refine lv_sipush (v := Int32.ofInt 606) hx hb dX8_goes_19 (by decide) ?_
  refine ri_add hx hb dX8_goes_22 (fun z22 e22 => ?_)
  refine lv_iload_n hx hb dX8_goes_23 rfl (lv_at hl 0 rfl) ?_
  refine ri_l hx hb dX8_goes_24 ⟨by omega, by omega⟩ ?_
  refine ra_lst hx hb hK hP hD hS 1 rfl dX8_goes_25 ⟨by omega, by omega⟩ (by omega) (fun H locs hP hD hS => ?_)
  have hP : va_P g vwCl [(hm, oB 8 [.ref m0, vI un, .ref m2, .ref m3, vI mo, vI oft, vI la, vI du, .ref m8, .ref m9, vI to, .ref m11, .ref m12, vJ tr, .ref m14, vI n, vI at0, vI sa, vI vv, .ref m19, vI rdu, .ref m21, .ref m22, vI se, vI its, .ref m25, .ref m26, vJ lt0]), (m0, aJ ca 7284 (zu d z22 z12)), (m3, aI ca 5 w)] H := hP
  have hD : va_D A [(hm, oB 8 [.ref m0, vI un, .ref m2, .ref m3, vI mo, vI oft, vI la, vI du, .ref m8, .ref m9, vI to, .ref m11, .ref m12, vJ tr, .ref m14, vI n, vI at0, vI sa, vI vv, .ref m19, vI rdu, .ref m21, .ref m22, vI se, vI its, .ref m25, .ref m26, vJ lt0]), (m0, aJ ca 7284 (zu d z22 z12)), (m3, aI ca 5 w)] := hD
  refine lv_lconst (v := Int64.ofInt 0) hx hb dX8_goes_26 (by decide) ?_
  refine lv_lstore_n (lv' := [(3, vJ 0), (2, vI z12), (0, .ref hm), (1, vI h0)]) hx hb dX8_goes_27 rfl hl (by decide) rfl (fun ls hl => ?_)
  refine lv_iconst (v := Int32.ofInt 0) hx hb dX8_goes_28 rfl ?_
  refine lv_istore (lv' := [(5, vI 0), (3, vJ 0), (2, vI z12), (0, .ref hm), (1, vI h0)]) hx hb dX8_goes_29 hl (by decide) rfl (fun ls hl => ?_)
  have L31 : ∀ (N31 : Nat) (o : Int) (a : Int) (f : Int → Int) (hi : 0 ≤ o ∧ o ≤ 5) (hf : AT f h0 (gs w (ef oft la) mo (nn + 1) b (if o < 4 then o else 4).toNat).1 (nn + 1) ml) (hfr : FRM d f h0) (ha : a = (gs w (ef oft la) mo (nn + 1) b (if o < 4 then o else 4).toNat).2) (hμ : (5 - o).toNat < N31) (H : Heap) (locs : List Loc) (hP : va_P g vwCl [(hm, oB 8 [.ref m0, vI un, .ref m2, .ref m3, vI mo, vI oft, vI la, vI du, .ref m8, .ref m9, vI to, .ref m11, .ref m12, vJ tr, .ref m14, vI n, vI at0, vI sa, vI vv, .ref m19, vI rdu, .ref m21, .ref m22, vI se, vI its, .ref m25, .ref m26, vJ lt0]), (m0, aJ ca 7284 f), (m3, aI ca 5 w)] H) (hD : va_D A [(hm, oB 8 [.ref m0, vI un, .ref m2, .ref m3, vI mo, vI oft, vI la, vI du, .ref m8, .ref m9, vI to, .ref m11, .ref m12, vJ tr, .ref m14, vI n, vI at0, vI sa, vI vv, .ref m19, vI rdu, .ref m21, .ref m22, vI se, vI its, .ref m25, .ref m26, vJ lt0]), (m0, aJ ca 7284 f), (m3, aI ca 5 w)]) (hS : va_S A s.heap H locs) (ls : Array Slot) (hl : lv_has ls 9 [(5, vI o), (3, vJ a), (2, vI z12), (0, .ref hm), (1, vI h0)]), W p l e R s m args below meth c H locs 0 0 Q (F0 m 31 ls []) := by
    intro N31; induction N31 with
    | zero => intro o a f hi hf hfr ha hμ; exact absurd hμ (Nat.not_lt_zero _)
    | succ N31 ih31 =>
      intro o a f hi hf hfr ha hμ H locs hP hD hS ls hl
      refine lv_iload hx hb dX8_goes_31 (lv_at hl 0 rfl) ?_
      refine lv_iconst (v := Int32.ofInt 5) hx hb dX8_goes_33 rfl ?_
      refine ri_icmp_ge (tgt := 143) hx hb dX8_goes_34 (by decide) ⟨by omega, by omega⟩ ⟨by omega, by omega⟩ (fun c34 => ?_) (fun c34 => ?_)
      · skip
        refine lv_lload_n hx hb dX8_goes_143 rfl (lv_at hl 1 rfl) ?_
        refine zr_J hx hb hr hlk hQ (f) hP hD hS dX8_goes_144 (Nat.le_of_ble_eq_true rfl) (Nat.le_of_ble_eq_true rfl) ?_
        show AT f h0 (gs w (ef oft la) mo (nn + 1) b 4).1 (nn + 1) ml ∧ FRM d f h0 ∧ a = (gs w (ef oft la) mo (nn + 1) b 4).2
        rw [show (if o < 4 then o else 4).toNat = 4 by split <;> omega] at hf ha
        exact ⟨hf, hfr, ha⟩
      · skip
        have hE37 := hE o (by omega) (by omega)
        refine lv_lconst (v := Int64.ofInt 0) hx hb dX8_goes_37 (by decide) ?_
        refine lv_lstore (lv' := [(6, vJ 0), (5, vI o), (3, vJ a), (2, vI z12), (0, .ref hm), (1, vI h0)]) hx hb dX8_goes_38 hl (by decide) rfl (fun ls hl => ?_)
        refine lv_iload_n hx hb dX8_goes_40 rfl (lv_at hl 3 rfl) ?_
        refine lv_aload_n hx hb dX8_goes_41 rfl (lv_at hl 4 rfl) ?_
        refine lv_iload hx hb dX8_goes_42 (lv_at hl 1 rfl) ?_
        refine zc_VI (As := [vI o]) (rest := [vI z12]) (wc := [(hm, oB 8 [.ref m0, vI un, .ref m2, .ref m3, vI mo, vI oft, vI la, vI du, .ref m8, .ref m9, vI to, .ref m11, .ref m12, vJ tr, .ref m14, vI n, vI at0, vI sa, vI vv, .ref m19, vI rdu, .ref m21, .ref m22, vI se, vI its, .ref m25, .ref m26, vJ lt0])]) (wr := [(m0, aJ ca 7284 f), (m3, aI ca 5 w)]) (k_X8_eachOf l g ca hm m0 m2 m3 m8 m9 m11 m12 m14 m19 m21 m22 m25 m26 un mo oft la du to tr n at0 sa vv rdu se its lt0 o ) dX8_goes_44 (cwV 1 hts gX8_goes_X8_eachOf rfl rfl rfl (by decide +kernel) (by rw [hR]; exact ⟨Nat.le_of_ble_eq_true rfl, Nat.le_of_ble_eq_true rfl⟩)) ⟨hx, hb, hml, hown, hts⟩ hl.1 hK hP hD hS hA 0 rfl rfl rfl [0] [1, 2] rfl (by decide) rfl (by decide) (by decide) rfl rfl (Nat.le_of_ble_eq_true rfl) (by rw [hR]; exact ⟨Nat.le_of_ble_eq_true rfl, Nat.le_of_ble_eq_true rfl⟩) (fun z44 u H locs q44 hP hD hS => ?_)
        have q44 : z44 = ef oft la o := q44
        have hP : va_P g vwCl [(hm, oB 8 [.ref m0, vI un, .ref m2, .ref m3, vI mo, vI oft, vI la, vI du, .ref m8, .ref m9, vI to, .ref m11, .ref m12, vJ tr, .ref m14, vI n, vI at0, vI sa, vI vv, .ref m19, vI rdu, .ref m21, .ref m22, vI se, vI its, .ref m25, .ref m26, vJ lt0]), (m0, aJ ca 7284 f), (m3, aI ca 5 w)] H := hP.sub [2, 0, 1] rfl
        have hD : va_D A [(hm, oB 8 [.ref m0, vI un, .ref m2, .ref m3, vI mo, vI oft, vI la, vI du, .ref m8, .ref m9, vI to, .ref m11, .ref m12, vJ tr, .ref m14, vI n, vI at0, vI sa, vI vv, .ref m19, vI rdu, .ref m21, .ref m22, vI se, vI its, .ref m25, .ref m26, vJ lt0]), (m0, aJ ca 7284 f), (m3, aI ca 5 w)] := hD.sub [2, 0, 1] (by decide) rfl
        refine ri_sub hx hb dX8_goes_47 (fun z47 e47 => ?_)
        refine lv_istore (lv' := [(8, vI z47), (6, vJ 0), (5, vI o), (3, vJ a), (2, vI z12), (0, .ref hm), (1, vI h0)]) hx hb dX8_goes_48 hl (by decide) rfl (fun ls hl => ?_)
        have L50 : ∀ (N50 : Nat) (i : Int) (x : Int) (k : Nat) (hi2 : i ≤ 119 ∧ i < k ∧ -1000 ≤ i) (hx1 : (o ≤ 3 ∧ 0 < w (o + 1)) → x + dr f (h0 + 121 * o) (ef oft la o) k i = dr f (h0 + 121 * o) (ef oft la o) 121 (nn + 1 - ef oft la o)) (hx2 : ¬ (o ≤ 3 ∧ 0 < w (o + 1)) → x = 0) (hμ : k < N50) (H : Heap) (locs : List Loc) (hP : va_P g vwCl [(hm, oB 8 [.ref m0, vI un, .ref m2, .ref m3, vI mo, vI oft, vI la, vI du, .ref m8, .ref m9, vI to, .ref m11, .ref m12, vJ tr, .ref m14, vI n, vI at0, vI sa, vI vv, .ref m19, vI rdu, .ref m21, .ref m22, vI se, vI its, .ref m25, .ref m26, vJ lt0]), (m0, aJ ca 7284 f), (m3, aI ca 5 w)] H) (hD : va_D A [(hm, oB 8 [.ref m0, vI un, .ref m2, .ref m3, vI mo, vI oft, vI la, vI du, .ref m8, .ref m9, vI to, .ref m11, .ref m12, vJ tr, .ref m14, vI n, vI at0, vI sa, vI vv, .ref m19, vI rdu, .ref m21, .ref m22, vI se, vI its, .ref m25, .ref m26, vJ lt0]), (m0, aJ ca 7284 f), (m3, aI ca 5 w)]) (hS : va_S A s.heap H locs) (ls : Array Slot) (hl : lv_has ls 9 [(8, vI i), (6, vJ x), (5, vI o), (3, vJ a), (2, vI z12), (0, .ref hm), (1, vI h0)]), W p l e R s m args below meth c H locs 0 0 Q (F0 m 50 ls []) := by
          intro N50; induction N50 with
          | zero => intro i x k hi2 hx1 hx2 hμ; exact absurd hμ (Nat.not_lt_zero _)
          | succ N50 ih50 =>
            intro i x k hi2 hx1 hx2 hμ H locs hP hD hS ls hl
            have J98 : ∀ (y : Int) (hy : y = (if o ≤ 3 ∧ 0 < w (o + 1) then dr f (h0 + 121 * o) (ef oft la o) 121 (nn + 1 - ef oft la o) else 0)) (H : Heap) (locs : List Loc) (hP : va_P g vwCl [(hm, oB 8 [.ref m0, vI un, .ref m2, .ref m3, vI mo, vI oft, vI la, vI du, .ref m8, .ref m9, vI to, .ref m11, .ref m12, vJ tr, .ref m14, vI n, vI at0, vI sa, vI vv, .ref m19, vI rdu, .ref m21, .ref m22, vI se, vI its, .ref m25, .ref m26, vJ lt0]), (m0, aJ ca 7284 f), (m3, aI ca 5 w)] H) (hD : va_D A [(hm, oB 8 [.ref m0, vI un, .ref m2, .ref m3, vI mo, vI oft, vI la, vI du, .ref m8, .ref m9, vI to, .ref m11, .ref m12, vJ tr, .ref m14, vI n, vI at0, vI sa, vI vv, .ref m19, vI rdu, .ref m21, .ref m22, vI se, vI its, .ref m25, .ref m26, vJ lt0]), (m0, aJ ca 7284 f), (m3, aI ca 5 w)]) (hS : va_S A s.heap H locs) (ls : Array Slot) (hl : lv_has ls 9 [(6, vJ y), (5, vI o), (3, vJ a), (2, vI z12), (0, .ref hm), (1, vI h0)]), W p l e R s m args below meth c H locs 0 0 Q (F0 m 98 ls []) := by
              intro y hy H locs hP hD hS ls hl
              have hko : (if o < 4 then o else 4).toNat = o.toNat := by split <;> omega
              rw [hko] at hf
              have hst := goStep hE hM hB hnn (by omega) (by omega) hf hy
              refine lv_lload hx hb dX8_goes_98 (lv_at hl 0 rfl) ?_
              refine lv_lconst (v := Int64.ofInt 0) hx hb dX8_goes_100 (by decide) ?_
              refine rj_cmp hx hb dX8_goes_101 ⟨by omega, by omega⟩ ⟨by omega, by omega⟩ (fun z101 e101 => ?_)
              refine ri_if_le (tgt := 132) hx hb dX8_goes_102 (by decide) ⟨by omega, by omega⟩ (fun c102 => ?_) (fun c102 => ?_)
              · skip
                have c102 : y ≤ 0 := by omega
                clear e101
                refine lv_lload_n hx hb dX8_goes_132 rfl (lv_at hl 2 rfl) ?_
                refine lv_lload hx hb dX8_goes_133 (lv_at hl 0 rfl) ?_
                refine rj_add hx hb dX8_goes_135 (fun z135 e135 => ?_)
                refine lv_lstore_n (lv' := [(3, vJ z135), (6, vJ y), (5, vI o), (2, vI z12), (0, .ref hm), (1, vI h0)]) hx hb dX8_goes_136 rfl hl (by decide) rfl (fun ls hl => ?_)
                obtain ⟨z137, e137⟩ : ∃ q : Int, q = o + 1 := ⟨_, rfl⟩
                refine ri_inc (lv' := [(5, vI z137), (3, vJ z135), (6, vJ y), (2, vI z12), (0, .ref hm), (1, vI h0)]) hx hb dX8_goes_137 hl (k := 2) rfl (by decide) z137 e137 rfl (fun ls hl => ?_)
                refine lv_goto (tgt := 31) hx hb dX8_goes_140 (by decide) ?_
                exact ih31 z137 z135 f (by first | assumption | omega) (by
                      rw [e137]
                      first
                      | exact hst.2.2.1 (by omega)
                      | (have h8 := (hst.2.1 (by omega)).2
                         rw [show (if o + 1 < 4 then o + 1 else 4).toNat = (o + 1).toNat by split <;> omega, e130, e129, show z119 = h0 + 121 * (o + 1) + (nn + 1) by omega]
                         exact h8)) (by first | exact hfr | exact FRM_zu hfr (by omega)) (by rw [e137, hst.2.2.2, e135, ha, hko]) (by omega) _ _ hP hD hS ls (lv_sub hl [0, 1, 3, 4, 5] rfl)
              · skip
                have c102 : 0 < y := by omega
                clear e101
                refine lv_aload_n hx hb dX8_goes_105 rfl (lv_at hl 4 rfl) ?_
                refine va_get (D := g) (ci := 8) (v := .ref m0) (C := RX8) (T := TX8) (N := 28) hx hb hts inF_X8 hown hK.1 hP 0 rfl rfl 0 (by decide) lk_f7 (fun _ h9 => h9) rfl dX8_goes_106 ?_
                refine lv_iload_n hx hb dX8_goes_109 rfl (lv_at hl 5 rfl) ?_
                refine lv_bipush (v := Int32.ofInt 121) hx hb dX8_goes_110 (by decide) ?_
                refine lv_iload hx hb dX8_goes_112 (lv_at hl 1 rfl) ?_
                refine lv_iconst (v := Int32.ofInt 1) hx hb dX8_goes_114 rfl ?_
                refine ri_add hx hb dX8_goes_115 (fun z115 e115 => ?_)
                refine ri_mul hx hb dX8_goes_116 (fun z116 e116 => ?_)
                refine ri_add hx hb dX8_goes_117 (fun z117 e117 => ?_)
                refine lv_iload_n hx hb dX8_goes_118 rfl (lv_at hl 3 rfl) ?_
                refine ri_add hx hb dX8_goes_119 (fun z119 e119 => ?_)
                refine lv_dup2_11 hx hb dX8_goes_120 rfl rfl ?_
                refine ra_lld hx hb hK hP 1 rfl dX8_goes_121 ⟨by omega, by omega⟩ (by omega) ?_
                refine lv_lload hx hb dX8_goes_122 (lv_at hl 0 rfl) ?_
                refine lv_aload_n hx hb dX8_goes_124 rfl (lv_at hl 4 rfl) ?_
                refine va_get (D := g) (ci := 8) (v := vI mo) (C := RX8) (T := TX8) (N := 28) hx hb hts inF_X8 hown hK.1 hP 0 rfl rfl 4 (by decide) lk_f67 (fun _ h9 => h9) rfl dX8_goes_125 ?_
                refine ri_l hx hb dX8_goes_128 ⟨by omega, by omega⟩ ?_
                refine rj_mul hx hb dX8_goes_129 (fun z129 e129 => ?_)
                refine rj_add hx hb dX8_goes_130 (fun z130 e130 => ?_)
                refine ra_lst hx hb hK hP hD hS 1 rfl dX8_goes_131 ⟨by omega, by omega⟩ (by omega) (fun H locs hP hD hS => ?_)
                have hP : va_P g vwCl [(hm, oB 8 [.ref m0, vI un, .ref m2, .ref m3, vI mo, vI oft, vI la, vI du, .ref m8, .ref m9, vI to, .ref m11, .ref m12, vJ tr, .ref m14, vI n, vI at0, vI sa, vI vv, .ref m19, vI rdu, .ref m21, .ref m22, vI se, vI its, .ref m25, .ref m26, vJ lt0]), (m0, aJ ca 7284 (zu f z119 z130)), (m3, aI ca 5 w)] H := hP
                have hD : va_D A [(hm, oB 8 [.ref m0, vI un, .ref m2, .ref m3, vI mo, vI oft, vI la, vI du, .ref m8, .ref m9, vI to, .ref m11, .ref m12, vJ tr, .ref m14, vI n, vI at0, vI sa, vI vv, .ref m19, vI rdu, .ref m21, .ref m22, vI se, vI its, .ref m25, .ref m26, vJ lt0]), (m0, aJ ca 7284 (zu f z119 z130)), (m3, aI ca 5 w)] := hD
                refine lv_lload_n hx hb dX8_goes_132 rfl (lv_at hl 2 rfl) ?_
                refine lv_lload hx hb dX8_goes_133 (lv_at hl 0 rfl) ?_
                refine rj_add hx hb dX8_goes_135 (fun z135 e135 => ?_)
                refine lv_lstore_n (lv' := [(3, vJ z135), (6, vJ y), (5, vI o), (2, vI z12), (0, .ref hm), (1, vI h0)]) hx hb dX8_goes_136 rfl hl (by decide) rfl (fun ls hl => ?_)
                obtain ⟨z137, e137⟩ : ∃ q : Int, q = o + 1 := ⟨_, rfl⟩
                refine ri_inc (lv' := [(5, vI z137), (3, vJ z135), (6, vJ y), (2, vI z12), (0, .ref hm), (1, vI h0)]) hx hb dX8_goes_137 hl (k := 2) rfl (by decide) z137 e137 rfl (fun ls hl => ?_)
                refine lv_goto (tgt := 31) hx hb dX8_goes_140 (by decide) ?_
                exact ih31 z137 z135 (zu f z119 z130) (by first | assumption | omega) (by
                      rw [e137]
                      first
                      | exact hst.2.2.1 (by omega)
                      | (have h8 := (hst.2.1 (by omega)).2
                         rw [show (if o + 1 < 4 then o + 1 else 4).toNat = (o + 1).toNat by split <;> omega, e130, e129, show z119 = h0 + 121 * (o + 1) + (nn + 1) by omega]
                         exact h8)) (by first | exact hfr | exact FRM_zu hfr (by omega)) (by rw [e137, hst.2.2.2, e135, ha, hko]) (by omega) _ _ hP hD hS ls (lv_sub hl [0, 1, 3, 4, 5] rfl)
            refine lv_iload hx hb dX8_goes_50 (lv_at hl 0 rfl) ?_
            refine ri_if_lt (tgt := 98) hx hb dX8_goes_52 (by decide) ⟨by omega, by omega⟩ (fun c52 => ?_) (fun c52 => ?_)
            · skip
              exact J98 x (by
                    first
                    | (by_cases hp : o ≤ 3 ∧ 0 < w (o + 1)
                       · rw [if_pos hp]
                         have h9 := hx1 hp
                         rw [dr_neg (by omega)] at h9
                         omega
                       · rw [if_neg hp]; exact hx2 hp)) _ _ hP hD hS ls (lv_sub hl [1, 2, 3, 4, 5, 6] rfl)
            · skip
              obtain ⟨k1, rfl⟩ : ∃ q, k = q + 1 := ⟨k - 1, by omega⟩
              refine lv_aload_n hx hb dX8_goes_55 rfl (lv_at hl 5 rfl) ?_
              refine lv_iload hx hb dX8_goes_56 (lv_at hl 2 rfl) ?_
              refine zc_VI (As := [vI o]) (rest := []) (wc := [(hm, oB 8 [.ref m0, vI un, .ref m2, .ref m3, vI mo, vI oft, vI la, vI du, .ref m8, .ref m9, vI to, .ref m11, .ref m12, vJ tr, .ref m14, vI n, vI at0, vI sa, vI vv, .ref m19, vI rdu, .ref m21, .ref m22, vI se, vI its, .ref m25, .ref m26, vJ lt0]), (m3, aI ca 5 w)]) (wr := [(m0, aJ ca 7284 f)]) (k_X8_dripsOf l g ca hm m0 m2 m3 m8 m9 m11 m12 m14 m19 m21 m22 m25 m26 un mo oft la du to tr n at0 sa vv rdu se its lt0 w o (by first | assumption | omega) (by first | assumption | omega)) dX8_goes_58 (cwV 1 hts gX8_goes_X8_dripsOf rfl rfl rfl (by decide +kernel) (by rw [hR]; exact ⟨Nat.le_of_ble_eq_true rfl, Nat.le_of_ble_eq_true rfl⟩)) ⟨hx, hb, hml, hown, hts⟩ hl.1 hK hP hD hS hA 0 rfl rfl rfl [0, 2] [1] rfl (by decide) rfl (by decide) (by decide) rfl rfl (Nat.le_of_ble_eq_true rfl) (by rw [hR]; exact ⟨Nat.le_of_ble_eq_true rfl, Nat.le_of_ble_eq_true rfl⟩) (fun z58 u H locs q58 hP hD hS => ?_)
              have q58 : (z58 = 1 ∧ o ≤ 3 ∧ 0 < w (o + 1)) ∨ (z58 = 0 ∧ ¬ (o ≤ 3 ∧ 0 < w (o + 1))) := q58
              have hP : va_P g vwCl [(hm, oB 8 [.ref m0, vI un, .ref m2, .ref m3, vI mo, vI oft, vI la, vI du, .ref m8, .ref m9, vI to, .ref m11, .ref m12, vJ tr, .ref m14, vI n, vI at0, vI sa, vI vv, .ref m19, vI rdu, .ref m21, .ref m22, vI se, vI its, .ref m25, .ref m26, vJ lt0]), (m0, aJ ca 7284 f), (m3, aI ca 5 w)] H := hP.sub [1, 0, 2] rfl
              have hD : va_D A [(hm, oB 8 [.ref m0, vI un, .ref m2, .ref m3, vI mo, vI oft, vI la, vI du, .ref m8, .ref m9, vI to, .ref m11, .ref m12, vJ tr, .ref m14, vI n, vI at0, vI sa, vI vv, .ref m19, vI rdu, .ref m21, .ref m22, vI se, vI its, .ref m25, .ref m26, vJ lt0]), (m0, aJ ca 7284 f), (m3, aI ca 5 w)] := hD.sub [1, 0, 2] (by decide) rfl
              refine ri_if_eq (tgt := 98) hx hb dX8_goes_61 (by decide) ⟨by omega, by omega⟩ (fun c61 => ?_) (fun c61 => ?_)
              · skip
                exact J98 x (by
                      first
                      | (by_cases hp : o ≤ 3 ∧ 0 < w (o + 1)
                         · rw [if_pos hp]
                           have h9 := hx1 hp
                           rw [dr_neg (by omega)] at h9
                           omega
                         · rw [if_neg hp]; exact hx2 hp)) _ _ hP hD hS ls (lv_sub hl [1, 2, 3, 4, 5, 6] rfl)
              · skip
                refine lv_lload hx hb dX8_goes_64 (lv_at hl 1 rfl) ?_
                refine lv_aload_n hx hb dX8_goes_66 rfl (lv_at hl 5 rfl) ?_
                refine va_get (D := g) (ci := 8) (v := .ref m0) (C := RX8) (T := TX8) (N := 28) hx hb hts inF_X8 hown hK.1 hP 0 rfl rfl 0 (by decide) lk_f7 (fun _ h9 => h9) rfl dX8_goes_67 ?_
                refine lv_iload_n hx hb dX8_goes_70 rfl (lv_at hl 6 rfl) ?_
                refine lv_bipush (v := Int32.ofInt 121) hx hb dX8_goes_71 (by decide) ?_
                refine lv_iload hx hb dX8_goes_73 (lv_at hl 2 rfl) ?_
                refine ri_mul hx hb dX8_goes_75 (fun z75 e75 => ?_)
                refine ri_add hx hb dX8_goes_76 (fun z76 e76 => ?_)
                refine lv_iload hx hb dX8_goes_77 (lv_at hl 0 rfl) ?_
                refine ri_add hx hb dX8_goes_79 (fun z79 e79 => ?_)
                refine ra_lld hx hb hK hP 1 rfl dX8_goes_80 ⟨by omega, by omega⟩ (by omega) ?_
                refine rj_add hx hb dX8_goes_81 (fun z81 e81 => ?_)
                refine lv_lstore (lv' := [(6, vJ z81), (8, vI i), (5, vI o), (3, vJ a), (2, vI z12), (0, .ref hm), (1, vI h0)]) hx hb dX8_goes_82 hl (by decide) rfl (fun ls hl => ?_)
                refine lv_iload hx hb dX8_goes_84 (lv_at hl 1 rfl) ?_
                refine lv_aload_n hx hb dX8_goes_86 rfl (lv_at hl 5 rfl) ?_
                refine lv_iload hx hb dX8_goes_87 (lv_at hl 2 rfl) ?_
                refine zc_VI (As := [vI o]) (rest := [vI i]) (wc := [(hm, oB 8 [.ref m0, vI un, .ref m2, .ref m3, vI mo, vI oft, vI la, vI du, .ref m8, .ref m9, vI to, .ref m11, .ref m12, vJ tr, .ref m14, vI n, vI at0, vI sa, vI vv, .ref m19, vI rdu, .ref m21, .ref m22, vI se, vI its, .ref m25, .ref m26, vJ lt0])]) (wr := [(m0, aJ ca 7284 f), (m3, aI ca 5 w)]) (k_X8_eachOf l g ca hm m0 m2 m3 m8 m9 m11 m12 m14 m19 m21 m22 m25 m26 un mo oft la du to tr n at0 sa vv rdu se its lt0 o ) dX8_goes_89 (cwV 1 hts gX8_goes_X8_eachOf rfl rfl rfl (by decide +kernel) (by rw [hR]; exact ⟨Nat.le_of_ble_eq_true rfl, Nat.le_of_ble_eq_true rfl⟩)) ⟨hx, hb, hml, hown, hts⟩ hl.1 hK hP hD hS hA 0 rfl rfl rfl [0] [1, 2] rfl (by decide) rfl (by decide) (by decide) rfl rfl (Nat.le_of_ble_eq_true rfl) (by rw [hR]; exact ⟨Nat.le_of_ble_eq_true rfl, Nat.le_of_ble_eq_true rfl⟩) (fun z89 u H locs q89 hP hD hS => ?_)
                have q89 : z89 = ef oft la o := q89
                have hP : va_P g vwCl [(hm, oB 8 [.ref m0, vI un, .ref m2, .ref m3, vI mo, vI oft, vI la, vI du, .ref m8, .ref m9, vI to, .ref m11, .ref m12, vJ tr, .ref m14, vI n, vI at0, vI sa, vI vv, .ref m19, vI rdu, .ref m21, .ref m22, vI se, vI its, .ref m25, .ref m26, vJ lt0]), (m0, aJ ca 7284 f), (m3, aI ca 5 w)] H := hP.sub [2, 0, 1] rfl
                have hD : va_D A [(hm, oB 8 [.ref m0, vI un, .ref m2, .ref m3, vI mo, vI oft, vI la, vI du, .ref m8, .ref m9, vI to, .ref m11, .ref m12, vJ tr, .ref m14, vI n, vI at0, vI sa, vI vv, .ref m19, vI rdu, .ref m21, .ref m22, vI se, vI its, .ref m25, .ref m26, vJ lt0]), (m0, aJ ca 7284 f), (m3, aI ca 5 w)] := hD.sub [2, 0, 1] (by decide) rfl
                refine ri_sub hx hb dX8_goes_92 (fun z92 e92 => ?_)
                refine lv_istore (lv' := [(8, vI z92), (6, vJ z81), (5, vI o), (3, vJ a), (2, vI z12), (0, .ref hm), (1, vI h0)]) hx hb dX8_goes_93 hl (by decide) rfl (fun ls hl => ?_)
                refine lv_goto (tgt := 50) hx hb dX8_goes_95 (by decide) ?_
                exact ih50 z92 z81 k1 (by first | assumption | omega) (by
                      intro hp
                      have h9 := hx1 hp
                      rw [dr_s (by omega)] at h9
                      rw [← h9, e81, e92, q89, show z79 = h0 + 121 * o + i by omega]; omega) (by intro hp; omega) (by omega) _ _ hP hD hS ls (lv_sub hl [0, 1, 2, 3, 4, 5, 6] rfl)
        exact L50 _ z47 0 121 (by first | assumption | omega) (by intro _; rw [e47, q44, e12, hd10]; omega) (by first | assumption | omega) (Nat.lt_succ_self _) _ _ hP hD hS ls (lv_sub hl [0, 1, 2, 3, 4, 5, 6] rfl)
  exact L31 _ 0 0 (zu d z22 z12) (by first | assumption | omega) (by exact ⟨fun k h1 h2 => by rw [zu_n (by omega)]; exact hAT.1 k h1 h2, by rw [zu_n (by omega)]; exact hAT.2.1, by rw [show h0 + 606 = z22 by omega, zu_s]; omega⟩) (by exact FRM_zu FRM_rf (by omega)) (by rfl) (Nat.lt_succ_self _) _ _ hP hD hS ls (lv_sub hl [0, 1, 2, 3, 4] rfl)
set_option maxHeartbeats 4000000 in
set_option maxRecDepth 100000 in
theorem k_X8_goesTill (l : Launch) (g : va_G) (ca : Nat → ClassId) (hm : Nat) (m0 : Nat) (m2 : Nat) (m3 : Nat) (m8 : Nat) (m9 : Nat) (m11 : Nat) (m12 : Nat) (m14 : Nat) (m19 : Nat) (m21 : Nat) (m22 : Nat) (m25 : Nat) (m26 : Nat) (un : Int) (mo : Int) (oft : Int) (la : Int) (du : Int) (to : Int) (tr : Int) (n : Int) (at0 : Int) (sa : Int) (vv : Int) (rdu : Int) (se : Int) (its : Int) (lt0 : Int) (d : Int → Int) (w : Int → Int) (h0 : Int) (t0 : Int) (b : Int → Int) (nn : Int) (ml : Int) (hh0 : 0 ≤ h0 ∧ h0 ≤ 6677) (hAT : AT d h0 b nn ml) (hB : GB b nn) (ht0 : nn ≤ t0 ∧ t0 ≤ 120) (hW : GW w) (hE : EAok (ef oft la)) (hM : 1 ≤ mo ∧ mo ≤ 9) : zV (S := (Int → Int)) l yX8_goesTill wsX8_goesTill ({ frames := 2, cells := 0, slots := 0, locals := 49 } : Room) g ca [.ref hm, vI h0, vI t0] [(hm, oB 8 [.ref m0, vI un, .ref m2, .ref m3, vI mo, vI oft, vI la, vI du, .ref m8, .ref m9, vI to, .ref m11, .ref m12, vJ tr, .ref m14, vI n, vI at0, vI sa, vI vv, .ref m19, vI rdu, .ref m21, .ref m22, vI se, vI its, .ref m25, .ref m26, vJ lt0]), (m0, aJ ca 7284 d), (m3, aI ca 5 w)] (fun (u : (Int → Int)) => AT u h0 (gt w (ef oft la) mo nn b (t0 - nn).toNat) t0 ml ∧ FRM d u h0) (fun (u : (Int → Int)) => [(hm, oB 8 [.ref m0, vI un, .ref m2, .ref m3, vI mo, vI oft, vI la, vI du, .ref m8, .ref m9, vI to, .ref m11, .ref m12, vJ tr, .ref m14, vI n, vI at0, vI sa, vI vv, .ref m19, vI rdu, .ref m21, .ref m22, vI se, vI its, .ref m25, .ref m26, vJ lt0]), (m0, aJ ca 7284 u), (m3, aI ca 5 w)]) 0 0 := by
  refine zm_V (cc := cX8_goesTill) (maxL := 3) (ret := none) (by decide) rfl (Nat.le_of_ble_eq_true rfl) ?_
  intro p e s m below meth c A ls R args Q hR hargs hQ hx hb hml hr hts hown hlk hnm hK hP hD hA hS hl
  have hown : s.vm.findClass RX8 = some m.cls := hown
  have hl : lv_has ls 3 [(0, .ref hm), (1, vI h0), (2, vI t0)] := hl
  have lk_f7 : (Cond.fieldLink RX8 7 "DripRingsModel" "d" "[J").before args s = true := hts _ (by decide +kernel)
  have inF_X8 : ∀ w ∈ wsX80, w ∈ wsX8_goesTill := by decide +kernel
  have hn0 := hB.1
  have L0 : ∀ (N0 : Nat) (i : Int) (f : Int → Int) (hi : nn ≤ i ∧ i ≤ t0) (hf : AT f h0 (gt w (ef oft la) mo nn b (i - nn).toNat) i ml) (hfr : FRM d f h0) (hμ : (t0 - i).toNat < N0) (H : Heap) (locs : List Loc) (hP : va_P g vwCl [(hm, oB 8 [.ref m0, vI un, .ref m2, .ref m3, vI mo, vI oft, vI la, vI du, .ref m8, .ref m9, vI to, .ref m11, .ref m12, vJ tr, .ref m14, vI n, vI at0, vI sa, vI vv, .ref m19, vI rdu, .ref m21, .ref m22, vI se, vI its, .ref m25, .ref m26, vJ lt0]), (m0, aJ ca 7284 f), (m3, aI ca 5 w)] H) (hD : va_D A [(hm, oB 8 [.ref m0, vI un, .ref m2, .ref m3, vI mo, vI oft, vI la, vI du, .ref m8, .ref m9, vI to, .ref m11, .ref m12, vJ tr, .ref m14, vI n, vI at0, vI sa, vI vv, .ref m19, vI rdu, .ref m21, .ref m22, vI se, vI its, .ref m25, .ref m26, vJ lt0]), (m0, aJ ca 7284 f), (m3, aI ca 5 w)]) (hS : va_S A s.heap H locs) (ls : Array Slot) (hl : lv_has ls 3 [(0, .ref hm), (1, vI h0), (2, vI t0)]), W p l e R s m args below meth c H locs 0 0 Q (F0 m 0 ls []) := by
    intro N0; induction N0 with
    | zero => intro i f hi hf hfr hμ; exact absurd hμ (Nat.not_lt_zero _)
    | succ N0 ih0 =>
      intro i f hi hf hfr hμ H locs hP hD hS ls hl
      refine lv_aload_n hx hb dX8_goesTill_0 rfl (lv_at hl 0 rfl) ?_
      refine va_get (D := g) (ci := 8) (v := .ref m0) (C := RX8) (T := TX8) (N := 28) hx hb hts inF_X8 hown hK.1 hP 0 rfl rfl 0 (by decide) lk_f7 (fun _ h9 => h9) rfl dX8_goesTill_1 ?_
      refine lv_iload_n hx hb dX8_goesTill_4 rfl (lv_at hl 1 rfl) ?_
      refine lv_sipush (v := Int32.ofInt 606) hx hb dX8_goesTill_5 (by decide) ?_
      refine ri_add hx hb dX8_goesTill_8 (fun z8 e8 => ?_)
      have hd9 : f z8 = i := by rw [show z8 = h0 + 606 by omega]; exact hf.2.2
      refine ra_lld hx hb hK hP 1 rfl dX8_goesTill_9 ⟨by omega, by omega⟩ (by omega) ?_
      refine lv_iload_n hx hb dX8_goesTill_10 rfl (lv_at hl 2 rfl) ?_
      refine ri_l hx hb dX8_goesTill_11 ⟨by omega, by omega⟩ ?_
      refine rj_cmp hx hb dX8_goesTill_12 ⟨by omega, by omega⟩ ⟨by omega, by omega⟩ (fun z12 e12 => ?_)
      refine ri_if_ge (tgt := 25) hx hb dX8_goesTill_13 (by decide) ⟨by omega, by omega⟩ (fun c13 => ?_) (fun c13 => ?_)
      · skip
        have c13 : t0 ≤ (f z8) := by omega
        clear e12
        refine zr_V hx hb hr hlk hQ (f) hP hD hS dX8_goesTill_25 (Nat.le_of_ble_eq_true rfl) (Nat.le_of_ble_eq_true rfl) ?_
        show AT f h0 (gt w (ef oft la) mo nn b (t0 - nn).toNat) t0 ml ∧ FRM d f h0
        have hit : i = t0 := by omega
        subst hit
        exact ⟨hf, hfr⟩
      · skip
        have c13 : (f z8) < t0 := by omega
        clear e12
        refine lv_aload_n hx hb dX8_goesTill_16 rfl (lv_at hl 0 rfl) ?_
        refine lv_iload_n hx hb dX8_goesTill_17 rfl (lv_at hl 1 rfl) ?_
        refine zc_VJ (As := [vI h0]) (rest := []) (wc := [(hm, oB 8 [.ref m0, vI un, .ref m2, .ref m3, vI mo, vI oft, vI la, vI du, .ref m8, .ref m9, vI to, .ref m11, .ref m12, vJ tr, .ref m14, vI n, vI at0, vI sa, vI vv, .ref m19, vI rdu, .ref m21, .ref m22, vI se, vI its, .ref m25, .ref m26, vJ lt0]), (m0, aJ ca 7284 f), (m3, aI ca 5 w)]) (wr := []) (k_X8_goes l g ca hm m0 m2 m3 m8 m9 m11 m12 m14 m19 m21 m22 m25 m26 un mo oft la du to tr n at0 sa vv rdu se its lt0 f w h0 (gt w (ef oft la) mo nn b (i - nn).toNat) i ml (by first | assumption | omega) (by exact hf) (by
              have h9 := GB_gt (w := w) hE hM hB (i - nn).toNat (by omega)
              rw [show nn + ((i - nn).toNat : Int) = i by omega] at h9
              exact h9) (by omega) (by first | assumption | omega) (by first | assumption | omega) (by first | assumption | omega)) dX8_goesTill_18 (cwV 1 hts gX8_goesTill_X8_goes rfl rfl rfl (by decide +kernel) (by rw [hR]; exact ⟨Nat.le_of_ble_eq_true rfl, Nat.le_of_ble_eq_true rfl⟩)) ⟨hx, hb, hml, hown, hts⟩ hl.1 hK hP hD hS hA 0 rfl rfl rfl [0, 1, 2] [] rfl (by decide) rfl (by decide) (by decide) rfl rfl (Nat.le_of_ble_eq_true rfl) (by rw [hR]; exact ⟨Nat.le_of_ble_eq_true rfl, Nat.le_of_ble_eq_true rfl⟩) (fun z18 u H locs q18 hP hD hS => ?_)
        obtain ⟨d1_18, rfl⟩ : ∃ q, q = u := ⟨_, rfl⟩
        have q18 : AT d1_18 h0 (gs w (ef oft la) mo (i + 1) (gt w (ef oft la) mo nn b (i - nn).toNat) 4).1 (i + 1) ml ∧ FRM f d1_18 h0 ∧ z18 = (gs w (ef oft la) mo (i + 1) (gt w (ef oft la) mo nn b (i - nn).toNat) 4).2 := q18
        obtain ⟨q18_0, q18_1, q18_2⟩ := q18
        have hP : va_P g vwCl [(hm, oB 8 [.ref m0, vI un, .ref m2, .ref m3, vI mo, vI oft, vI la, vI du, .ref m8, .ref m9, vI to, .ref m11, .ref m12, vJ tr, .ref m14, vI n, vI at0, vI sa, vI vv, .ref m19, vI rdu, .ref m21, .ref m22, vI se, vI its, .ref m25, .ref m26, vJ lt0]), (m0, aJ ca 7284 d1_18), (m3, aI ca 5 w)] H := hP.sub [0, 1, 2] rfl
        have hD : va_D A [(hm, oB 8 [.ref m0, vI un, .ref m2, .ref m3, vI mo, vI oft, vI la, vI du, .ref m8, .ref m9, vI to, .ref m11, .ref m12, vJ tr, .ref m14, vI n, vI at0, vI sa, vI vv, .ref m19, vI rdu, .ref m21, .ref m22, vI se, vI its, .ref m25, .ref m26, vJ lt0]), (m0, aJ ca 7284 d1_18), (m3, aI ca 5 w)] := hD.sub [0, 1, 2] (by decide) rfl
        refine lv_pop2_2 hx hb dX8_goesTill_21 rfl ?_
        refine lv_goto (tgt := 0) hx hb dX8_goesTill_22 (by decide) ?_
        exact ih0 (i + 1) d1_18 (by first | assumption | omega) (by rw [show i + 1 - nn = (i - nn) + 1 by omega, gt_s _ _ _ _ _ (by omega), show nn + (i - nn) + 1 = i + 1 by omega]; exact q18_0) (by exact FRM_tr hfr q18_1) (by omega) _ _ hP hD hS ls (lv_sub hl [0, 1, 2] rfl)
  exact L0 _ nn d (by first | assumption | omega) (by rw [show nn - nn = 0 by omega]; exact hAT) (by exact FRM_rf) (Nat.lt_succ_self _) _ _ hP hD hS ls (lv_sub hl [0, 1, 2] rfl)
set_option maxHeartbeats 4000000 in
set_option maxRecDepth 100000 in
theorem k_X8_minds (l : Launch) (g : va_G) (ca : Nat → ClassId) (hm : Nat) (m0 : Nat) (m2 : Nat) (m3 : Nat) (m8 : Nat) (m9 : Nat) (m11 : Nat) (m12 : Nat) (m14 : Nat) (m19 : Nat) (m21 : Nat) (m22 : Nat) (m25 : Nat) (m26 : Nat) (un : Int) (mo : Int) (oft : Int) (la : Int) (du : Int) (to : Int) (tr : Int) (n : Int) (at0 : Int) (sa : Int) (vv : Int) (rdu : Int) (se : Int) (its : Int) (lt0 : Int) (d : Int → Int) (hun : 0 ≤ un ∧ un ≤ 8) : zV (S := Int × (Int → Int)) l yX8_minds wsX8_minds ({ frames := 1, cells := 0, slots := 0, locals := 23 } : Room) g ca [.ref hm] [(hm, oB 8 [.ref m0, vI un, .ref m2, .ref m3, vI mo, vI oft, vI la, vI du, .ref m8, .ref m9, vI to, .ref m11, .ref m12, vJ tr, .ref m14, vI n, vI at0, vI sa, vI vv, .ref m19, vI rdu, .ref m21, .ref m22, vI se, vI its, .ref m25, .ref m26, vJ lt0]), (m0, aJ ca 7284 d)] (fun (u : Int × (Int → Int)) => MN un u.1 d u.2) (fun (u : Int × (Int → Int)) => [(hm, oB 8 [.ref m0, vI u.1, .ref m2, .ref m3, vI mo, vI oft, vI la, vI du, .ref m8, .ref m9, vI to, .ref m11, .ref m12, vJ tr, .ref m14, vI n, vI at0, vI sa, vI vv, .ref m19, vI rdu, .ref m21, .ref m22, vI se, vI its, .ref m25, .ref m26, vJ lt0]), (m0, aJ ca 7284 u.2)]) 0 0 := by
  refine zm_V (cc := cX8_minds) (maxL := 2) (ret := none) (by decide) rfl (Nat.le_of_ble_eq_true rfl) ?_
  intro p e s m below meth c A ls R args Q hR hargs hQ hx hb hml hr hts hown hlk hnm hK hP hD hA hS hl
  have hown : s.vm.findClass RX8 = some m.cls := hown
  have hl : lv_has ls 2 [(0, .ref hm)] := hl
  have lk_f82 : (Cond.fieldLink RX8 82 "DripRingsModel" "undoes" "I").before args s = true := hts _ (by decide +kernel)
  have inF_X8 : ∀ w ∈ wsX80, w ∈ wsX8_minds := by decide +kernel
  have lk_f7 : (Cond.fieldLink RX8 7 "DripRingsModel" "d" "[J").before args s = true := hts _ (by decide +kernel)
  refine lv_aload_n hx hb dX8_minds_0 rfl (lv_at hl 0 rfl) ?_
  refine va_get (D := g) (ci := 8) (v := vI un) (C := RX8) (T := TX8) (N := 28) hx hb hts inF_X8 hown hK.1 hP 0 rfl rfl 1 (by decide) lk_f82 (fun _ h9 => h9) rfl dX8_minds_1 ?_
  refine lv_bipush (v := Int32.ofInt 8) hx hb dX8_minds_4 (by decide) ?_
  refine ri_icmp_ne (tgt := 58) hx hb dX8_minds_6 (by decide) ⟨by omega, by omega⟩ ⟨by omega, by omega⟩ (fun c6 => ?_) (fun c6 => ?_)
  · skip
    refine lv_aload_n hx hb dX8_minds_58 rfl (lv_at hl 0 rfl) ?_
    refine lv_iconst (v := Int32.ofInt 0) hx hb dX8_minds_59 rfl ?_
    refine lv_sipush (v := Int32.ofInt 2428) hx hb dX8_minds_60 (by decide) ?_
    refine lv_sipush (v := Int32.ofInt 607) hx hb dX8_minds_63 (by decide) ?_
    refine lv_aload_n hx hb dX8_minds_66 rfl (lv_at hl 0 rfl) ?_
    refine va_get (D := g) (ci := 8) (v := vI un) (C := RX8) (T := TX8) (N := 28) hx hb hts inF_X8 hown hK.1 hP 0 rfl rfl 1 (by decide) lk_f82 (fun _ h9 => h9) rfl dX8_minds_67 ?_
    refine ri_mul hx hb dX8_minds_70 (fun z70 e70 => ?_)
    refine ri_add hx hb dX8_minds_71 (fun z71 e71 => ?_)
    refine zc_VV (As := [vI 0, vI z71]) (rest := []) (wc := [(hm, oB 8 [.ref m0, vI un, .ref m2, .ref m3, vI mo, vI oft, vI la, vI du, .ref m8, .ref m9, vI to, .ref m11, .ref m12, vJ tr, .ref m14, vI n, vI at0, vI sa, vI vv, .ref m19, vI rdu, .ref m21, .ref m22, vI se, vI its, .ref m25, .ref m26, vJ lt0]), (m0, aJ ca 7284 d)]) (wr := []) (k_X8_copy l g ca hm m0 m2 m3 m8 m9 m11 m12 m14 m19 m21 m22 m25 m26 un mo oft la du to tr n at0 sa vv rdu se its lt0 d 0 z71 (by first | assumption | omega)) dX8_minds_72 (cwV 2 hts gX8_minds_X8_copy rfl rfl rfl (by decide +kernel) (by rw [hR]; exact ⟨Nat.le_of_ble_eq_true rfl, Nat.le_of_ble_eq_true rfl⟩)) ⟨hx, hb, hml, hown, hts⟩ hl.1 hK hP hD hS hA 0 rfl rfl rfl [0, 1] [] rfl (by decide) rfl (by decide) (by decide) rfl rfl (Nat.le_of_ble_eq_true rfl) (by rw [hR]; exact ⟨Nat.le_of_ble_eq_true rfl, Nat.le_of_ble_eq_true rfl⟩) (fun u H locs q72 hP hD hS => ?_)
    obtain ⟨d1_72, rfl⟩ : ∃ q, q = u := ⟨_, rfl⟩
    have q72 : (∀ j : Int, d1_72 j = if z71 ≤ j ∧ j < z71 + 607 then d (0 + (j - z71)) else d j) := q72
    have hP : va_P g vwCl [(hm, oB 8 [.ref m0, vI un, .ref m2, .ref m3, vI mo, vI oft, vI la, vI du, .ref m8, .ref m9, vI to, .ref m11, .ref m12, vJ tr, .ref m14, vI n, vI at0, vI sa, vI vv, .ref m19, vI rdu, .ref m21, .ref m22, vI se, vI its, .ref m25, .ref m26, vJ lt0]), (m0, aJ ca 7284 d1_72)] H := hP.sub [0, 1] rfl
    have hD : va_D A [(hm, oB 8 [.ref m0, vI un, .ref m2, .ref m3, vI mo, vI oft, vI la, vI du, .ref m8, .ref m9, vI to, .ref m11, .ref m12, vJ tr, .ref m14, vI n, vI at0, vI sa, vI vv, .ref m19, vI rdu, .ref m21, .ref m22, vI se, vI its, .ref m25, .ref m26, vJ lt0]), (m0, aJ ca 7284 d1_72)] := hD.sub [0, 1] (by decide) rfl
    refine lv_aload_n hx hb dX8_minds_75 rfl (lv_at hl 0 rfl) ?_
    refine lv_dup hx hb dX8_minds_76 rfl ?_
    refine va_get (D := g) (ci := 8) (v := vI un) (C := RX8) (T := TX8) (N := 28) hx hb hts inF_X8 hown hK.1 hP 0 rfl rfl 1 (by decide) lk_f82 (fun _ h9 => h9) rfl dX8_minds_77 ?_
    refine lv_iconst (v := Int32.ofInt 1) hx hb dX8_minds_80 rfl ?_
    refine ri_add hx hb dX8_minds_81 (fun z81 e81 => ?_)
    refine va_put (D := g) (ci := 8) (v := vI z81) (ty := .int) (C := RX8) (T := TX8) (N := 28) hx hb hts inF_X8 tyX8 tyX8_ok nmX8 hown hK.1 hP hD hS 0 rfl rfl 1 (by decide) lk_f82 (fun _ h9 => h9) rfl (by decide +kernel) rfl rfl (Nat.le_of_ble_eq_true rfl) dX8_minds_82 (fun H locs hP hD hS => ?_)
    have hP : va_P g vwCl [(hm, oB 8 [.ref m0, vI z81, .ref m2, .ref m3, vI mo, vI oft, vI la, vI du, .ref m8, .ref m9, vI to, .ref m11, .ref m12, vJ tr, .ref m14, vI n, vI at0, vI sa, vI vv, .ref m19, vI rdu, .ref m21, .ref m22, vI se, vI its, .ref m25, .ref m26, vJ lt0]), (m0, aJ ca 7284 d1_72)] H := hP
    have hD : va_D A [(hm, oB 8 [.ref m0, vI z81, .ref m2, .ref m3, vI mo, vI oft, vI la, vI du, .ref m8, .ref m9, vI to, .ref m11, .ref m12, vJ tr, .ref m14, vI n, vI at0, vI sa, vI vv, .ref m19, vI rdu, .ref m21, .ref m22, vI se, vI its, .ref m25, .ref m26, vJ lt0]), (m0, aJ ca 7284 d1_72)] := hD
    refine zr_V hx hb hr hlk hQ (z81, d1_72) hP hD hS dX8_minds_85 (Nat.le_of_ble_eq_true rfl) (Nat.le_of_ble_eq_true rfl) ?_
    show MN un z81 d d1_72
    unfold MN
    first
    | (refine Or.inl ⟨by omega, by omega, fun j => ?_⟩
       rw [q72]
       split
       · rw [if_pos (by omega)]; congr 1; omega
       · rw [if_neg (by omega)])
    | (refine Or.inr ⟨by omega, by omega, fun j => ?_⟩
       rw [q72]
       split
       · rw [if_neg (by omega), if_pos (by omega), hf, if_neg (by omega)]; congr 1; omega
       · rw [hf]
         split
         · rw [if_pos (by omega)]
         · rw [if_neg (by omega), if_neg (by omega)])
  · skip
    refine lv_iconst (v := Int32.ofInt 0) hx hb dX8_minds_9 rfl ?_
    refine lv_istore_n (lv' := [(1, vI 0), (0, .ref hm)]) hx hb dX8_minds_10 rfl hl (by decide) rfl (fun ls hl => ?_)
    have L11 : ∀ (N11 : Nat) (i : Int) (f : Int → Int) (hi : 0 ≤ i ∧ i ≤ 4249) (hf : ∀ j : Int, f j = if 2428 ≤ j ∧ j < 2428 + i then d (j + 607) else d j) (hμ : (4249 - i).toNat < N11) (H : Heap) (locs : List Loc) (hP : va_P g vwCl [(hm, oB 8 [.ref m0, vI un, .ref m2, .ref m3, vI mo, vI oft, vI la, vI du, .ref m8, .ref m9, vI to, .ref m11, .ref m12, vJ tr, .ref m14, vI n, vI at0, vI sa, vI vv, .ref m19, vI rdu, .ref m21, .ref m22, vI se, vI its, .ref m25, .ref m26, vJ lt0]), (m0, aJ ca 7284 f)] H) (hD : va_D A [(hm, oB 8 [.ref m0, vI un, .ref m2, .ref m3, vI mo, vI oft, vI la, vI du, .ref m8, .ref m9, vI to, .ref m11, .ref m12, vJ tr, .ref m14, vI n, vI at0, vI sa, vI vv, .ref m19, vI rdu, .ref m21, .ref m22, vI se, vI its, .ref m25, .ref m26, vJ lt0]), (m0, aJ ca 7284 f)]) (hS : va_S A s.heap H locs) (ls : Array Slot) (hl : lv_has ls 2 [(1, vI i), (0, .ref hm)]), W p l e R s m args below meth c H locs 0 0 Q (F0 m 11 ls []) := by
      intro N11; induction N11 with
      | zero => intro i f hi hf hμ; exact absurd hμ (Nat.not_lt_zero _)
      | succ N11 ih11 =>
        intro i f hi hf hμ H locs hP hD hS ls hl
        refine lv_iload_n hx hb dX8_minds_11 rfl (lv_at hl 0 rfl) ?_
        refine lv_sipush (v := Int32.ofInt 4249) hx hb dX8_minds_12 (by decide) ?_
        refine ri_icmp_ge (tgt := 48) hx hb dX8_minds_15 (by decide) ⟨by omega, by omega⟩ ⟨by omega, by omega⟩ (fun c15 => ?_) (fun c15 => ?_)
        · skip
          refine lv_aload_n hx hb dX8_minds_48 rfl (lv_at hl 1 rfl) ?_
          refine lv_dup hx hb dX8_minds_49 rfl ?_
          refine va_get (D := g) (ci := 8) (v := vI un) (C := RX8) (T := TX8) (N := 28) hx hb hts inF_X8 hown hK.1 hP 0 rfl rfl 1 (by decide) lk_f82 (fun _ h9 => h9) rfl dX8_minds_50 ?_
          refine lv_iconst (v := Int32.ofInt 1) hx hb dX8_minds_53 rfl ?_
          refine ri_sub hx hb dX8_minds_54 (fun z54 e54 => ?_)
          refine va_put (D := g) (ci := 8) (v := vI z54) (ty := .int) (C := RX8) (T := TX8) (N := 28) hx hb hts inF_X8 tyX8 tyX8_ok nmX8 hown hK.1 hP hD hS 0 rfl rfl 1 (by decide) lk_f82 (fun _ h9 => h9) rfl (by decide +kernel) rfl rfl (Nat.le_of_ble_eq_true rfl) dX8_minds_55 (fun H locs hP hD hS => ?_)
          have hP : va_P g vwCl [(hm, oB 8 [.ref m0, vI z54, .ref m2, .ref m3, vI mo, vI oft, vI la, vI du, .ref m8, .ref m9, vI to, .ref m11, .ref m12, vJ tr, .ref m14, vI n, vI at0, vI sa, vI vv, .ref m19, vI rdu, .ref m21, .ref m22, vI se, vI its, .ref m25, .ref m26, vJ lt0]), (m0, aJ ca 7284 f)] H := hP
          have hD : va_D A [(hm, oB 8 [.ref m0, vI z54, .ref m2, .ref m3, vI mo, vI oft, vI la, vI du, .ref m8, .ref m9, vI to, .ref m11, .ref m12, vJ tr, .ref m14, vI n, vI at0, vI sa, vI vv, .ref m19, vI rdu, .ref m21, .ref m22, vI se, vI its, .ref m25, .ref m26, vJ lt0]), (m0, aJ ca 7284 f)] := hD
          refine lv_aload_n hx hb dX8_minds_58 rfl (lv_at hl 1 rfl) ?_
          refine lv_iconst (v := Int32.ofInt 0) hx hb dX8_minds_59 rfl ?_
          refine lv_sipush (v := Int32.ofInt 2428) hx hb dX8_minds_60 (by decide) ?_
          refine lv_sipush (v := Int32.ofInt 607) hx hb dX8_minds_63 (by decide) ?_
          refine lv_aload_n hx hb dX8_minds_66 rfl (lv_at hl 1 rfl) ?_
          refine va_get (D := g) (ci := 8) (v := vI z54) (C := RX8) (T := TX8) (N := 28) hx hb hts inF_X8 hown hK.1 hP 0 rfl rfl 1 (by decide) lk_f82 (fun _ h9 => h9) rfl dX8_minds_67 ?_
          refine ri_mul hx hb dX8_minds_70 (fun z70 e70 => ?_)
          refine ri_add hx hb dX8_minds_71 (fun z71 e71 => ?_)
          refine zc_VV (As := [vI 0, vI z71]) (rest := []) (wc := [(hm, oB 8 [.ref m0, vI z54, .ref m2, .ref m3, vI mo, vI oft, vI la, vI du, .ref m8, .ref m9, vI to, .ref m11, .ref m12, vJ tr, .ref m14, vI n, vI at0, vI sa, vI vv, .ref m19, vI rdu, .ref m21, .ref m22, vI se, vI its, .ref m25, .ref m26, vJ lt0]), (m0, aJ ca 7284 f)]) (wr := []) (k_X8_copy l g ca hm m0 m2 m3 m8 m9 m11 m12 m14 m19 m21 m22 m25 m26 z54 mo oft la du to tr n at0 sa vv rdu se its lt0 f 0 z71 (by first | assumption | omega)) dX8_minds_72 (cwV 2 hts gX8_minds_X8_copy rfl rfl rfl (by decide +kernel) (by rw [hR]; exact ⟨Nat.le_of_ble_eq_true rfl, Nat.le_of_ble_eq_true rfl⟩)) ⟨hx, hb, hml, hown, hts⟩ hl.1 hK hP hD hS hA 0 rfl rfl rfl [0, 1] [] rfl (by decide) rfl (by decide) (by decide) rfl rfl (Nat.le_of_ble_eq_true rfl) (by rw [hR]; exact ⟨Nat.le_of_ble_eq_true rfl, Nat.le_of_ble_eq_true rfl⟩) (fun u H locs q72 hP hD hS => ?_)
          obtain ⟨d1_72, rfl⟩ : ∃ q, q = u := ⟨_, rfl⟩
          have q72 : (∀ j : Int, d1_72 j = if z71 ≤ j ∧ j < z71 + 607 then f (0 + (j - z71)) else f j) := q72
          have hP : va_P g vwCl [(hm, oB 8 [.ref m0, vI z54, .ref m2, .ref m3, vI mo, vI oft, vI la, vI du, .ref m8, .ref m9, vI to, .ref m11, .ref m12, vJ tr, .ref m14, vI n, vI at0, vI sa, vI vv, .ref m19, vI rdu, .ref m21, .ref m22, vI se, vI its, .ref m25, .ref m26, vJ lt0]), (m0, aJ ca 7284 d1_72)] H := hP.sub [0, 1] rfl
          have hD : va_D A [(hm, oB 8 [.ref m0, vI z54, .ref m2, .ref m3, vI mo, vI oft, vI la, vI du, .ref m8, .ref m9, vI to, .ref m11, .ref m12, vJ tr, .ref m14, vI n, vI at0, vI sa, vI vv, .ref m19, vI rdu, .ref m21, .ref m22, vI se, vI its, .ref m25, .ref m26, vJ lt0]), (m0, aJ ca 7284 d1_72)] := hD.sub [0, 1] (by decide) rfl
          refine lv_aload_n hx hb dX8_minds_75 rfl (lv_at hl 1 rfl) ?_
          refine lv_dup hx hb dX8_minds_76 rfl ?_
          refine va_get (D := g) (ci := 8) (v := vI z54) (C := RX8) (T := TX8) (N := 28) hx hb hts inF_X8 hown hK.1 hP 0 rfl rfl 1 (by decide) lk_f82 (fun _ h9 => h9) rfl dX8_minds_77 ?_
          refine lv_iconst (v := Int32.ofInt 1) hx hb dX8_minds_80 rfl ?_
          refine ri_add hx hb dX8_minds_81 (fun z81 e81 => ?_)
          refine va_put (D := g) (ci := 8) (v := vI z81) (ty := .int) (C := RX8) (T := TX8) (N := 28) hx hb hts inF_X8 tyX8 tyX8_ok nmX8 hown hK.1 hP hD hS 0 rfl rfl 1 (by decide) lk_f82 (fun _ h9 => h9) rfl (by decide +kernel) rfl rfl (Nat.le_of_ble_eq_true rfl) dX8_minds_82 (fun H locs hP hD hS => ?_)
          have hP : va_P g vwCl [(hm, oB 8 [.ref m0, vI z81, .ref m2, .ref m3, vI mo, vI oft, vI la, vI du, .ref m8, .ref m9, vI to, .ref m11, .ref m12, vJ tr, .ref m14, vI n, vI at0, vI sa, vI vv, .ref m19, vI rdu, .ref m21, .ref m22, vI se, vI its, .ref m25, .ref m26, vJ lt0]), (m0, aJ ca 7284 d1_72)] H := hP
          have hD : va_D A [(hm, oB 8 [.ref m0, vI z81, .ref m2, .ref m3, vI mo, vI oft, vI la, vI du, .ref m8, .ref m9, vI to, .ref m11, .ref m12, vJ tr, .ref m14, vI n, vI at0, vI sa, vI vv, .ref m19, vI rdu, .ref m21, .ref m22, vI se, vI its, .ref m25, .ref m26, vJ lt0]), (m0, aJ ca 7284 d1_72)] := hD
          refine zr_V hx hb hr hlk hQ (z81, d1_72) hP hD hS dX8_minds_85 (Nat.le_of_ble_eq_true rfl) (Nat.le_of_ble_eq_true rfl) ?_
          show MN un z81 d d1_72
          unfold MN
          first
          | (refine Or.inl ⟨by omega, by omega, fun j => ?_⟩
             rw [q72]
             split
             · rw [if_pos (by omega)]; congr 1; omega
             · rw [if_neg (by omega)])
          | (refine Or.inr ⟨by omega, by omega, fun j => ?_⟩
             rw [q72]
             split
             · rw [if_neg (by omega), if_pos (by omega), hf, if_neg (by omega)]; congr 1; omega
             · rw [hf]
               split
               · rw [if_pos (by omega)]
               · rw [if_neg (by omega), if_neg (by omega)])
        · skip
          refine lv_aload_n hx hb dX8_minds_18 rfl (lv_at hl 1 rfl) ?_
          refine va_get (D := g) (ci := 8) (v := .ref m0) (C := RX8) (T := TX8) (N := 28) hx hb hts inF_X8 hown hK.1 hP 0 rfl rfl 0 (by decide) lk_f7 (fun _ h9 => h9) rfl dX8_minds_19 ?_
          refine lv_sipush (v := Int32.ofInt 2428) hx hb dX8_minds_22 (by decide) ?_
          refine lv_iload_n hx hb dX8_minds_25 rfl (lv_at hl 0 rfl) ?_
          refine ri_add hx hb dX8_minds_26 (fun z26 e26 => ?_)
          refine lv_aload_n hx hb dX8_minds_27 rfl (lv_at hl 1 rfl) ?_
          refine va_get (D := g) (ci := 8) (v := .ref m0) (C := RX8) (T := TX8) (N := 28) hx hb hts inF_X8 hown hK.1 hP 0 rfl rfl 0 (by decide) lk_f7 (fun _ h9 => h9) rfl dX8_minds_28 ?_
          refine lv_sipush (v := Int32.ofInt 2428) hx hb dX8_minds_31 (by decide) ?_
          refine lv_iload_n hx hb dX8_minds_34 rfl (lv_at hl 0 rfl) ?_
          refine ri_add hx hb dX8_minds_35 (fun z35 e35 => ?_)
          refine lv_sipush (v := Int32.ofInt 607) hx hb dX8_minds_36 (by decide) ?_
          refine ri_add hx hb dX8_minds_39 (fun z39 e39 => ?_)
          refine ra_lld hx hb hK hP 1 rfl dX8_minds_40 ⟨by omega, by omega⟩ (by omega) ?_
          refine ra_lst hx hb hK hP hD hS 1 rfl dX8_minds_41 ⟨by omega, by omega⟩ (by omega) (fun H locs hP hD hS => ?_)
          have hP : va_P g vwCl [(hm, oB 8 [.ref m0, vI un, .ref m2, .ref m3, vI mo, vI oft, vI la, vI du, .ref m8, .ref m9, vI to, .ref m11, .ref m12, vJ tr, .ref m14, vI n, vI at0, vI sa, vI vv, .ref m19, vI rdu, .ref m21, .ref m22, vI se, vI its, .ref m25, .ref m26, vJ lt0]), (m0, aJ ca 7284 (zu f z26 (f z39)))] H := hP
          have hD : va_D A [(hm, oB 8 [.ref m0, vI un, .ref m2, .ref m3, vI mo, vI oft, vI la, vI du, .ref m8, .ref m9, vI to, .ref m11, .ref m12, vJ tr, .ref m14, vI n, vI at0, vI sa, vI vv, .ref m19, vI rdu, .ref m21, .ref m22, vI se, vI its, .ref m25, .ref m26, vJ lt0]), (m0, aJ ca 7284 (zu f z26 (f z39)))] := hD
          obtain ⟨z42, e42⟩ : ∃ q : Int, q = i + 1 := ⟨_, rfl⟩
          refine ri_inc (lv' := [(1, vI z42), (0, .ref hm)]) hx hb dX8_minds_42 hl (k := 0) rfl (by decide) z42 e42 rfl (fun ls hl => ?_)
          refine lv_goto (tgt := 11) hx hb dX8_minds_45 (by decide) ?_
          exact ih11 z42 (zu f z26 (f z39)) (by first | assumption | omega) (by
                intro j
                rw [zu_e]
                split
                · rw [if_pos (by omega), hf, if_neg (by omega)]
                  congr 1; omega
                · rw [hf j]
                  split <;> split <;> first | rfl | omega) (by omega) _ _ hP hD hS ls (lv_sub hl [0, 1] rfl)
    exact L11 _ 0 d (by first | assumption | omega) (by intro j; rw [if_neg (by omega)]) (Nat.lt_succ_self _) _ _ hP hD hS ls (lv_sub hl [0, 1] rfl)
set_option maxHeartbeats 4000000 in
set_option maxRecDepth 100000 in
theorem k_X8_isOrder (l : Launch) (g : va_G) (ca : Nat → ClassId) (o : Int) (h1 : in32 o) : zI (S := Unit) l yX8_isOrder wsX8_isOrder ({ frames := 1, cells := 0, slots := 0, locals := 25 } : Room) g ca [vI o] [] (fun (z : Int) (u : Unit) => (z = 1 ∧ 0 ≤ o ∧ o ≤ 4) ∨ (z = 0 ∧ ¬ (0 ≤ o ∧ o ≤ 4))) (fun (u : Unit) => []) 0 0 := by
  refine zm_I (cc := cX8_isOrder) (maxL := 1) (ret := some .boolean) (by decide) rfl (Nat.le_of_ble_eq_true rfl) ?_
  intro p e s m below meth c A ls R args Q hR hargs hQ hx hb hml hr hts hown hlk hnm hK hP hD hA hS hl
  have hown : s.vm.findClass RX8 = some m.cls := hown
  have hl : lv_has ls 1 [(0, vI o)] := hl
  have lk_c136 : (Cond.constantLong RX8 136 (4)).before args s = true := hts _ (by decide +kernel)
  refine lv_iload_n hx hb dX8_isOrder_0 rfl (lv_at hl 0 rfl) ?_
  refine ri_l hx hb dX8_isOrder_1 h1 ?_
  refine lv_lconst (v := Int64.ofInt 0) hx hb dX8_isOrder_2 (by decide) ?_
  refine rj_ldc (z := 4) hx hb hown lk_c136 dX8_isOrder_3 (by decide) ?_
  refine zc_SI (As := [vJ o, vJ 0, vJ 4]) (rest := []) (wc := []) (wr := []) (k_X8_in l g ca o 0 4 (by exact ⟨by omega, by omega⟩) (by exact ⟨by omega, by omega⟩) (by exact ⟨by omega, by omega⟩)) dX8_isOrder_6 (va_cwS 3 hts gX8_isOrder_X8_in rfl rfl rfl (by decide +kernel) (by rw [hR]; exact ⟨Nat.le_of_ble_eq_true rfl, Nat.le_of_ble_eq_true rfl⟩)) ⟨hx, hb, hml, hown, hts⟩ hl.1 hK hP hD hS hA [] [] rfl (by decide) rfl (by decide) (by decide) rfl rfl (Nat.le_of_ble_eq_true rfl) (by rw [hR]; exact ⟨Nat.le_of_ble_eq_true rfl, Nat.le_of_ble_eq_true rfl⟩) (fun z6 u H locs q6 hP hD hS => ?_)
  have q6 : (z6 = 1 ∧ 0 ≤ o ∧ o ≤ 4) ∨ (z6 = 0 ∧ ¬ (0 ≤ o ∧ o ≤ 4)) := q6
  have hP : va_P g vwCl [] H := hP.sub [] rfl
  have hD : va_D A [] := hD.sub [] (by decide) rfl
  refine zr_Z hx hb hr hlk hQ () hP hD hS dX8_isOrder_9 (Nat.le_of_ble_eq_true rfl) (Nat.le_of_ble_eq_true rfl) (show z6 = 0 ∨ z6 = 1 from by omega) ?_
  show (z6 = 1 ∧ 0 ≤ o ∧ o ≤ 4) ∨ (z6 = 0 ∧ ¬ (0 ≤ o ∧ o ≤ 4))
  omega
set_option maxHeartbeats 4000000 in
set_option maxRecDepth 100000 in
theorem k_X8_areMany (l : Launch) (g : va_G) (ca : Nat → ClassId) (hm : Nat) (m0 : Nat) (m2 : Nat) (m3 : Nat) (m8 : Nat) (m9 : Nat) (m11 : Nat) (m12 : Nat) (m14 : Nat) (m19 : Nat) (m21 : Nat) (m22 : Nat) (m25 : Nat) (m26 : Nat) (un : Int) (mo : Int) (oft : Int) (la : Int) (du : Int) (to : Int) (tr : Int) (n : Int) (at0 : Int) (sa : Int) (vv : Int) (rdu : Int) (se : Int) (its : Int) (lt0 : Int) (o : Int) (x : Int) (h1 : in32 o) (h2 : in32 x) : zI (S := Unit) l yX8_areMany wsX8_areMany ({ frames := 2, cells := 0, slots := 0, locals := 45 } : Room) g ca [.ref hm, vI o, vI x] [(hm, oB 8 [.ref m0, vI un, .ref m2, .ref m3, vI mo, vI oft, vI la, vI du, .ref m8, .ref m9, vI to, .ref m11, .ref m12, vJ tr, .ref m14, vI n, vI at0, vI sa, vI vv, .ref m19, vI rdu, .ref m21, .ref m22, vI se, vI its, .ref m25, .ref m26, vJ lt0])] (fun (z : Int) (u : Unit) => (z = 1 ∧ (0 ≤ o ∧ o ≤ 4) ∧ 1 ≤ x ∧ x ≤ 1000000) ∨ (z = 0 ∧ ¬ ((0 ≤ o ∧ o ≤ 4) ∧ 1 ≤ x ∧ x ≤ 1000000))) (fun (u : Unit) => [(hm, oB 8 [.ref m0, vI un, .ref m2, .ref m3, vI mo, vI oft, vI la, vI du, .ref m8, .ref m9, vI to, .ref m11, .ref m12, vJ tr, .ref m14, vI n, vI at0, vI sa, vI vv, .ref m19, vI rdu, .ref m21, .ref m22, vI se, vI its, .ref m25, .ref m26, vJ lt0])]) 0 0 := by
  refine zm_I (cc := cX8_areMany) (maxL := 3) (ret := some .boolean) (by decide) rfl (Nat.le_of_ble_eq_true rfl) ?_
  intro p e s m below meth c A ls R args Q hR hargs hQ hx hb hml hr hts hown hlk hnm hK hP hD hA hS hl
  have hown : s.vm.findClass RX8 = some m.cls := hown
  have hl : lv_has ls 3 [(0, .ref hm), (1, vI o), (2, vI x)] := hl
  have lk_c180 : (Cond.constantLong RX8 180 (1000000)).before args s = true := hts _ (by decide +kernel)
  refine lv_iload_n hx hb dX8_areMany_0 rfl (lv_at hl 1 rfl) ?_
  refine zc_SI (As := [vI o]) (rest := []) (wc := []) (wr := [(hm, oB 8 [.ref m0, vI un, .ref m2, .ref m3, vI mo, vI oft, vI la, vI du, .ref m8, .ref m9, vI to, .ref m11, .ref m12, vJ tr, .ref m14, vI n, vI at0, vI sa, vI vv, .ref m19, vI rdu, .ref m21, .ref m22, vI se, vI its, .ref m25, .ref m26, vJ lt0])]) (k_X8_isOrder l g ca o (by first | assumption | omega)) dX8_areMany_1 (va_cwS 1 hts gX8_areMany_X8_isOrder rfl rfl rfl (by decide +kernel) (by rw [hR]; exact ⟨Nat.le_of_ble_eq_true rfl, Nat.le_of_ble_eq_true rfl⟩)) ⟨hx, hb, hml, hown, hts⟩ hl.1 hK hP hD hS hA [] [0] rfl (by decide) rfl (by decide) (by decide) rfl rfl (Nat.le_of_ble_eq_true rfl) (by rw [hR]; exact ⟨Nat.le_of_ble_eq_true rfl, Nat.le_of_ble_eq_true rfl⟩) (fun z1 u H locs q1 hP hD hS => ?_)
  have q1 : (z1 = 1 ∧ 0 ≤ o ∧ o ≤ 4) ∨ (z1 = 0 ∧ ¬ (0 ≤ o ∧ o ≤ 4)) := q1
  have hP : va_P g vwCl [(hm, oB 8 [.ref m0, vI un, .ref m2, .ref m3, vI mo, vI oft, vI la, vI du, .ref m8, .ref m9, vI to, .ref m11, .ref m12, vJ tr, .ref m14, vI n, vI at0, vI sa, vI vv, .ref m19, vI rdu, .ref m21, .ref m22, vI se, vI its, .ref m25, .ref m26, vJ lt0])] H := hP.sub [0] rfl
  have hD : va_D A [(hm, oB 8 [.ref m0, vI un, .ref m2, .ref m3, vI mo, vI oft, vI la, vI du, .ref m8, .ref m9, vI to, .ref m11, .ref m12, vJ tr, .ref m14, vI n, vI at0, vI sa, vI vv, .ref m19, vI rdu, .ref m21, .ref m22, vI se, vI its, .ref m25, .ref m26, vJ lt0])] := hD.sub [0] (by decide) rfl
  refine ri_if_eq (tgt := 23) hx hb dX8_areMany_4 (by decide) ⟨by omega, by omega⟩ (fun c4 => ?_) (fun c4 => ?_)
  · skip
    refine lv_iconst (v := Int32.ofInt 0) hx hb dX8_areMany_23 rfl ?_
    refine zr_Z hx hb hr hlk hQ () hP hD hS dX8_areMany_24 (Nat.le_of_ble_eq_true rfl) (Nat.le_of_ble_eq_true rfl) (Or.inl rfl) ?_
    show (0 = 1 ∧ (0 ≤ o ∧ o ≤ 4) ∧ 1 ≤ x ∧ x ≤ 1000000) ∨ (0 = 0 ∧ ¬ ((0 ≤ o ∧ o ≤ 4) ∧ 1 ≤ x ∧ x ≤ 1000000))
    omega
  · skip
    refine lv_iload_n hx hb dX8_areMany_7 rfl (lv_at hl 2 rfl) ?_
    refine ri_l hx hb dX8_areMany_8 h2 ?_
    refine lv_lconst (v := Int64.ofInt 1) hx hb dX8_areMany_9 (by decide) ?_
    refine rj_ldc (z := 1000000) hx hb hown lk_c180 dX8_areMany_10 (by decide) ?_
    refine zc_SI (As := [vJ x, vJ 1, vJ 1000000]) (rest := []) (wc := []) (wr := [(hm, oB 8 [.ref m0, vI un, .ref m2, .ref m3, vI mo, vI oft, vI la, vI du, .ref m8, .ref m9, vI to, .ref m11, .ref m12, vJ tr, .ref m14, vI n, vI at0, vI sa, vI vv, .ref m19, vI rdu, .ref m21, .ref m22, vI se, vI its, .ref m25, .ref m26, vJ lt0])]) (k_X8_in l g ca x 1 1000000 (by exact ⟨by omega, by omega⟩) (by exact ⟨by omega, by omega⟩) (by exact ⟨by omega, by omega⟩)) dX8_areMany_13 (va_cwS 3 hts gX8_areMany_X8_in rfl rfl rfl (by decide +kernel) (by rw [hR]; exact ⟨Nat.le_of_ble_eq_true rfl, Nat.le_of_ble_eq_true rfl⟩)) ⟨hx, hb, hml, hown, hts⟩ hl.1 hK hP hD hS hA [] [0] rfl (by decide) rfl (by decide) (by decide) rfl rfl (Nat.le_of_ble_eq_true rfl) (by rw [hR]; exact ⟨Nat.le_of_ble_eq_true rfl, Nat.le_of_ble_eq_true rfl⟩) (fun z13 u H locs q13 hP hD hS => ?_)
    have q13 : (z13 = 1 ∧ 1 ≤ x ∧ x ≤ 1000000) ∨ (z13 = 0 ∧ ¬ (1 ≤ x ∧ x ≤ 1000000)) := q13
    have hP : va_P g vwCl [(hm, oB 8 [.ref m0, vI un, .ref m2, .ref m3, vI mo, vI oft, vI la, vI du, .ref m8, .ref m9, vI to, .ref m11, .ref m12, vJ tr, .ref m14, vI n, vI at0, vI sa, vI vv, .ref m19, vI rdu, .ref m21, .ref m22, vI se, vI its, .ref m25, .ref m26, vJ lt0])] H := hP.sub [0] rfl
    have hD : va_D A [(hm, oB 8 [.ref m0, vI un, .ref m2, .ref m3, vI mo, vI oft, vI la, vI du, .ref m8, .ref m9, vI to, .ref m11, .ref m12, vJ tr, .ref m14, vI n, vI at0, vI sa, vI vv, .ref m19, vI rdu, .ref m21, .ref m22, vI se, vI its, .ref m25, .ref m26, vJ lt0])] := hD.sub [0] (by decide) rfl
    refine ri_if_eq (tgt := 23) hx hb dX8_areMany_16 (by decide) ⟨by omega, by omega⟩ (fun c16 => ?_) (fun c16 => ?_)
    · skip
      refine lv_iconst (v := Int32.ofInt 0) hx hb dX8_areMany_23 rfl ?_
      refine zr_Z hx hb hr hlk hQ () hP hD hS dX8_areMany_24 (Nat.le_of_ble_eq_true rfl) (Nat.le_of_ble_eq_true rfl) (Or.inl rfl) ?_
      show (0 = 1 ∧ (0 ≤ o ∧ o ≤ 4) ∧ 1 ≤ x ∧ x ≤ 1000000) ∨ (0 = 0 ∧ ¬ ((0 ≤ o ∧ o ≤ 4) ∧ 1 ≤ x ∧ x ≤ 1000000))
      omega
    · skip
      refine lv_iconst (v := Int32.ofInt 1) hx hb dX8_areMany_19 rfl ?_
      refine lv_goto (tgt := 24) hx hb dX8_areMany_20 (by decide) ?_
      refine zr_Z hx hb hr hlk hQ () hP hD hS dX8_areMany_24 (Nat.le_of_ble_eq_true rfl) (Nat.le_of_ble_eq_true rfl) (Or.inr rfl) ?_
      show (1 = 1 ∧ (0 ≤ o ∧ o ≤ 4) ∧ 1 ≤ x ∧ x ≤ 1000000) ∨ (1 = 0 ∧ ¬ ((0 ≤ o ∧ o ≤ 4) ∧ 1 ≤ x ∧ x ≤ 1000000))
      omega
set_option maxHeartbeats 4000000 in
set_option maxRecDepth 100000 in
theorem k_X8_isToCome (l : Launch) (g : va_G) (ca : Nat → ClassId) (hm : Nat) (m0 : Nat) (m2 : Nat) (m3 : Nat) (m8 : Nat) (m9 : Nat) (m11 : Nat) (m12 : Nat) (m14 : Nat) (m19 : Nat) (m21 : Nat) (m22 : Nat) (m25 : Nat) (m26 : Nat) (un : Int) (mo : Int) (oft : Int) (la : Int) (du : Int) (to : Int) (tr : Int) (n : Int) (at0 : Int) (sa : Int) (vv : Int) (rdu : Int) (se : Int) (its : Int) (lt0 : Int) (d : Int → Int) (x : Int) (b : Int → Int) (nn : Int) (ml : Int) (hAT : AT d 0 b nn ml) (hB : GB b nn) (h1 : in32 x) : zI (S := Unit) l yX8_isToCome wsX8_isToCome ({ frames := 1, cells := 0, slots := 0, locals := 25 } : Room) g ca [.ref hm, vI x] [(hm, oB 8 [.ref m0, vI un, .ref m2, .ref m3, vI mo, vI oft, vI la, vI du, .ref m8, .ref m9, vI to, .ref m11, .ref m12, vJ tr, .ref m14, vI n, vI at0, vI sa, vI vv, .ref m19, vI rdu, .ref m21, .ref m22, vI se, vI its, .ref m25, .ref m26, vJ lt0]), (m0, aJ ca 7284 d)] (fun (z : Int) (u : Unit) => (z = 1 ∧ nn ≤ x ∧ x ≤ 120) ∨ (z = 0 ∧ ¬ (nn ≤ x ∧ x ≤ 120))) (fun (u : Unit) => [(hm, oB 8 [.ref m0, vI un, .ref m2, .ref m3, vI mo, vI oft, vI la, vI du, .ref m8, .ref m9, vI to, .ref m11, .ref m12, vJ tr, .ref m14, vI n, vI at0, vI sa, vI vv, .ref m19, vI rdu, .ref m21, .ref m22, vI se, vI its, .ref m25, .ref m26, vJ lt0]), (m0, aJ ca 7284 d)]) 0 0 := by
  refine zm_I (cc := cX8_isToCome) (maxL := 2) (ret := some .boolean) (by decide) rfl (Nat.le_of_ble_eq_true rfl) ?_
  intro p e s m below meth c A ls R args Q hR hargs hQ hx hb hml hr hts hown hlk hnm hK hP hD hA hS hl
  have hown : s.vm.findClass RX8 = some m.cls := hown
  have hl : lv_has ls 2 [(0, .ref hm), (1, vI x)] := hl
  have lk_f7 : (Cond.fieldLink RX8 7 "DripRingsModel" "d" "[J").before args s = true := hts _ (by decide +kernel)
  have inF_X8 : ∀ w ∈ wsX80, w ∈ wsX8_isToCome := by decide +kernel
  have lk_c170 : (Cond.constantLong RX8 170 (120)).before args s = true := hts _ (by decide +kernel)
  have hn0 := hB.1
  refine lv_iload_n hx hb dX8_isToCome_0 rfl (lv_at hl 1 rfl) ?_
  refine ri_l hx hb dX8_isToCome_1 h1 ?_
  refine lv_aload_n hx hb dX8_isToCome_2 rfl (lv_at hl 0 rfl) ?_
  refine va_get (D := g) (ci := 8) (v := .ref m0) (C := RX8) (T := TX8) (N := 28) hx hb hts inF_X8 hown hK.1 hP 0 rfl rfl 0 (by decide) lk_f7 (fun _ h9 => h9) rfl dX8_isToCome_3 ?_
  refine lv_sipush (v := Int32.ofInt 606) hx hb dX8_isToCome_6 (by decide) ?_
  refine ra_lld hx hb hK hP 1 rfl dX8_isToCome_9 ⟨by omega, by omega⟩ (by omega) ?_
  have hd10 : d 606 = nn := by have := hAT.2.2; rw [show (0 : Int) + 606 = 606 from rfl] at this; exact this
  refine rj_ldc (z := 120) hx hb hown lk_c170 dX8_isToCome_10 (by decide) ?_
  refine zc_SI (As := [vJ x, vJ (d 606), vJ 120]) (rest := []) (wc := []) (wr := [(hm, oB 8 [.ref m0, vI un, .ref m2, .ref m3, vI mo, vI oft, vI la, vI du, .ref m8, .ref m9, vI to, .ref m11, .ref m12, vJ tr, .ref m14, vI n, vI at0, vI sa, vI vv, .ref m19, vI rdu, .ref m21, .ref m22, vI se, vI its, .ref m25, .ref m26, vJ lt0]), (m0, aJ ca 7284 d)]) (k_X8_in l g ca x (d 606) 120 (by exact ⟨by omega, by omega⟩) (by exact ⟨by omega, by omega⟩) (by exact ⟨by omega, by omega⟩)) dX8_isToCome_13 (va_cwS 3 hts gX8_isToCome_X8_in rfl rfl rfl (by decide +kernel) (by rw [hR]; exact ⟨Nat.le_of_ble_eq_true rfl, Nat.le_of_ble_eq_true rfl⟩)) ⟨hx, hb, hml, hown, hts⟩ hl.1 hK hP hD hS hA [] [0, 1] rfl (by decide) rfl (by decide) (by decide) rfl rfl (Nat.le_of_ble_eq_true rfl) (by rw [hR]; exact ⟨Nat.le_of_ble_eq_true rfl, Nat.le_of_ble_eq_true rfl⟩) (fun z13 u H locs q13 hP hD hS => ?_)
  have q13 : (z13 = 1 ∧ (d 606) ≤ x ∧ x ≤ 120) ∨ (z13 = 0 ∧ ¬ ((d 606) ≤ x ∧ x ≤ 120)) := q13
  have hP : va_P g vwCl [(hm, oB 8 [.ref m0, vI un, .ref m2, .ref m3, vI mo, vI oft, vI la, vI du, .ref m8, .ref m9, vI to, .ref m11, .ref m12, vJ tr, .ref m14, vI n, vI at0, vI sa, vI vv, .ref m19, vI rdu, .ref m21, .ref m22, vI se, vI its, .ref m25, .ref m26, vJ lt0]), (m0, aJ ca 7284 d)] H := hP.sub [0, 1] rfl
  have hD : va_D A [(hm, oB 8 [.ref m0, vI un, .ref m2, .ref m3, vI mo, vI oft, vI la, vI du, .ref m8, .ref m9, vI to, .ref m11, .ref m12, vJ tr, .ref m14, vI n, vI at0, vI sa, vI vv, .ref m19, vI rdu, .ref m21, .ref m22, vI se, vI its, .ref m25, .ref m26, vJ lt0]), (m0, aJ ca 7284 d)] := hD.sub [0, 1] (by decide) rfl
  refine zr_Z hx hb hr hlk hQ () hP hD hS dX8_isToCome_16 (Nat.le_of_ble_eq_true rfl) (Nat.le_of_ble_eq_true rfl) (show z13 = 0 ∨ z13 = 1 from by omega) ?_
  show (z13 = 1 ∧ nn ≤ x ∧ x ≤ 120) ∨ (z13 = 0 ∧ ¬ (nn ≤ x ∧ x ≤ 120))
  omega
