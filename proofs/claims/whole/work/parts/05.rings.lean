theorem takeEnd {b : Int → Int} {n o q i rs : Int} {f : Int → Int} (hB : GB b n) (ho : 0 ≤ o ∧ o ≤ 4) (hq : 0 ≤ q ∧ q ≤ 1000000000000000) (hi : 0 ≤ i ∧ i ≤ n + 1) (hr : rs = max 0 (q - sm b (121 * o) i.toNat)) (hf : ∀ j : Int, f j = if 121 * o ≤ j ∧ j < 121 * o + i then tk b (121 * o) q j else b j) (he : n < i ∨ rs ≤ 0) (j : Int) : f j = tk b (121 * o) q j := by
  rw [hf j]
  split
  · rfl
  · by_cases h : 121 * o ≤ j ∧ j < 121 * o + 121
    · obtain ⟨k, rfl⟩ : ∃ k, j = 121 * o + k := ⟨j - 121 * o, by omega⟩
      have hn := hB.1
      have h1 := hB.2.1 o k (by omega) (by omega) (by omega) (by omega)
      rw [tk_in (by omega) (by omega)]
      rcases he with he | he
      · rw [hB.2.2 o k (by omega) (by omega) (by omega) (by omega)]
        omega
      · have h2 := sm_mono (f := b) (a := 121 * o) (n := i.toNat) (k := k.toNat) (by omega) (fun x h1 h2 => (hB.2.1 o x (by omega) (by omega) h1 (by omega)).1)
        omega
    · rw [tk_out (by omega)]
set_option maxHeartbeats 4000000 in
set_option maxRecDepth 100000 in
theorem k_J7_fill_d0a16 (l : Launch) (g : va_G) (ca : Nat → ClassId) (h1 : Nat) (b : Int → Int) (v : Int)  : zV (S := Unit) l yJ7_fill_d0a16 wsJ7_fill_d0a16 ({ frames := 0, cells := 0, slots := 0, locals := 0 } : Room) g ca [.ref h1, vJ v] [(h1, aJ ca 605 b)] (fun (u : Unit) => True) (fun (u : Unit) => [(h1, aJ ca 605 (fun _ => v))]) 0 0 := by
  refine zm_V (cc := cJ7_fill_d0a16) (maxL := 5) (ret := none) (by decide) rfl (Nat.le_of_ble_eq_true rfl) ?_
  intro p e s m below meth c A ls R args Q hR hargs hQ hx hb hml hr hts hown hlk hnm hK hP hD hA hS hl
  have hown : s.vm.findClass RJ7 = some m.cls := hown
  have hl : lv_has ls 5 [(0, .ref h1), (1, vJ v)] := hl
  refine lv_iconst (v := Int32.ofInt 0) hx hb dJ7_fill_d0a16_0 rfl ?_
  refine lv_istore_n (lv' := [(3, vI 0), (0, .ref h1), (1, vJ v)]) hx hb dJ7_fill_d0a16_1 rfl hl (by decide) rfl (fun ls hl => ?_)
  refine lv_aload_n hx hb dJ7_fill_d0a16_2 rfl (lv_at hl 1 rfl) ?_
  refine va_alen hx hb hK.1 hP 0 1 rfl rfl (show Int32.ofNat 605 = Int32.ofInt 605 by decide) dJ7_fill_d0a16_3 ?_
  refine lv_istore (lv' := [(4, vI 605), (3, vI 0), (0, .ref h1), (1, vJ v)]) hx hb dJ7_fill_d0a16_4 hl (by decide) rfl (fun ls hl => ?_)
  have L6 : ∀ (N6 : Nat) (i : Int) (f : Int → Int) (hi : 0 ≤ i ∧ i ≤ 605) (hf : ∀ j : Int, 0 ≤ j → j < i → f j = v) (hμ : (605 - i).toNat < N6) (H : Heap) (locs : List Loc) (hP : va_P g vwCl [(h1, aJ ca 605 f)] H) (hD : va_D A [(h1, aJ ca 605 f)]) (hS : va_S A s.heap H locs) (ls : Array Slot) (hl : lv_has ls 5 [(4, vI 605), (3, vI i), (0, .ref h1), (1, vJ v)]), W p l e R s m args below meth c H locs 0 0 Q (F0 m 6 ls []) := by
    intro N6; induction N6 with
    | zero => intro i f hi hf hμ; exact absurd hμ (Nat.not_lt_zero _)
    | succ N6 ih6 =>
      intro i f hi hf hμ H locs hP hD hS ls hl
      refine lv_iload_n hx hb dJ7_fill_d0a16_6 rfl (lv_at hl 1 rfl) ?_
      refine lv_iload hx hb dJ7_fill_d0a16_7 (lv_at hl 0 rfl) ?_
      refine ri_icmp_ge (tgt := 22) hx hb dJ7_fill_d0a16_9 (by decide) ⟨by omega, by omega⟩ ⟨by omega, by omega⟩ (fun c9 => ?_) (fun c9 => ?_)
      · skip
        have hP := za_extJ hP 0 rfl (fun _ => v) (fun j hj0 hj1 => (by exact hf j hj0 (by omega)))
        have hD := hD.set (e := aJ ca 605 (fun _ => v)) (show ([(h1, aJ ca 605 f)] : va_W)[0]? = some _ from rfl)
        have hP : va_P g vwCl [(h1, aJ ca 605 (fun _ => v))] H := hP
        have hD : va_D A [(h1, aJ ca 605 (fun _ => v))] := hD
        refine zr_V hx hb hr hlk hQ () hP hD hS dJ7_fill_d0a16_22 (Nat.le_of_ble_eq_true rfl) (Nat.le_of_ble_eq_true rfl) ?_
        show True
        trivial
      · skip
        refine lv_aload_n hx hb dJ7_fill_d0a16_12 rfl (lv_at hl 2 rfl) ?_
        refine lv_iload_n hx hb dJ7_fill_d0a16_13 rfl (lv_at hl 1 rfl) ?_
        refine lv_lload_n hx hb dJ7_fill_d0a16_14 rfl (lv_at hl 3 rfl) ?_
        refine ra_lst hx hb hK hP hD hS 0 rfl dJ7_fill_d0a16_15 ⟨by omega, by omega⟩ (by omega) (fun H locs hP hD hS => ?_)
        have hP : va_P g vwCl [(h1, aJ ca 605 (zu f i v))] H := hP
        have hD : va_D A [(h1, aJ ca 605 (zu f i v))] := hD
        obtain ⟨z16, e16⟩ : ∃ q : Int, q = i + 1 := ⟨_, rfl⟩
        refine ri_inc (lv' := [(3, vI z16), (4, vI 605), (0, .ref h1), (1, vJ v)]) hx hb dJ7_fill_d0a16_16 hl (k := 1) rfl (by decide) z16 e16 rfl (fun ls hl => ?_)
        refine lv_goto (tgt := 6) hx hb dJ7_fill_d0a16_19 (by decide) ?_
        exact ih6 z16 (zu f i v) (by first | assumption | omega) (by
              intro j h1 h2
              rw [zu_e]
              split
              · rfl
              · exact hf j h1 (by omega)) (by omega) _ _ hP hD hS ls (lv_sub hl [1, 0, 2, 3] rfl)
  exact L6 _ 0 b (by first | assumption | omega) (by intro j h1 h2; omega) (Nat.lt_succ_self _) _ _ hP hD hS ls (lv_sub hl [0, 1, 2, 3] rfl)
set_option maxHeartbeats 4000000 in
set_option maxRecDepth 100000 in
theorem k_J7_rangeCheck_23922 (l : Launch) (g : va_G) (ca : Nat → ClassId) (nn : Int) (x : Int) (y : Int) (hr0 : 0 ≤ nn ∧ nn ≤ 1000000 ∧ 0 ≤ x ∧ x ≤ y ∧ y ≤ nn) : zV (S := Unit) l yJ7_rangeCheck_23922 wsJ7_rangeCheck_23922 ({ frames := 0, cells := 0, slots := 0, locals := 0 } : Room) g ca [vI nn, vI x, vI y] [] (fun (u : Unit) => True) (fun (u : Unit) => []) 0 0 := by
  refine zm_V (cc := cJ7_rangeCheck_23922) (maxL := 3) (ret := none) (by decide) rfl (Nat.le_of_ble_eq_true rfl) ?_
  intro p e s m below meth c A ls R args Q hR hargs hQ hx hb hml hr hts hown hlk hnm hK hP hD hA hS hl
  have hown : s.vm.findClass RJ7 = some m.cls := hown
  have hl : lv_has ls 3 [(0, vI nn), (1, vI x), (2, vI y)] := hl
  refine lv_iload_n hx hb dJ7_rangeCheck_23922_0 rfl (lv_at hl 1 rfl) ?_
  refine lv_iload_n hx hb dJ7_rangeCheck_23922_1 rfl (lv_at hl 2 rfl) ?_
  refine ri_icmp_le (tgt := 46) hx hb dJ7_rangeCheck_23922_2 (by decide) ⟨by omega, by omega⟩ ⟨by omega, by omega⟩ (fun c2 => ?_) (fun c2 => ?_)
  · skip
    refine lv_iload_n hx hb dJ7_rangeCheck_23922_46 rfl (lv_at hl 1 rfl) ?_
    refine ri_if_ge (tgt := 59) hx hb dJ7_rangeCheck_23922_47 (by decide) ⟨by omega, by omega⟩ (fun c47 => ?_) (fun c47 => ?_)
    · skip
      refine lv_iload_n hx hb dJ7_rangeCheck_23922_59 rfl (lv_at hl 2 rfl) ?_
      refine lv_iload_n hx hb dJ7_rangeCheck_23922_60 rfl (lv_at hl 0 rfl) ?_
      refine ri_icmp_le (tgt := 73) hx hb dJ7_rangeCheck_23922_61 (by decide) ⟨by omega, by omega⟩ ⟨by omega, by omega⟩ (fun c61 => ?_) (fun c61 => ?_)
      · skip
        refine zr_V hx hb hr hlk hQ () hP hD hS dJ7_rangeCheck_23922_73 (Nat.le_of_ble_eq_true rfl) (Nat.le_of_ble_eq_true rfl) ?_
        show True
        first | trivial | omega | assumption
      · exfalso; omega
    · exfalso; omega
  · exfalso; omega
set_option maxHeartbeats 4000000 in
set_option maxRecDepth 100000 in
theorem k_J7_fill_bad5a (l : Launch) (g : va_G) (ca : Nat → ClassId) (h1 : Nat) (b : Int → Int) (x : Int) (y : Int) (v : Int) (hr0 : 0 ≤ x ∧ x ≤ y ∧ y ≤ 605) : zV (S := Unit) l yJ7_fill_bad5a wsJ7_fill_bad5a ({ frames := 1, cells := 0, slots := 0, locals := 22 } : Room) g ca [.ref h1, vI x, vI y, vJ v] [(h1, aJ ca 605 b)] (fun (u : Unit) => True) (fun (u : Unit) => [(h1, aJ ca 605 (fun j => if x ≤ j ∧ j < y then v else b j))]) 0 0 := by
  refine zm_V (cc := cJ7_fill_bad5a) (maxL := 6) (ret := none) (by decide) rfl (Nat.le_of_ble_eq_true rfl) ?_
  intro p e s m below meth c A ls R args Q hR hargs hQ hx hb hml hr hts hown hlk hnm hK hP hD hA hS hl
  have hown : s.vm.findClass RJ7 = some m.cls := hown
  have hl : lv_has ls 6 [(0, .ref h1), (1, vI x), (2, vI y), (3, vJ v)] := hl
  refine lv_aload_n hx hb dJ7_fill_bad5a_0 rfl (lv_at hl 0 rfl) ?_
  refine va_alen hx hb hK.1 hP 0 1 rfl rfl (show Int32.ofNat 605 = Int32.ofInt 605 by decide) dJ7_fill_bad5a_1 ?_
  refine lv_iload_n hx hb dJ7_fill_bad5a_2 rfl (lv_at hl 1 rfl) ?_
  refine lv_iload_n hx hb dJ7_fill_bad5a_3 rfl (lv_at hl 2 rfl) ?_
  refine zc_SV (As := [vI 605, vI x, vI y]) (rest := []) (wc := []) (wr := [(h1, aJ ca 605 b)]) (k_J7_rangeCheck_23922 l g ca 605 x y (by first | assumption | omega)) dJ7_fill_bad5a_4 (va_cwS 3 hts gJ7_fill_bad5a_J7_rangeCheck_23922 rfl rfl rfl (by decide +kernel) (by rw [hR]; exact ⟨Nat.le_of_ble_eq_true rfl, Nat.le_of_ble_eq_true rfl⟩)) ⟨hx, hb, hml, hown, hts⟩ hl.1 hK hP hD hS hA [] [0] rfl (by decide) rfl (by decide) (by decide) rfl rfl (Nat.le_of_ble_eq_true rfl) (by rw [hR]; exact ⟨Nat.le_of_ble_eq_true rfl, Nat.le_of_ble_eq_true rfl⟩) (fun u H locs q4 hP hD hS => ?_)
  have hP : va_P g vwCl [(h1, aJ ca 605 b)] H := hP.sub [0] rfl
  have hD : va_D A [(h1, aJ ca 605 b)] := hD.sub [0] (by decide) rfl
  refine lv_iload_n hx hb dJ7_fill_bad5a_7 rfl (lv_at hl 1 rfl) ?_
  refine lv_istore (lv' := [(5, vI x), (0, .ref h1), (1, vI x), (2, vI y), (3, vJ v)]) hx hb dJ7_fill_bad5a_8 hl (by decide) rfl (fun ls hl => ?_)
  have L10 : ∀ (N10 : Nat) (i : Int) (f : Int → Int) (hi : x ≤ i ∧ i ≤ y) (hf : ∀ j : Int, f j = if x ≤ j ∧ j < i then v else b j) (hμ : (y - i).toNat < N10) (H : Heap) (locs : List Loc) (hP : va_P g vwCl [(h1, aJ ca 605 f)] H) (hD : va_D A [(h1, aJ ca 605 f)]) (hS : va_S A s.heap H locs) (ls : Array Slot) (hl : lv_has ls 6 [(5, vI i), (0, .ref h1), (1, vI x), (2, vI y), (3, vJ v)]), W p l e R s m args below meth c H locs 0 0 Q (F0 m 10 ls []) := by
    intro N10; induction N10 with
    | zero => intro i f hi hf hμ; exact absurd hμ (Nat.not_lt_zero _)
    | succ N10 ih10 =>
      intro i f hi hf hμ H locs hP hD hS ls hl
      refine lv_iload hx hb dJ7_fill_bad5a_10 (lv_at hl 0 rfl) ?_
      refine lv_iload_n hx hb dJ7_fill_bad5a_12 rfl (lv_at hl 3 rfl) ?_
      refine ri_icmp_ge (tgt := 27) hx hb dJ7_fill_bad5a_13 (by decide) ⟨by omega, by omega⟩ ⟨by omega, by omega⟩ (fun c13 => ?_) (fun c13 => ?_)
      · skip
        have hP := za_extJ hP 0 rfl (fun j => if x ≤ j ∧ j < y then v else b j) (fun j hj0 hj1 => (by rw [hf j, show i = y by omega]))
        have hD := hD.set (e := aJ ca 605 (fun j => if x ≤ j ∧ j < y then v else b j)) (show ([(h1, aJ ca 605 f)] : va_W)[0]? = some _ from rfl)
        have hP : va_P g vwCl [(h1, aJ ca 605 (fun j => if x ≤ j ∧ j < y then v else b j))] H := hP
        have hD : va_D A [(h1, aJ ca 605 (fun j => if x ≤ j ∧ j < y then v else b j))] := hD
        refine zr_V hx hb hr hlk hQ () hP hD hS dJ7_fill_bad5a_27 (Nat.le_of_ble_eq_true rfl) (Nat.le_of_ble_eq_true rfl) ?_
        show True
        trivial
      · skip
        refine lv_aload_n hx hb dJ7_fill_bad5a_16 rfl (lv_at hl 1 rfl) ?_
        refine lv_iload hx hb dJ7_fill_bad5a_17 (lv_at hl 0 rfl) ?_
        refine lv_lload_n hx hb dJ7_fill_bad5a_19 rfl (lv_at hl 4 rfl) ?_
        refine ra_lst hx hb hK hP hD hS 0 rfl dJ7_fill_bad5a_20 ⟨by omega, by omega⟩ (by omega) (fun H locs hP hD hS => ?_)
        have hP : va_P g vwCl [(h1, aJ ca 605 (zu f i v))] H := hP
        have hD : va_D A [(h1, aJ ca 605 (zu f i v))] := hD
        obtain ⟨z21, e21⟩ : ∃ q : Int, q = i + 1 := ⟨_, rfl⟩
        refine ri_inc (lv' := [(5, vI z21), (0, .ref h1), (1, vI x), (2, vI y), (3, vJ v)]) hx hb dJ7_fill_bad5a_21 hl (k := 0) rfl (by decide) z21 e21 rfl (fun ls hl => ?_)
        refine lv_goto (tgt := 10) hx hb dJ7_fill_bad5a_24 (by decide) ?_
        exact ih10 z21 (zu f i v) (by first | assumption | omega) (by
              intro j
              rw [zu_e]
              split
              · rw [if_pos (by omega)]
              · rw [hf j]
                split <;> split <;> first | rfl | omega) (by omega) _ _ hP hD hS ls (lv_sub hl [0, 1, 2, 3, 4] rfl)
  exact L10 _ x b (by first | assumption | omega) (by intro j; rw [if_neg (by omega)]) (Nat.lt_succ_self _) _ _ hP hD hS ls (lv_sub hl [0, 1, 2, 3, 4] rfl)
set_option maxHeartbeats 4000000 in
set_option maxRecDepth 100000 in
theorem k_X6_becomeLike (l : Launch) (g : va_G) (ca : Nat → ClassId) (h0 : Nat) (h1 : Nat) (b : Int → Int) (n : Int) (lm : Int) (k0 : Nat) (k1 : Nat) (b2 : Int → Int) (n2 : Int) (lm2 : Int)  : zV (S := Unit) l yX6_becomeLike wsX6_becomeLike ({ frames := 1, cells := 0, slots := 0, locals := 26 } : Room) g ca [.ref h0, .ref k0] [(h0, oB 6 [.ref h1, vI n, vJ lm]), (h1, aJ ca 605 b), (k0, oB 6 [.ref k1, vI n2, vJ lm2]), (k1, aJ ca 605 b2)] (fun (u : Unit) => True) (fun (u : Unit) => [(h0, oB 6 [.ref h1, vI n2, vJ lm2]), (h1, aJ ca 605 b2), (k0, oB 6 [.ref k1, vI n2, vJ lm2]), (k1, aJ ca 605 b2)]) 0 0 := by
  refine zm_V (cc := cX6_becomeLike) (maxL := 2) (ret := none) (by decide) rfl (Nat.le_of_ble_eq_true rfl) ?_
  intro p e s m below meth c A ls R args Q hR hargs hQ hx hb hml hr hts hown hlk hnm hK hP hD hA hS hl
  have hown : s.vm.findClass RX6 = some m.cls := hown
  have hl : lv_has ls 2 [(0, .ref h0), (1, .ref k0)] := hl
  have lk_f9 : (Cond.fieldLink RX6 9 "DripRings$Rings" "born" "[J").before args s = true := hts _ (by decide +kernel)
  have inF_X6 : ∀ w ∈ wsX60, w ∈ wsX6_becomeLike := by decide +kernel
  have lk_ac32 : (Cond.methodLink RX6 32 arraycopyName).before args s = true := hts _ (by decide +kernel)
  have lk_acn : (Cond.native arraycopyName).before args s = true := hts _ (by decide +kernel)
  have lk_acs : (Cond.static arraycopyName).before args s = true := hts _ (by decide +kernel)
  have lk_acz : (Cond.initialized "java/lang/System").before args s = true := hts _ (by decide +kernel)
  have lk_f24 : (Cond.fieldLink RX6 24 "DripRings$Rings" "night" "I").before args s = true := hts _ (by decide +kernel)
  have lk_f28 : (Cond.fieldLink RX6 28 "DripRings$Rings" "lump" "J").before args s = true := hts _ (by decide +kernel)
  refine lv_aload_n hx hb dX6_becomeLike_0 rfl (lv_at hl 1 rfl) ?_
  refine va_get (D := g) (ci := 6) (v := .ref k1) (C := RX6) (T := TX6) (N := 3) hx hb hts inF_X6 hown hK.1 hP 2 rfl rfl 0 (by decide) lk_f9 (fun _ h9 => h9) rfl dX6_becomeLike_1 ?_
  refine lv_iconst (v := Int32.ofInt 0) hx hb dX6_becomeLike_4 rfl ?_
  refine lv_aload_n hx hb dX6_becomeLike_5 rfl (lv_at hl 0 rfl) ?_
  refine va_get (D := g) (ci := 6) (v := .ref h1) (C := RX6) (T := TX6) (N := 3) hx hb hts inF_X6 hown hK.1 hP 0 rfl rfl 0 (by decide) lk_f9 (fun _ h9 => h9) rfl dX6_becomeLike_6 ?_
  refine lv_iconst (v := Int32.ofInt 0) hx hb dX6_becomeLike_9 rfl ?_
  refine lv_sipush (v := Int32.ofInt 605) hx hb dX6_becomeLike_10 (by decide) ?_
  refine ra_copy hx hb (by rw [hml]; exact hl.1.symm) hown lk_ac32 lk_acn lk_acs lk_acz hK hP hD hS 3 1 rfl rfl ⟨by omega, by omega⟩ ⟨by omega, by omega⟩ ⟨by omega, by omega⟩ (by omega) (by omega) (by rw [hR]; exact Nat.le_of_ble_eq_true rfl) (by rw [hR]; exact Nat.le_of_ble_eq_true rfl) dX6_becomeLike_13 (fun H locs hP hD hS => ?_)
  have hP : va_P g vwCl [(h0, oB 6 [.ref h1, vI n, vJ lm]), (h1, aJ ca 605 (zc b2 b 0 0 605)), (k0, oB 6 [.ref k1, vI n2, vJ lm2]), (k1, aJ ca 605 b2)] H := hP
  have hD : va_D A [(h0, oB 6 [.ref h1, vI n, vJ lm]), (h1, aJ ca 605 (zc b2 b 0 0 605)), (k0, oB 6 [.ref k1, vI n2, vJ lm2]), (k1, aJ ca 605 b2)] := hD
  refine lv_aload_n hx hb dX6_becomeLike_16 rfl (lv_at hl 0 rfl) ?_
  refine lv_aload_n hx hb dX6_becomeLike_17 rfl (lv_at hl 1 rfl) ?_
  refine va_get (D := g) (ci := 6) (v := vI n2) (C := RX6) (T := TX6) (N := 3) hx hb hts inF_X6 hown hK.1 hP 2 rfl rfl 1 (by decide) lk_f24 (fun _ h9 => h9) rfl dX6_becomeLike_18 ?_
  refine va_put (D := g) (ci := 6) (v := vI n2) (ty := .int) (C := RX6) (T := TX6) (N := 3) hx hb hts inF_X6 tyX6 tyX6_ok nmX6 hown hK.1 hP hD hS 0 rfl rfl 1 (by decide) lk_f24 (fun _ h9 => h9) rfl (by decide +kernel) rfl rfl (Nat.le_of_ble_eq_true rfl) dX6_becomeLike_21 (fun H locs hP hD hS => ?_)
  have hP : va_P g vwCl [(h0, oB 6 [.ref h1, vI n2, vJ lm]), (h1, aJ ca 605 (zc b2 b 0 0 605)), (k0, oB 6 [.ref k1, vI n2, vJ lm2]), (k1, aJ ca 605 b2)] H := hP
  have hD : va_D A [(h0, oB 6 [.ref h1, vI n2, vJ lm]), (h1, aJ ca 605 (zc b2 b 0 0 605)), (k0, oB 6 [.ref k1, vI n2, vJ lm2]), (k1, aJ ca 605 b2)] := hD
  refine lv_aload_n hx hb dX6_becomeLike_24 rfl (lv_at hl 0 rfl) ?_
  refine lv_aload_n hx hb dX6_becomeLike_25 rfl (lv_at hl 1 rfl) ?_
  refine va_get (D := g) (ci := 6) (v := vJ lm2) (C := RX6) (T := TX6) (N := 3) hx hb hts inF_X6 hown hK.1 hP 2 rfl rfl 2 (by decide) lk_f28 (fun _ h9 => h9) rfl dX6_becomeLike_26 ?_
  refine va_put (D := g) (ci := 6) (v := vJ lm2) (ty := .long) (C := RX6) (T := TX6) (N := 3) hx hb hts inF_X6 tyX6 tyX6_ok nmX6 hown hK.1 hP hD hS 0 rfl rfl 2 (by decide) lk_f28 (fun _ h9 => h9) rfl (by decide +kernel) rfl rfl (Nat.le_of_ble_eq_true rfl) dX6_becomeLike_29 (fun H locs hP hD hS => ?_)
  have hP : va_P g vwCl [(h0, oB 6 [.ref h1, vI n2, vJ lm2]), (h1, aJ ca 605 (zc b2 b 0 0 605)), (k0, oB 6 [.ref k1, vI n2, vJ lm2]), (k1, aJ ca 605 b2)] H := hP
  have hD : va_D A [(h0, oB 6 [.ref h1, vI n2, vJ lm2]), (h1, aJ ca 605 (zc b2 b 0 0 605)), (k0, oB 6 [.ref k1, vI n2, vJ lm2]), (k1, aJ ca 605 b2)] := hD
  have hP := za_extJ hP 1 rfl (b2) (fun j hj0 hj1 => (by unfold zc; rw [if_pos (by omega)]; congr 1; omega))
  have hD := hD.set (e := aJ ca 605 (b2)) (show ([(h0, oB 6 [.ref h1, vI n2, vJ lm2]), (h1, aJ ca 605 (zc b2 b 0 0 605)), (k0, oB 6 [.ref k1, vI n2, vJ lm2]), (k1, aJ ca 605 b2)] : va_W)[1]? = some _ from rfl)
  have hP : va_P g vwCl [(h0, oB 6 [.ref h1, vI n2, vJ lm2]), (h1, aJ ca 605 b2), (k0, oB 6 [.ref k1, vI n2, vJ lm2]), (k1, aJ ca 605 b2)] H := hP
  have hD : va_D A [(h0, oB 6 [.ref h1, vI n2, vJ lm2]), (h1, aJ ca 605 b2), (k0, oB 6 [.ref k1, vI n2, vJ lm2]), (k1, aJ ca 605 b2)] := hD
  refine zr_V hx hb hr hlk hQ () hP hD hS dX6_becomeLike_32 (Nat.le_of_ble_eq_true rfl) (Nat.le_of_ble_eq_true rfl) ?_
  show True
  trivial
set_option maxHeartbeats 4000000 in
set_option maxRecDepth 100000 in
theorem k_X6_startAnew (l : Launch) (g : va_G) (ca : Nat → ClassId) (h0 : Nat) (h1 : Nat) (b : Int → Int) (n : Int) (lm : Int)  : zV (S := Unit) l yX6_startAnew wsX6_startAnew ({ frames := 1, cells := 0, slots := 0, locals := 24 } : Room) g ca [.ref h0] [(h0, oB 6 [.ref h1, vI n, vJ lm]), (h1, aJ ca 605 b)] (fun (u : Unit) => True) (fun (u : Unit) => [(h0, oB 6 [.ref h1, vI 0, vJ 0]), (h1, aJ ca 605 (zu (fun _ => 0) 0 1))]) 0 0 := by
  refine zm_V (cc := cX6_startAnew) (maxL := 1) (ret := none) (by decide) rfl (Nat.le_of_ble_eq_true rfl) ?_
  intro p e s m below meth c A ls R args Q hR hargs hQ hx hb hml hr hts hown hlk hnm hK hP hD hA hS hl
  have hown : s.vm.findClass RX6 = some m.cls := hown
  have hl : lv_has ls 1 [(0, .ref h0)] := hl
  have lk_f9 : (Cond.fieldLink RX6 9 "DripRings$Rings" "born" "[J").before args s = true := hts _ (by decide +kernel)
  have inF_X6 : ∀ w ∈ wsX60, w ∈ wsX6_startAnew := by decide +kernel
  have lk_f24 : (Cond.fieldLink RX6 24 "DripRings$Rings" "night" "I").before args s = true := hts _ (by decide +kernel)
  have lk_f28 : (Cond.fieldLink RX6 28 "DripRings$Rings" "lump" "J").before args s = true := hts _ (by decide +kernel)
  refine lv_aload_n hx hb dX6_startAnew_0 rfl (lv_at hl 0 rfl) ?_
  refine va_get (D := g) (ci := 6) (v := .ref h1) (C := RX6) (T := TX6) (N := 3) hx hb hts inF_X6 hown hK.1 hP 0 rfl rfl 0 (by decide) lk_f9 (fun _ h9 => h9) rfl dX6_startAnew_1 ?_
  refine lv_lconst (v := Int64.ofInt 0) hx hb dX6_startAnew_4 (by decide) ?_
  refine zc_SV (As := [.ref h1, vJ 0]) (rest := []) (wc := [(h1, aJ ca 605 b)]) (wr := [(h0, oB 6 [.ref h1, vI n, vJ lm])]) (k_J7_fill_d0a16 l g ca h1 b 0 ) dX6_startAnew_5 (va_cwS 2 hts gX6_startAnew_J7_fill_d0a16 rfl rfl rfl (by decide +kernel) (by rw [hR]; exact ⟨Nat.le_of_ble_eq_true rfl, Nat.le_of_ble_eq_true rfl⟩)) ⟨hx, hb, hml, hown, hts⟩ hl.1 hK hP hD hS hA [1] [0] rfl (by decide) rfl (by decide) (by decide) rfl rfl (Nat.le_of_ble_eq_true rfl) (by rw [hR]; exact ⟨Nat.le_of_ble_eq_true rfl, Nat.le_of_ble_eq_true rfl⟩) (fun u H locs q5 hP hD hS => ?_)
  have hP : va_P g vwCl [(h0, oB 6 [.ref h1, vI n, vJ lm]), (h1, aJ ca 605 (fun _ => 0))] H := hP.sub [0, 1] rfl
  have hD : va_D A [(h0, oB 6 [.ref h1, vI n, vJ lm]), (h1, aJ ca 605 (fun _ => 0))] := hD.sub [0, 1] (by decide) rfl
  refine lv_aload_n hx hb dX6_startAnew_8 rfl (lv_at hl 0 rfl) ?_
  refine va_get (D := g) (ci := 6) (v := .ref h1) (C := RX6) (T := TX6) (N := 3) hx hb hts inF_X6 hown hK.1 hP 0 rfl rfl 0 (by decide) lk_f9 (fun _ h9 => h9) rfl dX6_startAnew_9 ?_
  refine lv_iconst (v := Int32.ofInt 0) hx hb dX6_startAnew_12 rfl ?_
  refine lv_lconst (v := Int64.ofInt 1) hx hb dX6_startAnew_13 (by decide) ?_
  refine ra_lst hx hb hK hP hD hS 1 rfl dX6_startAnew_14 ⟨by omega, by omega⟩ (by omega) (fun H locs hP hD hS => ?_)
  have hP : va_P g vwCl [(h0, oB 6 [.ref h1, vI n, vJ lm]), (h1, aJ ca 605 (zu (fun _ => 0) 0 1))] H := hP
  have hD : va_D A [(h0, oB 6 [.ref h1, vI n, vJ lm]), (h1, aJ ca 605 (zu (fun _ => 0) 0 1))] := hD
  refine lv_aload_n hx hb dX6_startAnew_15 rfl (lv_at hl 0 rfl) ?_
  refine lv_iconst (v := Int32.ofInt 0) hx hb dX6_startAnew_16 rfl ?_
  refine va_put (D := g) (ci := 6) (v := vI 0) (ty := .int) (C := RX6) (T := TX6) (N := 3) hx hb hts inF_X6 tyX6 tyX6_ok nmX6 hown hK.1 hP hD hS 0 rfl rfl 1 (by decide) lk_f24 (fun _ h9 => h9) rfl (by decide +kernel) rfl rfl (Nat.le_of_ble_eq_true rfl) dX6_startAnew_17 (fun H locs hP hD hS => ?_)
  have hP : va_P g vwCl [(h0, oB 6 [.ref h1, vI 0, vJ lm]), (h1, aJ ca 605 (zu (fun _ => 0) 0 1))] H := hP
  have hD : va_D A [(h0, oB 6 [.ref h1, vI 0, vJ lm]), (h1, aJ ca 605 (zu (fun _ => 0) 0 1))] := hD
  refine lv_aload_n hx hb dX6_startAnew_20 rfl (lv_at hl 0 rfl) ?_
  refine lv_lconst (v := Int64.ofInt 0) hx hb dX6_startAnew_21 (by decide) ?_
  refine va_put (D := g) (ci := 6) (v := vJ 0) (ty := .long) (C := RX6) (T := TX6) (N := 3) hx hb hts inF_X6 tyX6 tyX6_ok nmX6 hown hK.1 hP hD hS 0 rfl rfl 2 (by decide) lk_f28 (fun _ h9 => h9) rfl (by decide +kernel) rfl rfl (Nat.le_of_ble_eq_true rfl) dX6_startAnew_22 (fun H locs hP hD hS => ?_)
  have hP : va_P g vwCl [(h0, oB 6 [.ref h1, vI 0, vJ 0]), (h1, aJ ca 605 (zu (fun _ => 0) 0 1))] H := hP
  have hD : va_D A [(h0, oB 6 [.ref h1, vI 0, vJ 0]), (h1, aJ ca 605 (zu (fun _ => 0) 0 1))] := hD
  refine zr_V hx hb hr hlk hQ () hP hD hS dX6_startAnew_25 (Nat.le_of_ble_eq_true rfl) (Nat.le_of_ble_eq_true rfl) ?_
  show True
  first | trivial | omega | assumption
set_option maxHeartbeats 4000000 in
set_option maxRecDepth 100000 in
theorem k_X6_ofOrder (l : Launch) (g : va_G) (ca : Nat → ClassId) (h0 : Nat) (h1 : Nat) (b : Int → Int) (n : Int) (lm : Int) (o : Int) (hn : 0 ≤ n ∧ n ≤ 120) (ho : 0 ≤ o ∧ o ≤ 4) : zJ (S := Unit) l yX6_ofOrder wsX6_ofOrder ({ frames := 0, cells := 0, slots := 0, locals := 0 } : Room) g ca [.ref h0, vI o] [(h0, oB 6 [.ref h1, vI n, vJ lm]), (h1, aJ ca 605 b)] (fun (z : Int) (u : Unit) => z = cnt b n o) (fun (u : Unit) => [(h0, oB 6 [.ref h1, vI n, vJ lm]), (h1, aJ ca 605 b)]) 0 0 := by
  refine zm_J (cc := cX6_ofOrder) (maxL := 5) (ret := some .long) (by decide) rfl (Nat.le_of_ble_eq_true rfl) ?_
  intro p e s m below meth c A ls R args Q hR hargs hQ hx hb hml hr hts hown hlk hnm hK hP hD hA hS hl
  have hown : s.vm.findClass RX6 = some m.cls := hown
  have hl : lv_has ls 5 [(0, .ref h0), (1, vI o)] := hl
  have lk_f24 : (Cond.fieldLink RX6 24 "DripRings$Rings" "night" "I").before args s = true := hts _ (by decide +kernel)
  have inF_X6 : ∀ w ∈ wsX60, w ∈ wsX6_ofOrder := by decide +kernel
  have lk_f9 : (Cond.fieldLink RX6 9 "DripRings$Rings" "born" "[J").before args s = true := hts _ (by decide +kernel)
  refine lv_lconst (v := Int64.ofInt 0) hx hb dX6_ofOrder_0 (by decide) ?_
  refine lv_lstore_n (lv' := [(2, vJ 0), (0, .ref h0), (1, vI o)]) hx hb dX6_ofOrder_1 rfl hl (by decide) rfl (fun ls hl => ?_)
  refine lv_iconst (v := Int32.ofInt 0) hx hb dX6_ofOrder_2 rfl ?_
  refine lv_istore (lv' := [(4, vI 0), (2, vJ 0), (0, .ref h0), (1, vI o)]) hx hb dX6_ofOrder_3 hl (by decide) rfl (fun ls hl => ?_)
  have L5 : ∀ (N5 : Nat) (i : Int) (a : Int) (hi : 0 ≤ i ∧ i ≤ n + 1) (ha : a = sm b (121 * o) i.toNat) (hμ : (n + 1 - i).toNat < N5) (H : Heap) (locs : List Loc) (hP : va_P g vwCl [(h0, oB 6 [.ref h1, vI n, vJ lm]), (h1, aJ ca 605 b)] H) (hD : va_D A [(h0, oB 6 [.ref h1, vI n, vJ lm]), (h1, aJ ca 605 b)]) (hS : va_S A s.heap H locs) (ls : Array Slot) (hl : lv_has ls 5 [(4, vI i), (2, vJ a), (0, .ref h0), (1, vI o)]), W p l e R s m args below meth c H locs 0 0 Q (F0 m 5 ls []) := by
    intro N5; induction N5 with
    | zero => intro i a hi ha hμ; exact absurd hμ (Nat.not_lt_zero _)
    | succ N5 ih5 =>
      intro i a hi ha hμ H locs hP hD hS ls hl
      refine lv_iload hx hb dX6_ofOrder_5 (lv_at hl 0 rfl) ?_
      refine lv_aload_n hx hb dX6_ofOrder_7 rfl (lv_at hl 2 rfl) ?_
      refine va_get (D := g) (ci := 6) (v := vI n) (C := RX6) (T := TX6) (N := 3) hx hb hts inF_X6 hown hK.1 hP 0 rfl rfl 1 (by decide) lk_f24 (fun _ h9 => h9) rfl dX6_ofOrder_8 ?_
      refine ri_icmp_gt (tgt := 35) hx hb dX6_ofOrder_11 (by decide) ⟨by omega, by omega⟩ ⟨by omega, by omega⟩ (fun c11 => ?_) (fun c11 => ?_)
      · skip
        refine lv_lload_n hx hb dX6_ofOrder_35 rfl (lv_at hl 1 rfl) ?_
        refine zr_J hx hb hr hlk hQ () hP hD hS dX6_ofOrder_36 (Nat.le_of_ble_eq_true rfl) (Nat.le_of_ble_eq_true rfl) ?_
        show a = cnt b n o
        rw [ha]; unfold cnt; rw [show i = n + 1 by omega]
      · skip
        refine lv_lload_n hx hb dX6_ofOrder_14 rfl (lv_at hl 1 rfl) ?_
        refine lv_aload_n hx hb dX6_ofOrder_15 rfl (lv_at hl 2 rfl) ?_
        refine va_get (D := g) (ci := 6) (v := .ref h1) (C := RX6) (T := TX6) (N := 3) hx hb hts inF_X6 hown hK.1 hP 0 rfl rfl 0 (by decide) lk_f9 (fun _ h9 => h9) rfl dX6_ofOrder_16 ?_
        refine lv_iload_n hx hb dX6_ofOrder_19 rfl (lv_at hl 3 rfl) ?_
        refine lv_bipush (v := Int32.ofInt 121) hx hb dX6_ofOrder_20 (by decide) ?_
        refine ri_mul hx hb dX6_ofOrder_22 (fun z22 e22 => ?_)
        refine lv_iload hx hb dX6_ofOrder_23 (lv_at hl 0 rfl) ?_
        refine ri_add hx hb dX6_ofOrder_25 (fun z25 e25 => ?_)
        refine ra_lld hx hb hK hP 1 rfl dX6_ofOrder_26 ⟨by omega, by omega⟩ (by omega) ?_
        refine rj_add hx hb dX6_ofOrder_27 (fun z27 e27 => ?_)
        refine lv_lstore_n (lv' := [(2, vJ z27), (4, vI i), (0, .ref h0), (1, vI o)]) hx hb dX6_ofOrder_28 rfl hl (by decide) rfl (fun ls hl => ?_)
        obtain ⟨z29, e29⟩ : ∃ q : Int, q = i + 1 := ⟨_, rfl⟩
        refine ri_inc (lv' := [(4, vI z29), (2, vJ z27), (0, .ref h0), (1, vI o)]) hx hb dX6_ofOrder_29 hl (k := 1) rfl (by decide) z29 e29 rfl (fun ls hl => ?_)
        refine lv_goto (tgt := 5) hx hb dX6_ofOrder_32 (by decide) ?_
        exact ih5 z29 z27 (by first | assumption | omega) (by rw [e29, sm_s _ _ (by omega), ← ha, e27, show z25 = 121 * o + i by omega]) (by omega) _ _ hP hD hS ls (lv_sub hl [0, 1, 2, 3] rfl)
  exact L5 _ 0 0 (by first | assumption | omega) (by rfl) (Nat.lt_succ_self _) _ _ hP hD hS ls (lv_sub hl [0, 1, 2, 3] rfl)
set_option maxHeartbeats 4000000 in
set_option maxRecDepth 100000 in
theorem k_X6_total (l : Launch) (g : va_G) (ca : Nat → ClassId) (h0 : Nat) (h1 : Nat) (b : Int → Int) (n : Int) (lm : Int) (hn : 0 ≤ n ∧ n ≤ 120) : zJ (S := Unit) l yX6_total wsX6_total ({ frames := 1, cells := 0, slots := 0, locals := 24 } : Room) g ca [.ref h0] [(h0, oB 6 [.ref h1, vI n, vJ lm]), (h1, aJ ca 605 b)] (fun (z : Int) (u : Unit) => z = tot b n) (fun (u : Unit) => [(h0, oB 6 [.ref h1, vI n, vJ lm]), (h1, aJ ca 605 b)]) 0 0 := by
  refine zm_J (cc := cX6_total) (maxL := 4) (ret := some .long) (by decide) rfl (Nat.le_of_ble_eq_true rfl) ?_
  intro p e s m below meth c A ls R args Q hR hargs hQ hx hb hml hr hts hown hlk hnm hK hP hD hA hS hl
  have hown : s.vm.findClass RX6 = some m.cls := hown
  have hl : lv_has ls 4 [(0, .ref h0)] := hl
  refine lv_lconst (v := Int64.ofInt 0) hx hb dX6_total_0 (by decide) ?_
  refine lv_lstore_n (lv' := [(1, vJ 0), (0, .ref h0)]) hx hb dX6_total_1 rfl hl (by decide) rfl (fun ls hl => ?_)
  refine lv_iconst (v := Int32.ofInt 0) hx hb dX6_total_2 rfl ?_
  refine lv_istore_n (lv' := [(3, vI 0), (1, vJ 0), (0, .ref h0)]) hx hb dX6_total_3 rfl hl (by decide) rfl (fun ls hl => ?_)
  have L4 : ∀ (N4 : Nat) (o : Int) (a : Int) (hi : 0 ≤ o ∧ o ≤ 5) (ha : a = sm (fun o => cnt b n o) 0 o.toNat) (hμ : (5 - o).toNat < N4) (H : Heap) (locs : List Loc) (hP : va_P g vwCl [(h0, oB 6 [.ref h1, vI n, vJ lm]), (h1, aJ ca 605 b)] H) (hD : va_D A [(h0, oB 6 [.ref h1, vI n, vJ lm]), (h1, aJ ca 605 b)]) (hS : va_S A s.heap H locs) (ls : Array Slot) (hl : lv_has ls 4 [(3, vI o), (1, vJ a), (0, .ref h0)]), W p l e R s m args below meth c H locs 0 0 Q (F0 m 4 ls []) := by
    intro N4; induction N4 with
    | zero => intro o a hi ha hμ; exact absurd hμ (Nat.not_lt_zero _)
    | succ N4 ih4 =>
      intro o a hi ha hμ H locs hP hD hS ls hl
      refine lv_iload_n hx hb dX6_total_4 rfl (lv_at hl 0 rfl) ?_
      refine lv_iconst (v := Int32.ofInt 5) hx hb dX6_total_5 rfl ?_
      refine ri_icmp_ge (tgt := 23) hx hb dX6_total_6 (by decide) ⟨by omega, by omega⟩ ⟨by omega, by omega⟩ (fun c6 => ?_) (fun c6 => ?_)
      · skip
        refine lv_lload_n hx hb dX6_total_23 rfl (lv_at hl 1 rfl) ?_
        refine zr_J hx hb hr hlk hQ () hP hD hS dX6_total_24 (Nat.le_of_ble_eq_true rfl) (Nat.le_of_ble_eq_true rfl) ?_
        show a = tot b n
        rw [ha]; unfold tot; rw [show o = 5 by omega]; rfl
      · skip
        refine lv_lload_n hx hb dX6_total_9 rfl (lv_at hl 1 rfl) ?_
        refine lv_aload_n hx hb dX6_total_10 rfl (lv_at hl 2 rfl) ?_
        refine lv_iload_n hx hb dX6_total_11 rfl (lv_at hl 0 rfl) ?_
        refine zc_VJ (As := [vI o]) (rest := [vJ a]) (wc := [(h0, oB 6 [.ref h1, vI n, vJ lm]), (h1, aJ ca 605 b)]) (wr := []) (k_X6_ofOrder l g ca h0 h1 b n lm o (by first | assumption | omega) (by first | assumption | omega)) dX6_total_12 (cwV 1 hts gX6_total_X6_ofOrder rfl rfl rfl (by decide +kernel) (by rw [hR]; exact ⟨Nat.le_of_ble_eq_true rfl, Nat.le_of_ble_eq_true rfl⟩)) ⟨hx, hb, hml, hown, hts⟩ hl.1 hK hP hD hS hA 0 rfl rfl rfl [0, 1] [] rfl (by decide) rfl (by decide) (by decide) rfl rfl (Nat.le_of_ble_eq_true rfl) (by rw [hR]; exact ⟨Nat.le_of_ble_eq_true rfl, Nat.le_of_ble_eq_true rfl⟩) (fun z12 u H locs q12 hP hD hS => ?_)
        have q12 : z12 = cnt b n o := q12
        have hP : va_P g vwCl [(h0, oB 6 [.ref h1, vI n, vJ lm]), (h1, aJ ca 605 b)] H := hP.sub [0, 1] rfl
        have hD : va_D A [(h0, oB 6 [.ref h1, vI n, vJ lm]), (h1, aJ ca 605 b)] := hD.sub [0, 1] (by decide) rfl
        refine rj_add hx hb dX6_total_15 (fun z15 e15 => ?_)
        refine lv_lstore_n (lv' := [(1, vJ z15), (3, vI o), (0, .ref h0)]) hx hb dX6_total_16 rfl hl (by decide) rfl (fun ls hl => ?_)
        obtain ⟨z17, e17⟩ : ∃ q : Int, q = o + 1 := ⟨_, rfl⟩
        refine ri_inc (lv' := [(3, vI z17), (1, vJ z15), (0, .ref h0)]) hx hb dX6_total_17 hl (k := 1) rfl (by decide) z17 e17 rfl (fun ls hl => ?_)
        refine lv_goto (tgt := 4) hx hb dX6_total_20 (by decide) ?_
        exact ih4 z17 z15 (by first | assumption | omega) (by rw [e17, sm_s _ _ (by omega), ← ha, e15, q12, Int.zero_add]) (by omega) _ _ hP hD hS ls (lv_sub hl [0, 1, 2] rfl)
  exact L4 _ 0 0 (by first | assumption | omega) (by rfl) (Nat.lt_succ_self _) _ _ hP hD hS ls (lv_sub hl [0, 1, 2] rfl)
set_option maxHeartbeats 4000000 in
set_option maxRecDepth 100000 in
theorem k_X6_weight (l : Launch) (g : va_G) (ca : Nat → ClassId) (h0 : Nat) (h1 : Nat) (b : Int → Int) (n : Int) (lm : Int) (hL : Nat) (hw : Nat) (he : Nat) (hdn : Nat) (hdw : Nat) (w : Int → Int) (du : Int) (hv : Int) (mo : Int) (oft : Int) (la : Int) (pA : Int) (pB : Int) (hn : 0 ≤ n ∧ n ≤ 120) (hW : GW w) : zJ (S := Unit) l yX6_weight wsX6_weight ({ frames := 1, cells := 0, slots := 0, locals := 24 } : Room) g ca [.ref h0, .ref hL] [(h0, oB 6 [.ref h1, vI n, vJ lm]), (h1, aJ ca 605 b), (hL, oB 2 [.ref hw, .ref he, .ref hdn, .ref hdw, vI du, vI hv, vI mo, vI oft, vI la, vI pA, vI pB]), (hw, aI ca 5 w)] (fun (z : Int) (u : Unit) => z = wgt b w n) (fun (u : Unit) => [(h0, oB 6 [.ref h1, vI n, vJ lm]), (h1, aJ ca 605 b), (hL, oB 2 [.ref hw, .ref he, .ref hdn, .ref hdw, vI du, vI hv, vI mo, vI oft, vI la, vI pA, vI pB]), (hw, aI ca 5 w)]) 0 0 := by
  refine zm_J (cc := cX6_weight) (maxL := 5) (ret := some .long) (by decide) rfl (Nat.le_of_ble_eq_true rfl) ?_
  intro p e s m below meth c A ls R args Q hR hargs hQ hx hb hml hr hts hown hlk hnm hK hP hD hA hS hl
  have hown : s.vm.findClass RX6 = some m.cls := hown
  have hl : lv_has ls 5 [(0, .ref h0), (1, .ref hL)] := hl
  have lk_f69 : (Cond.fieldLink RX6 69 "DripRings$Law" "weights" "[I").before args s = true := hts _ (by decide +kernel)
  have inF_X2 : ∀ w ∈ wsX20, w ∈ wsX6_weight := by decide +kernel
  refine lv_lconst (v := Int64.ofInt 0) hx hb dX6_weight_0 (by decide) ?_
  refine lv_lstore_n (lv' := [(2, vJ 0), (0, .ref h0), (1, .ref hL)]) hx hb dX6_weight_1 rfl hl (by decide) rfl (fun ls hl => ?_)
  refine lv_iconst (v := Int32.ofInt 0) hx hb dX6_weight_2 rfl ?_
  refine lv_istore (lv' := [(4, vI 0), (2, vJ 0), (0, .ref h0), (1, .ref hL)]) hx hb dX6_weight_3 hl (by decide) rfl (fun ls hl => ?_)
  have L5 : ∀ (N5 : Nat) (o : Int) (a : Int) (hi : 0 ≤ o ∧ o ≤ 5) (ha : a = sm (fun o => cnt b n o * w o) 0 o.toNat) (hμ : (5 - o).toNat < N5) (H : Heap) (locs : List Loc) (hP : va_P g vwCl [(h0, oB 6 [.ref h1, vI n, vJ lm]), (h1, aJ ca 605 b), (hL, oB 2 [.ref hw, .ref he, .ref hdn, .ref hdw, vI du, vI hv, vI mo, vI oft, vI la, vI pA, vI pB]), (hw, aI ca 5 w)] H) (hD : va_D A [(h0, oB 6 [.ref h1, vI n, vJ lm]), (h1, aJ ca 605 b), (hL, oB 2 [.ref hw, .ref he, .ref hdn, .ref hdw, vI du, vI hv, vI mo, vI oft, vI la, vI pA, vI pB]), (hw, aI ca 5 w)]) (hS : va_S A s.heap H locs) (ls : Array Slot) (hl : lv_has ls 5 [(4, vI o), (2, vJ a), (0, .ref h0), (1, .ref hL)]), W p l e R s m args below meth c H locs 0 0 Q (F0 m 5 ls []) := by
    intro N5; induction N5 with
    | zero => intro o a hi ha hμ; exact absurd hμ (Nat.not_lt_zero _)
    | succ N5 ih5 =>
      intro o a hi ha hμ H locs hP hD hS ls hl
      refine lv_iload hx hb dX6_weight_5 (lv_at hl 0 rfl) ?_
      refine lv_iconst (v := Int32.ofInt 5) hx hb dX6_weight_7 rfl ?_
      refine ri_icmp_ge (tgt := 35) hx hb dX6_weight_8 (by decide) ⟨by omega, by omega⟩ ⟨by omega, by omega⟩ (fun c8 => ?_) (fun c8 => ?_)
      · skip
        refine lv_lload_n hx hb dX6_weight_35 rfl (lv_at hl 1 rfl) ?_
        refine zr_J hx hb hr hlk hQ () hP hD hS dX6_weight_36 (Nat.le_of_ble_eq_true rfl) (Nat.le_of_ble_eq_true rfl) ?_
        show a = wgt b w n
        rw [ha]; unfold wgt; rw [show o = 5 by omega]; rfl
      · skip
        refine lv_lload_n hx hb dX6_weight_11 rfl (lv_at hl 1 rfl) ?_
        refine lv_aload_n hx hb dX6_weight_12 rfl (lv_at hl 2 rfl) ?_
        refine lv_iload hx hb dX6_weight_13 (lv_at hl 0 rfl) ?_
        refine zc_VJ (As := [vI o]) (rest := [vJ a]) (wc := [(h0, oB 6 [.ref h1, vI n, vJ lm]), (h1, aJ ca 605 b)]) (wr := [(hL, oB 2 [.ref hw, .ref he, .ref hdn, .ref hdw, vI du, vI hv, vI mo, vI oft, vI la, vI pA, vI pB]), (hw, aI ca 5 w)]) (k_X6_ofOrder l g ca h0 h1 b n lm o (by first | assumption | omega) (by first | assumption | omega)) dX6_weight_15 (cwV 1 hts gX6_weight_X6_ofOrder rfl rfl rfl (by decide +kernel) (by rw [hR]; exact ⟨Nat.le_of_ble_eq_true rfl, Nat.le_of_ble_eq_true rfl⟩)) ⟨hx, hb, hml, hown, hts⟩ hl.1 hK hP hD hS hA 0 rfl rfl rfl [0, 1] [2, 3] rfl (by decide) rfl (by decide) (by decide) rfl rfl (Nat.le_of_ble_eq_true rfl) (by rw [hR]; exact ⟨Nat.le_of_ble_eq_true rfl, Nat.le_of_ble_eq_true rfl⟩) (fun z15 u H locs q15 hP hD hS => ?_)
        have q15 : z15 = cnt b n o := q15
        have hP : va_P g vwCl [(h0, oB 6 [.ref h1, vI n, vJ lm]), (h1, aJ ca 605 b), (hL, oB 2 [.ref hw, .ref he, .ref hdn, .ref hdw, vI du, vI hv, vI mo, vI oft, vI la, vI pA, vI pB]), (hw, aI ca 5 w)] H := hP.sub [2, 3, 0, 1] rfl
        have hD : va_D A [(h0, oB 6 [.ref h1, vI n, vJ lm]), (h1, aJ ca 605 b), (hL, oB 2 [.ref hw, .ref he, .ref hdn, .ref hdw, vI du, vI hv, vI mo, vI oft, vI la, vI pA, vI pB]), (hw, aI ca 5 w)] := hD.sub [2, 3, 0, 1] (by decide) rfl
        refine lv_aload_n hx hb dX6_weight_18 rfl (lv_at hl 3 rfl) ?_
        refine va_get (D := g) (ci := 2) (v := .ref hw) (C := RX2) (T := TX2) (N := 11) hx hb hts inF_X2 hown hK.1 hP 2 rfl rfl 0 (by decide) lk_f69 (fun _ h9 => h9) rfl dX6_weight_19 ?_
        refine lv_iload hx hb dX6_weight_22 (lv_at hl 0 rfl) ?_
        refine ra_ild hx hb hK hP 3 rfl dX6_weight_24 ⟨by omega, by omega⟩ (by omega) ?_
        have hw25 := hW o (by omega) (by omega)
        refine ri_l hx hb dX6_weight_25 ⟨by omega, by omega⟩ ?_
        refine rj_mul hx hb dX6_weight_26 (fun z26 e26 => ?_)
        refine rj_add hx hb dX6_weight_27 (fun z27 e27 => ?_)
        refine lv_lstore_n (lv' := [(2, vJ z27), (4, vI o), (0, .ref h0), (1, .ref hL)]) hx hb dX6_weight_28 rfl hl (by decide) rfl (fun ls hl => ?_)
        obtain ⟨z29, e29⟩ : ∃ q : Int, q = o + 1 := ⟨_, rfl⟩
        refine ri_inc (lv' := [(4, vI z29), (2, vJ z27), (0, .ref h0), (1, .ref hL)]) hx hb dX6_weight_29 hl (k := 1) rfl (by decide) z29 e29 rfl (fun ls hl => ?_)
        refine lv_goto (tgt := 5) hx hb dX6_weight_32 (by decide) ?_
        exact ih5 z29 z27 (by first | assumption | omega) (by rw [e29, sm_s _ _ (by omega), ← ha, e27, e26, q15, Int.zero_add]) (by omega) _ _ hP hD hS ls (lv_sub hl [0, 1, 2, 3] rfl)
  exact L5 _ 0 0 (by first | assumption | omega) (by rfl) (Nat.lt_succ_self _) _ _ hP hD hS ls (lv_sub hl [0, 1, 2, 3] rfl)
set_option maxHeartbeats 4000000 in
set_option maxRecDepth 100000 in
theorem k_X6_weightWithLump (l : Launch) (g : va_G) (ca : Nat → ClassId) (h0 : Nat) (h1 : Nat) (b : Int → Int) (n : Int) (lm : Int) (hL : Nat) (hw : Nat) (he : Nat) (hdn : Nat) (hdw : Nat) (w : Int → Int) (du : Int) (hv : Int) (mo : Int) (oft : Int) (la : Int) (pA : Int) (pB : Int) (hn : 0 ≤ n ∧ n ≤ 120) (hW : GW w) : zJ (S := Unit) l yX6_weightWithLump wsX6_weightWithLump ({ frames := 2, cells := 0, slots := 0, locals := 48 } : Room) g ca [.ref h0, .ref hL] [(h0, oB 6 [.ref h1, vI n, vJ lm]), (h1, aJ ca 605 b), (hL, oB 2 [.ref hw, .ref he, .ref hdn, .ref hdw, vI du, vI hv, vI mo, vI oft, vI la, vI pA, vI pB]), (hw, aI ca 5 w)] (fun (z : Int) (u : Unit) => z = wgt b w n + lm) (fun (u : Unit) => [(h0, oB 6 [.ref h1, vI n, vJ lm]), (h1, aJ ca 605 b), (hL, oB 2 [.ref hw, .ref he, .ref hdn, .ref hdw, vI du, vI hv, vI mo, vI oft, vI la, vI pA, vI pB]), (hw, aI ca 5 w)]) 0 0 := by
  refine zm_J (cc := cX6_weightWithLump) (maxL := 2) (ret := some .long) (by decide) rfl (Nat.le_of_ble_eq_true rfl) ?_
  intro p e s m below meth c A ls R args Q hR hargs hQ hx hb hml hr hts hown hlk hnm hK hP hD hA hS hl
  have hown : s.vm.findClass RX6 = some m.cls := hown
  have hl : lv_has ls 2 [(0, .ref h0), (1, .ref hL)] := hl
  have lk_f28 : (Cond.fieldLink RX6 28 "DripRings$Rings" "lump" "J").before args s = true := hts _ (by decide +kernel)
  have inF_X6 : ∀ w ∈ wsX60, w ∈ wsX6_weightWithLump := by decide +kernel
  refine lv_aload_n hx hb dX6_weightWithLump_0 rfl (lv_at hl 0 rfl) ?_
  refine lv_aload_n hx hb dX6_weightWithLump_1 rfl (lv_at hl 1 rfl) ?_
  refine zc_VJ (As := [.ref hL]) (rest := []) (wc := [(h0, oB 6 [.ref h1, vI n, vJ lm]), (h1, aJ ca 605 b), (hL, oB 2 [.ref hw, .ref he, .ref hdn, .ref hdw, vI du, vI hv, vI mo, vI oft, vI la, vI pA, vI pB]), (hw, aI ca 5 w)]) (wr := []) (k_X6_weight l g ca h0 h1 b n lm hL hw he hdn hdw w du hv mo oft la pA pB (by first | assumption | omega) (by first | assumption | omega)) dX6_weightWithLump_2 (cwV 1 hts gX6_weightWithLump_X6_weight rfl rfl rfl (by decide +kernel) (by rw [hR]; exact ⟨Nat.le_of_ble_eq_true rfl, Nat.le_of_ble_eq_true rfl⟩)) ⟨hx, hb, hml, hown, hts⟩ hl.1 hK hP hD hS hA 0 rfl rfl rfl [0, 1, 2, 3] [] rfl (by decide) rfl (by decide) (by decide) rfl rfl (Nat.le_of_ble_eq_true rfl) (by rw [hR]; exact ⟨Nat.le_of_ble_eq_true rfl, Nat.le_of_ble_eq_true rfl⟩) (fun z2 u H locs q2 hP hD hS => ?_)
  have q2 : z2 = wgt b w n := q2
  have hP : va_P g vwCl [(h0, oB 6 [.ref h1, vI n, vJ lm]), (h1, aJ ca 605 b), (hL, oB 2 [.ref hw, .ref he, .ref hdn, .ref hdw, vI du, vI hv, vI mo, vI oft, vI la, vI pA, vI pB]), (hw, aI ca 5 w)] H := hP.sub [0, 1, 2, 3] rfl
  have hD : va_D A [(h0, oB 6 [.ref h1, vI n, vJ lm]), (h1, aJ ca 605 b), (hL, oB 2 [.ref hw, .ref he, .ref hdn, .ref hdw, vI du, vI hv, vI mo, vI oft, vI la, vI pA, vI pB]), (hw, aI ca 5 w)] := hD.sub [0, 1, 2, 3] (by decide) rfl
  refine lv_aload_n hx hb dX6_weightWithLump_5 rfl (lv_at hl 0 rfl) ?_
  refine va_get (D := g) (ci := 6) (v := vJ lm) (C := RX6) (T := TX6) (N := 3) hx hb hts inF_X6 hown hK.1 hP 0 rfl rfl 2 (by decide) lk_f28 (fun _ h9 => h9) rfl dX6_weightWithLump_6 ?_
  refine rj_add hx hb dX6_weightWithLump_9 (fun z9 e9 => ?_)
  refine zr_J hx hb hr hlk hQ () hP hD hS dX6_weightWithLump_10 (Nat.le_of_ble_eq_true rfl) (Nat.le_of_ble_eq_true rfl) ?_
  show z9 = wgt b w n + lm
  rw [e9, q2]
set_option maxHeartbeats 4000000 in
set_option maxRecDepth 100000 in
theorem k_X2_drips (l : Launch) (g : va_G) (ca : Nat → ClassId) (hL : Nat) (hw : Nat) (he : Nat) (hdn : Nat) (hdw : Nat) (w : Int → Int) (du : Int) (hv : Int) (mo : Int) (oft : Int) (la : Int) (pA : Int) (pB : Int) (o : Int) (ho : 0 ≤ o ∧ o ≤ 4) (hW : GW w) : zI (S := Unit) l yX2_drips wsX2_drips ({ frames := 0, cells := 0, slots := 0, locals := 0 } : Room) g ca [.ref hL, vI o] [(hL, oB 2 [.ref hw, .ref he, .ref hdn, .ref hdw, vI du, vI hv, vI mo, vI oft, vI la, vI pA, vI pB]), (hw, aI ca 5 w)] (fun (z : Int) (u : Unit) => (z = 1 ∧ o ≤ 3 ∧ 0 < w (o + 1)) ∨ (z = 0 ∧ ¬ (o ≤ 3 ∧ 0 < w (o + 1)))) (fun (u : Unit) => [(hL, oB 2 [.ref hw, .ref he, .ref hdn, .ref hdw, vI du, vI hv, vI mo, vI oft, vI la, vI pA, vI pB]), (hw, aI ca 5 w)]) 0 0 := by
  refine zm_I (cc := cX2_drips) (maxL := 2) (ret := some .boolean) (by decide) rfl (Nat.le_of_ble_eq_true rfl) ?_
  intro p e s m below meth c A ls R args Q hR hargs hQ hx hb hml hr hts hown hlk hnm hK hP hD hA hS hl
  have hown : s.vm.findClass RX2 = some m.cls := hown
  have hl : lv_has ls 2 [(0, .ref hL), (1, vI o)] := hl
  have lk_f9 : (Cond.fieldLink RX2 9 "DripRings$Law" "weights" "[I").before args s = true := hts _ (by decide +kernel)
  have inF_X2 : ∀ w ∈ wsX20, w ∈ wsX2_drips := by decide +kernel
  refine lv_iload_n hx hb dX2_drips_0 rfl (lv_at hl 1 rfl) ?_
  refine ri_if_lt (tgt := 24) hx hb dX2_drips_1 (by decide) ⟨by omega, by omega⟩ (fun c1 => ?_) (fun c1 => ?_)
  · exfalso; omega
  · skip
    refine lv_iload_n hx hb dX2_drips_4 rfl (lv_at hl 1 rfl) ?_
    refine lv_iconst (v := Int32.ofInt 4) hx hb dX2_drips_5 rfl ?_
    refine ri_icmp_ge (tgt := 24) hx hb dX2_drips_6 (by decide) ⟨by omega, by omega⟩ ⟨by omega, by omega⟩ (fun c6 => ?_) (fun c6 => ?_)
    · skip
      refine lv_iconst (v := Int32.ofInt 0) hx hb dX2_drips_24 rfl ?_
      refine zr_Z hx hb hr hlk hQ () hP hD hS dX2_drips_25 (Nat.le_of_ble_eq_true rfl) (Nat.le_of_ble_eq_true rfl) (Or.inl rfl) ?_
      show (0 = 1 ∧ o ≤ 3 ∧ 0 < w (o + 1)) ∨ (0 = 0 ∧ ¬ (o ≤ 3 ∧ 0 < w (o + 1)))
      omega
    · skip
      refine lv_aload_n hx hb dX2_drips_9 rfl (lv_at hl 0 rfl) ?_
      refine va_get (D := g) (ci := 2) (v := .ref hw) (C := RX2) (T := TX2) (N := 11) hx hb hts inF_X2 hown hK.1 hP 0 rfl rfl 0 (by decide) lk_f9 (fun _ h9 => h9) rfl dX2_drips_10 ?_
      refine lv_iload_n hx hb dX2_drips_13 rfl (lv_at hl 1 rfl) ?_
      refine lv_iconst (v := Int32.ofInt 1) hx hb dX2_drips_14 rfl ?_
      refine ri_add hx hb dX2_drips_15 (fun z15 e15 => ?_)
      refine ra_ild hx hb hK hP 1 rfl dX2_drips_16 ⟨by omega, by omega⟩ (by omega) ?_
      have hw17 := hW (o + 1) (by omega) (by omega)
      have e15b : w z15 = w (o + 1) := by rw [e15]
      refine ri_if_le (tgt := 24) hx hb dX2_drips_17 (by decide) ⟨by omega, by omega⟩ (fun c17 => ?_) (fun c17 => ?_)
      · skip
        refine lv_iconst (v := Int32.ofInt 0) hx hb dX2_drips_24 rfl ?_
        refine zr_Z hx hb hr hlk hQ () hP hD hS dX2_drips_25 (Nat.le_of_ble_eq_true rfl) (Nat.le_of_ble_eq_true rfl) (Or.inl rfl) ?_
        show (0 = 1 ∧ o ≤ 3 ∧ 0 < w (o + 1)) ∨ (0 = 0 ∧ ¬ (o ≤ 3 ∧ 0 < w (o + 1)))
        omega
      · skip
        refine lv_iconst (v := Int32.ofInt 1) hx hb dX2_drips_20 rfl ?_
        refine lv_goto (tgt := 25) hx hb dX2_drips_21 (by decide) ?_
        refine zr_Z hx hb hr hlk hQ () hP hD hS dX2_drips_25 (Nat.le_of_ble_eq_true rfl) (Nat.le_of_ble_eq_true rfl) (Or.inr rfl) ?_
        show (1 = 1 ∧ o ≤ 3 ∧ 0 < w (o + 1)) ∨ (1 = 0 ∧ ¬ (o ≤ 3 ∧ 0 < w (o + 1)))
        omega
set_option maxHeartbeats 4000000 in
set_option maxRecDepth 100000 in
theorem k_X6_dripping (l : Launch) (g : va_G) (ca : Nat → ClassId) (h0 : Nat) (h1 : Nat) (b : Int → Int) (n : Int) (lm : Int) (o : Int) (sg : Int) (hn : 0 ≤ n ∧ n ≤ 120) (ho : 0 ≤ o ∧ o ≤ 4) (hs : 1 ≤ sg ∧ sg ≤ 200) : zJ (S := Unit) l yX6_dripping wsX6_dripping ({ frames := 1, cells := 0, slots := 0, locals := 23 } : Room) g ca [.ref h0, vI o, vI sg] [(h0, oB 6 [.ref h1, vI n, vJ lm]), (h1, aJ ca 605 b)] (fun (z : Int) (u : Unit) => z = dr b (121 * o) sg 121 (n - sg)) (fun (u : Unit) => [(h0, oB 6 [.ref h1, vI n, vJ lm]), (h1, aJ ca 605 b)]) 0 0 := by
  refine zm_J (cc := cX6_dripping) (maxL := 7) (ret := some .long) (by decide) rfl (Nat.le_of_ble_eq_true rfl) ?_
  intro p e s m below meth c A ls R args Q hR hargs hQ hx hb hml hr hts hown hlk hnm hK hP hD hA hS hl
  have hown : s.vm.findClass RX6 = some m.cls := hown
  have hl : lv_has ls 7 [(0, .ref h0), (1, vI o), (2, vI sg)] := hl
  have lk_max55 : (Cond.methodLink RX6 55 Lib.Math.max.name).before args s = true := hts _ (by decide +kernel)
  have lk_maxs : (Cond.static Lib.Math.max.name).before args s = true := hts _ (by decide +kernel)
  have lk_mathz : (Cond.initialized "java/lang/Math").before args s = true := hts _ (by decide +kernel)
  have lk_maxc : (Cond.code Lib.Math.max.name Lib.Math.max.code 2 (some .int)).before args s = true := hts _ (by decide +kernel)
  have lk_f24 : (Cond.fieldLink RX6 24 "DripRings$Rings" "night" "I").before args s = true := hts _ (by decide +kernel)
  have inF_X6 : ∀ w ∈ wsX60, w ∈ wsX6_dripping := by decide +kernel
  have lk_f9 : (Cond.fieldLink RX6 9 "DripRings$Rings" "born" "[J").before args s = true := hts _ (by decide +kernel)
  refine lv_iconst (v := Int32.ofInt 1) hx hb dX6_dripping_0 rfl ?_
  refine lv_iload_n hx hb dX6_dripping_1 rfl (lv_at hl 2 rfl) ?_
  refine ri_max hx hb (by rw [hml]; exact hl.1.symm) hown lk_max55 lk_maxs lk_mathz lk_maxc (by rw [hR]; exact Nat.le_of_ble_eq_true rfl) (by rw [hR]; exact Nat.le_of_ble_eq_true rfl) (by rw [hR]; exact Nat.le_of_ble_eq_true rfl) (by rw [hR]; exact Nat.le_of_ble_eq_true rfl) ⟨by omega, by omega⟩ ⟨by omega, by omega⟩ dX6_dripping_2 (fun z2 e2 => ?_)
  have e2 : z2 = sg := by rw [e2]; split <;> omega
  refine lv_istore_n (lv' := [(3, vI z2), (0, .ref h0), (1, vI o), (2, vI sg)]) hx hb dX6_dripping_5 rfl hl (by decide) rfl (fun ls hl => ?_)
  refine lv_lconst (v := Int64.ofInt 0) hx hb dX6_dripping_6 (by decide) ?_
  refine lv_lstore (lv' := [(4, vJ 0), (3, vI z2), (0, .ref h0), (1, vI o), (2, vI sg)]) hx hb dX6_dripping_7 hl (by decide) rfl (fun ls hl => ?_)
  refine lv_aload_n hx hb dX6_dripping_9 rfl (lv_at hl 2 rfl) ?_
  refine va_get (D := g) (ci := 6) (v := vI n) (C := RX6) (T := TX6) (N := 3) hx hb hts inF_X6 hown hK.1 hP 0 rfl rfl 1 (by decide) lk_f24 (fun _ h9 => h9) rfl dX6_dripping_10 ?_
  refine lv_iload_n hx hb dX6_dripping_13 rfl (lv_at hl 1 rfl) ?_
  refine ri_sub hx hb dX6_dripping_14 (fun z14 e14 => ?_)
  refine lv_istore (lv' := [(6, vI z14), (4, vJ 0), (3, vI z2), (0, .ref h0), (1, vI o), (2, vI sg)]) hx hb dX6_dripping_15 hl (by decide) rfl (fun ls hl => ?_)
  have L17 : ∀ (N17 : Nat) (i : Int) (a : Int) (k : Nat) (hi : i ≤ 120 ∧ i < k ∧ -1000 ≤ i) (ha : a + dr b (121 * o) z2 k i = dr b (121 * o) z2 121 (n - z2)) (hμ : k < N17) (H : Heap) (locs : List Loc) (hP : va_P g vwCl [(h0, oB 6 [.ref h1, vI n, vJ lm]), (h1, aJ ca 605 b)] H) (hD : va_D A [(h0, oB 6 [.ref h1, vI n, vJ lm]), (h1, aJ ca 605 b)]) (hS : va_S A s.heap H locs) (ls : Array Slot) (hl : lv_has ls 7 [(6, vI i), (4, vJ a), (3, vI z2), (0, .ref h0), (1, vI o), (2, vI sg)]), W p l e R s m args below meth c H locs 0 0 Q (F0 m 17 ls []) := by
    intro N17; induction N17 with
    | zero => intro i a k hi ha hμ; exact absurd hμ (Nat.not_lt_zero _)
    | succ N17 ih17 =>
      intro i a k hi ha hμ H locs hP hD hS ls hl
      refine lv_iload hx hb dX6_dripping_17 (lv_at hl 0 rfl) ?_
      refine ri_if_lt (tgt := 48) hx hb dX6_dripping_19 (by decide) ⟨by omega, by omega⟩ (fun c19 => ?_) (fun c19 => ?_)
      · skip
        refine lv_lload hx hb dX6_dripping_48 (lv_at hl 1 rfl) ?_
        refine zr_J hx hb hr hlk hQ () hP hD hS dX6_dripping_50 (Nat.le_of_ble_eq_true rfl) (Nat.le_of_ble_eq_true rfl) ?_
        show a = dr b (121 * o) sg 121 (n - sg)
        rw [dr_neg c19] at ha; rw [← e2]; omega
      · skip
        obtain ⟨k1, rfl⟩ : ∃ q, k = q + 1 := ⟨k - 1, by omega⟩
        refine lv_lload hx hb dX6_dripping_22 (lv_at hl 1 rfl) ?_
        refine lv_aload_n hx hb dX6_dripping_24 rfl (lv_at hl 3 rfl) ?_
        refine va_get (D := g) (ci := 6) (v := .ref h1) (C := RX6) (T := TX6) (N := 3) hx hb hts inF_X6 hown hK.1 hP 0 rfl rfl 0 (by decide) lk_f9 (fun _ h9 => h9) rfl dX6_dripping_25 ?_
        refine lv_iload_n hx hb dX6_dripping_28 rfl (lv_at hl 4 rfl) ?_
        refine lv_bipush (v := Int32.ofInt 121) hx hb dX6_dripping_29 (by decide) ?_
        refine ri_mul hx hb dX6_dripping_31 (fun z31 e31 => ?_)
        refine lv_iload hx hb dX6_dripping_32 (lv_at hl 0 rfl) ?_
        refine ri_add hx hb dX6_dripping_34 (fun z34 e34 => ?_)
        refine ra_lld hx hb hK hP 1 rfl dX6_dripping_35 ⟨by omega, by omega⟩ (by omega) ?_
        refine rj_add hx hb dX6_dripping_36 (fun z36 e36 => ?_)
        refine lv_lstore (lv' := [(4, vJ z36), (6, vI i), (3, vI z2), (0, .ref h0), (1, vI o), (2, vI sg)]) hx hb dX6_dripping_37 hl (by decide) rfl (fun ls hl => ?_)
        refine lv_iload hx hb dX6_dripping_39 (lv_at hl 1 rfl) ?_
        refine lv_iload_n hx hb dX6_dripping_41 rfl (lv_at hl 2 rfl) ?_
        refine ri_sub hx hb dX6_dripping_42 (fun z42 e42 => ?_)
        refine lv_istore (lv' := [(6, vI z42), (4, vJ z36), (3, vI z2), (0, .ref h0), (1, vI o), (2, vI sg)]) hx hb dX6_dripping_43 hl (by decide) rfl (fun ls hl => ?_)
        refine lv_goto (tgt := 17) hx hb dX6_dripping_45 (by decide) ?_
        exact ih17 z42 z36 k1 (by first | assumption | omega) (by rw [dr_s (by omega)] at ha; rw [← ha, e36, e42, show z34 = 121 * o + i by omega]; omega) (by omega) _ _ hP hD hS ls (lv_sub hl [0, 1, 2, 3, 4, 5] rfl)
  exact L17 _ z14 0 121 (by first | assumption | omega) (by rw [e14]; omega) (Nat.lt_succ_self _) _ _ hP hD hS ls (lv_sub hl [0, 1, 2, 3, 4, 5] rfl)
set_option maxHeartbeats 4000000 in
set_option maxRecDepth 100000 in
theorem k_X6_passNight (l : Launch) (g : va_G) (ca : Nat → ClassId) (h0 : Nat) (h1 : Nat) (b : Int → Int) (n : Int) (lm : Int) (hL : Nat) (hw : Nat) (he : Nat) (hdn : Nat) (hdw : Nat) (w : Int → Int) (ea : Int → Int) (du : Int) (hv : Int) (mo : Int) (oft : Int) (la : Int) (pA : Int) (pB : Int) (hn : 0 ≤ n ∧ n ≤ 119) (hW : GW w) (hE : ∀ o : Int, 0 ≤ o → o ≤ 4 → 1 ≤ ea o ∧ ea o ≤ 200) (hM : 1 ≤ mo ∧ mo ≤ 9) : zJ (S := Int × (Int → Int)) l yX6_passNight wsX6_passNight ({ frames := 2, cells := 0, slots := 0, locals := 49 } : Room) g ca [.ref h0, .ref hL] [(h0, oB 6 [.ref h1, vI n, vJ lm]), (h1, aJ ca 605 b), (hL, oB 2 [.ref hw, .ref he, .ref hdn, .ref hdw, vI du, vI hv, vI mo, vI oft, vI la, vI pA, vI pB]), (hw, aI ca 5 w), (he, aI ca 5 ea)] (fun (z : Int) (u : Int × (Int → Int)) => u.1 = n + 1 ∧ u.2 = (gs w ea mo (n + 1) b 4).1 ∧ z = (gs w ea mo (n + 1) b 4).2) (fun (u : Int × (Int → Int)) => [(h0, oB 6 [.ref h1, vI u.1, vJ lm]), (h1, aJ ca 605 u.2), (hL, oB 2 [.ref hw, .ref he, .ref hdn, .ref hdw, vI du, vI hv, vI mo, vI oft, vI la, vI pA, vI pB]), (hw, aI ca 5 w), (he, aI ca 5 ea)]) 0 0 := by
  refine zm_J (cc := cX6_passNight) (maxL := 7) (ret := some .long) (by decide) rfl (Nat.le_of_ble_eq_true rfl) ?_
  intro p e s m below meth c A ls R args Q hR hargs hQ hx hb hml hr hts hown hlk hnm hK hP hD hA hS hl
  have hown : s.vm.findClass RX6 = some m.cls := hown
  have hl : lv_has ls 7 [(0, .ref h0), (1, .ref hL)] := hl
  have lk_f24 : (Cond.fieldLink RX6 24 "DripRings$Rings" "night" "I").before args s = true := hts _ (by decide +kernel)
  have inF_X6 : ∀ w ∈ wsX60, w ∈ wsX6_passNight := by decide +kernel
  have lk_f44 : (Cond.fieldLink RX6 44 "DripRings$Law" "each" "[I").before args s = true := hts _ (by decide +kernel)
  have inF_X2 : ∀ w ∈ wsX20, w ∈ wsX6_passNight := by decide +kernel
  have lk_f9 : (Cond.fieldLink RX6 9 "DripRings$Rings" "born" "[J").before args s = true := hts _ (by decide +kernel)
  have lk_f52 : (Cond.fieldLink RX6 52 "DripRings$Law" "more" "I").before args s = true := hts _ (by decide +kernel)
  refine lv_aload_n hx hb dX6_passNight_0 rfl (lv_at hl 0 rfl) ?_
  refine va_get (D := g) (ci := 6) (v := vI n) (C := RX6) (T := TX6) (N := 3) hx hb hts inF_X6 hown hK.1 hP 0 rfl rfl 1 (by decide) lk_f24 (fun _ h9 => h9) rfl dX6_passNight_1 ?_
  refine lv_bipush (v := Int32.ofInt 120) hx hb dX6_passNight_4 (by decide) ?_
  refine ri_icmp_lt (tgt := 11) hx hb dX6_passNight_6 (by decide) ⟨by omega, by omega⟩ ⟨by omega, by omega⟩ (fun c6 => ?_) (fun c6 => ?_)
  · skip
    refine lv_aload_n hx hb dX6_passNight_11 rfl (lv_at hl 0 rfl) ?_
    refine lv_dup hx hb dX6_passNight_12 rfl ?_
    refine va_get (D := g) (ci := 6) (v := vI n) (C := RX6) (T := TX6) (N := 3) hx hb hts inF_X6 hown hK.1 hP 0 rfl rfl 1 (by decide) lk_f24 (fun _ h9 => h9) rfl dX6_passNight_13 ?_
    refine lv_iconst (v := Int32.ofInt 1) hx hb dX6_passNight_16 rfl ?_
    refine ri_add hx hb dX6_passNight_17 (fun z17 e17 => ?_)
    refine va_put (D := g) (ci := 6) (v := vI z17) (ty := .int) (C := RX6) (T := TX6) (N := 3) hx hb hts inF_X6 tyX6 tyX6_ok nmX6 hown hK.1 hP hD hS 0 rfl rfl 1 (by decide) lk_f24 (fun _ h9 => h9) rfl (by decide +kernel) rfl rfl (Nat.le_of_ble_eq_true rfl) dX6_passNight_18 (fun H locs hP hD hS => ?_)
    have hP : va_P g vwCl [(h0, oB 6 [.ref h1, vI z17, vJ lm]), (h1, aJ ca 605 b), (hL, oB 2 [.ref hw, .ref he, .ref hdn, .ref hdw, vI du, vI hv, vI mo, vI oft, vI la, vI pA, vI pB]), (hw, aI ca 5 w), (he, aI ca 5 ea)] H := hP
    have hD : va_D A [(h0, oB 6 [.ref h1, vI z17, vJ lm]), (h1, aJ ca 605 b), (hL, oB 2 [.ref hw, .ref he, .ref hdn, .ref hdw, vI du, vI hv, vI mo, vI oft, vI la, vI pA, vI pB]), (hw, aI ca 5 w), (he, aI ca 5 ea)] := hD
    refine lv_lconst (v := Int64.ofInt 0) hx hb dX6_passNight_21 (by decide) ?_
    refine lv_lstore_n (lv' := [(2, vJ 0), (0, .ref h0), (1, .ref hL)]) hx hb dX6_passNight_22 rfl hl (by decide) rfl (fun ls hl => ?_)
    refine lv_iconst (v := Int32.ofInt 0) hx hb dX6_passNight_23 rfl ?_
    refine lv_istore (lv' := [(4, vI 0), (2, vJ 0), (0, .ref h0), (1, .ref hL)]) hx hb dX6_passNight_24 hl (by decide) rfl (fun ls hl => ?_)
    have L26 : ∀ (N26 : Nat) (o : Int) (a : Int) (f : Int → Int) (hi : 0 ≤ o ∧ o ≤ 4) (hf : f = (gs w ea mo (n + 1) b o.toNat).1) (ha : a = (gs w ea mo (n + 1) b o.toNat).2) (hμ : (4 - o).toNat < N26) (H : Heap) (locs : List Loc) (hP : va_P g vwCl [(h0, oB 6 [.ref h1, vI z17, vJ lm]), (h1, aJ ca 605 f), (hL, oB 2 [.ref hw, .ref he, .ref hdn, .ref hdw, vI du, vI hv, vI mo, vI oft, vI la, vI pA, vI pB]), (hw, aI ca 5 w), (he, aI ca 5 ea)] H) (hD : va_D A [(h0, oB 6 [.ref h1, vI z17, vJ lm]), (h1, aJ ca 605 f), (hL, oB 2 [.ref hw, .ref he, .ref hdn, .ref hdw, vI du, vI hv, vI mo, vI oft, vI la, vI pA, vI pB]), (hw, aI ca 5 w), (he, aI ca 5 ea)]) (hS : va_S A s.heap H locs) (ls : Array Slot) (hl : lv_has ls 7 [(4, vI o), (2, vJ a), (0, .ref h0), (1, .ref hL)]), W p l e R s m args below meth c H locs 0 0 Q (F0 m 26 ls []) := by
      intro N26; induction N26 with
      | zero => intro o a f hi hf ha hμ; exact absurd hμ (Nat.not_lt_zero _)
      | succ N26 ih26 =>
        intro o a f hi hf ha hμ H locs hP hD hS ls hl
        refine lv_iload hx hb dX6_passNight_26 (lv_at hl 0 rfl) ?_
        refine lv_iconst (v := Int32.ofInt 4) hx hb dX6_passNight_28 rfl ?_
        refine ri_icmp_ge (tgt := 92) hx hb dX6_passNight_29 (by decide) ⟨by omega, by omega⟩ ⟨by omega, by omega⟩ (fun c29 => ?_) (fun c29 => ?_)
        · skip
          refine lv_lload_n hx hb dX6_passNight_92 rfl (lv_at hl 1 rfl) ?_
          refine zr_J hx hb hr hlk hQ (z17, f) hP hD hS dX6_passNight_93 (Nat.le_of_ble_eq_true rfl) (Nat.le_of_ble_eq_true rfl) ?_
          show z17 = n + 1 ∧ f = (gs w ea mo (n + 1) b 4).1 ∧ a = (gs w ea mo (n + 1) b 4).2
          have ho4 : o = 4 := by omega
          subst ho4
          exact ⟨e17, hf, ha⟩
        · skip
          refine lv_aload_n hx hb dX6_passNight_32 rfl (lv_at hl 3 rfl) ?_
          refine lv_iload hx hb dX6_passNight_33 (lv_at hl 0 rfl) ?_
          refine zc_VI (As := [vI o]) (rest := []) (wc := [(hL, oB 2 [.ref hw, .ref he, .ref hdn, .ref hdw, vI du, vI hv, vI mo, vI oft, vI la, vI pA, vI pB]), (hw, aI ca 5 w)]) (wr := [(h0, oB 6 [.ref h1, vI z17, vJ lm]), (h1, aJ ca 605 f), (he, aI ca 5 ea)]) (k_X2_drips l g ca hL hw he hdn hdw w du hv mo oft la pA pB o (by first | assumption | omega) (by first | assumption | omega)) dX6_passNight_35 (cwV 1 hts gX6_passNight_X2_drips rfl rfl rfl (by decide +kernel) (by rw [hR]; exact ⟨Nat.le_of_ble_eq_true rfl, Nat.le_of_ble_eq_true rfl⟩)) ⟨hx, hb, hml, hown, hts⟩ hl.1 hK hP hD hS hA 2 rfl rfl rfl [2, 3] [0, 1, 4] rfl (by decide) rfl (by decide) (by decide) rfl rfl (Nat.le_of_ble_eq_true rfl) (by rw [hR]; exact ⟨Nat.le_of_ble_eq_true rfl, Nat.le_of_ble_eq_true rfl⟩) (fun z35 u H locs q35 hP hD hS => ?_)
          have q35 : (z35 = 1 ∧ o ≤ 3 ∧ 0 < w (o + 1)) ∨ (z35 = 0 ∧ ¬ (o ≤ 3 ∧ 0 < w (o + 1))) := q35
          have hP : va_P g vwCl [(h0, oB 6 [.ref h1, vI z17, vJ lm]), (h1, aJ ca 605 f), (hL, oB 2 [.ref hw, .ref he, .ref hdn, .ref hdw, vI du, vI hv, vI mo, vI oft, vI la, vI pA, vI pB]), (hw, aI ca 5 w), (he, aI ca 5 ea)] H := hP.sub [0, 1, 3, 4, 2] rfl
          have hD : va_D A [(h0, oB 6 [.ref h1, vI z17, vJ lm]), (h1, aJ ca 605 f), (hL, oB 2 [.ref hw, .ref he, .ref hdn, .ref hdw, vI du, vI hv, vI mo, vI oft, vI la, vI pA, vI pB]), (hw, aI ca 5 w), (he, aI ca 5 ea)] := hD.sub [0, 1, 3, 4, 2] (by decide) rfl
          refine ri_if_eq (tgt := 86) hx hb dX6_passNight_38 (by decide) ⟨by omega, by omega⟩ (fun c38 => ?_) (fun c38 => ?_)
          · skip
            obtain ⟨z86, e86⟩ : ∃ q : Int, q = o + 1 := ⟨_, rfl⟩
            refine ri_inc (lv' := [(4, vI z86), (2, vJ a), (0, .ref h0), (1, .ref hL)]) hx hb dX6_passNight_86 hl (k := 0) rfl (by decide) z86 e86 rfl (fun ls hl => ?_)
            refine lv_goto (tgt := 26) hx hb dX6_passNight_89 (by decide) ?_
            exact ih26 z86 a f (by first | assumption | omega) (by first | (rw [e86, gs_s _ _ _ _ _ (by omega) (by omega)]; show zu f z71 z79 = zu (gs w ea mo (n + 1) b o.toNat).1 (121 * (o + 1) + (n + 1)) (dr (gs w ea mo (n + 1) b o.toNat).1 (121 * o) (ea o) 121 (n + 1 - ea o) * mo); rw [← hf, e79, q51, e17, show z71 = 121 * (o + 1) + (n + 1) by omega]; done) | rw [e86, gs_n _ _ _ _ _ (by omega) (by omega), ← hf]) (by first | (rw [e86, gs_s _ _ _ _ _ (by omega) (by omega), ← hf, ← ha, e84, q51, e17]; done) | rw [e86, gs_n _ _ _ _ _ (by omega) (by omega), ← ha]) (by omega) _ _ hP hD hS ls (lv_sub hl [0, 1, 2, 3] rfl)
          · skip
            refine lv_aload_n hx hb dX6_passNight_41 rfl (lv_at hl 2 rfl) ?_
            refine lv_iload hx hb dX6_passNight_42 (lv_at hl 0 rfl) ?_
            refine lv_aload_n hx hb dX6_passNight_44 rfl (lv_at hl 3 rfl) ?_
            refine va_get (D := g) (ci := 2) (v := .ref he) (C := RX2) (T := TX2) (N := 11) hx hb hts inF_X2 hown hK.1 hP 2 rfl rfl 1 (by decide) lk_f44 (fun _ h9 => h9) rfl dX6_passNight_45 ?_
            refine lv_iload hx hb dX6_passNight_48 (lv_at hl 0 rfl) ?_
            refine ra_ild hx hb hK hP 4 rfl dX6_passNight_50 ⟨by omega, by omega⟩ (by omega) ?_
            have he51 := hE o (by omega) (by omega)
            refine zc_VJ (As := [vI o, vI (ea o)]) (rest := []) (wc := [(h0, oB 6 [.ref h1, vI z17, vJ lm]), (h1, aJ ca 605 f)]) (wr := [(hL, oB 2 [.ref hw, .ref he, .ref hdn, .ref hdw, vI du, vI hv, vI mo, vI oft, vI la, vI pA, vI pB]), (hw, aI ca 5 w), (he, aI ca 5 ea)]) (k_X6_dripping l g ca h0 h1 f z17 lm o (ea o) (by first | assumption | omega) (by first | assumption | omega) (by first | assumption | omega)) dX6_passNight_51 (cwV 2 hts gX6_passNight_X6_dripping rfl rfl rfl (by decide +kernel) (by rw [hR]; exact ⟨Nat.le_of_ble_eq_true rfl, Nat.le_of_ble_eq_true rfl⟩)) ⟨hx, hb, hml, hown, hts⟩ hl.1 hK hP hD hS hA 0 rfl rfl rfl [0, 1] [2, 3, 4] rfl (by decide) rfl (by decide) (by decide) rfl rfl (Nat.le_of_ble_eq_true rfl) (by rw [hR]; exact ⟨Nat.le_of_ble_eq_true rfl, Nat.le_of_ble_eq_true rfl⟩) (fun z51 u H locs q51 hP hD hS => ?_)
            have q51 : z51 = dr f (121 * o) (ea o) 121 (z17 - (ea o)) := q51
            have hP : va_P g vwCl [(h0, oB 6 [.ref h1, vI z17, vJ lm]), (h1, aJ ca 605 f), (hL, oB 2 [.ref hw, .ref he, .ref hdn, .ref hdw, vI du, vI hv, vI mo, vI oft, vI la, vI pA, vI pB]), (hw, aI ca 5 w), (he, aI ca 5 ea)] H := hP.sub [3, 4, 0, 1, 2] rfl
            have hD : va_D A [(h0, oB 6 [.ref h1, vI z17, vJ lm]), (h1, aJ ca 605 f), (hL, oB 2 [.ref hw, .ref he, .ref hdn, .ref hdw, vI du, vI hv, vI mo, vI oft, vI la, vI pA, vI pB]), (hw, aI ca 5 w), (he, aI ca 5 ea)] := hD.sub [3, 4, 0, 1, 2] (by decide) rfl
            refine lv_lstore (lv' := [(5, vJ z51), (4, vI o), (2, vJ a), (0, .ref h0), (1, .ref hL)]) hx hb dX6_passNight_54 hl (by decide) rfl (fun ls hl => ?_)
            refine lv_aload_n hx hb dX6_passNight_56 rfl (lv_at hl 3 rfl) ?_
            refine va_get (D := g) (ci := 6) (v := .ref h1) (C := RX6) (T := TX6) (N := 3) hx hb hts inF_X6 hown hK.1 hP 0 rfl rfl 0 (by decide) lk_f9 (fun _ h9 => h9) rfl dX6_passNight_57 ?_
            refine lv_iload hx hb dX6_passNight_60 (lv_at hl 1 rfl) ?_
            refine lv_iconst (v := Int32.ofInt 1) hx hb dX6_passNight_62 rfl ?_
            refine ri_add hx hb dX6_passNight_63 (fun z63 e63 => ?_)
            refine lv_bipush (v := Int32.ofInt 121) hx hb dX6_passNight_64 (by decide) ?_
            refine ri_mul hx hb dX6_passNight_66 (fun z66 e66 => ?_)
            refine lv_aload_n hx hb dX6_passNight_67 rfl (lv_at hl 3 rfl) ?_
            refine va_get (D := g) (ci := 6) (v := vI z17) (C := RX6) (T := TX6) (N := 3) hx hb hts inF_X6 hown hK.1 hP 0 rfl rfl 1 (by decide) lk_f24 (fun _ h9 => h9) rfl dX6_passNight_68 ?_
            refine ri_add hx hb dX6_passNight_71 (fun z71 e71 => ?_)
            refine lv_lload hx hb dX6_passNight_72 (lv_at hl 0 rfl) ?_
            refine lv_aload_n hx hb dX6_passNight_74 rfl (lv_at hl 4 rfl) ?_
            refine va_get (D := g) (ci := 2) (v := vI mo) (C := RX2) (T := TX2) (N := 11) hx hb hts inF_X2 hown hK.1 hP 2 rfl rfl 6 (by decide) lk_f52 (fun _ h9 => h9) rfl dX6_passNight_75 ?_
            refine ri_l hx hb dX6_passNight_78 ⟨by omega, by omega⟩ ?_
            refine rj_mul hx hb dX6_passNight_79 (fun z79 e79 => ?_)
            refine ra_lst hx hb hK hP hD hS 1 rfl dX6_passNight_80 ⟨by omega, by omega⟩ (by omega) (fun H locs hP hD hS => ?_)
            have hP : va_P g vwCl [(h0, oB 6 [.ref h1, vI z17, vJ lm]), (h1, aJ ca 605 (zu f z71 z79)), (hL, oB 2 [.ref hw, .ref he, .ref hdn, .ref hdw, vI du, vI hv, vI mo, vI oft, vI la, vI pA, vI pB]), (hw, aI ca 5 w), (he, aI ca 5 ea)] H := hP
            have hD : va_D A [(h0, oB 6 [.ref h1, vI z17, vJ lm]), (h1, aJ ca 605 (zu f z71 z79)), (hL, oB 2 [.ref hw, .ref he, .ref hdn, .ref hdw, vI du, vI hv, vI mo, vI oft, vI la, vI pA, vI pB]), (hw, aI ca 5 w), (he, aI ca 5 ea)] := hD
            refine lv_lload_n hx hb dX6_passNight_81 rfl (lv_at hl 2 rfl) ?_
            refine lv_lload hx hb dX6_passNight_82 (lv_at hl 0 rfl) ?_
            refine rj_add hx hb dX6_passNight_84 (fun z84 e84 => ?_)
            refine lv_lstore_n (lv' := [(2, vJ z84), (5, vJ z51), (4, vI o), (0, .ref h0), (1, .ref hL)]) hx hb dX6_passNight_85 rfl hl (by decide) rfl (fun ls hl => ?_)
            obtain ⟨z86, e86⟩ : ∃ q : Int, q = o + 1 := ⟨_, rfl⟩
            refine ri_inc (lv' := [(4, vI z86), (2, vJ z84), (5, vJ z51), (0, .ref h0), (1, .ref hL)]) hx hb dX6_passNight_86 hl (k := 2) rfl (by decide) z86 e86 rfl (fun ls hl => ?_)
            refine lv_goto (tgt := 26) hx hb dX6_passNight_89 (by decide) ?_
            exact ih26 z86 z84 (zu f z71 z79) (by first | assumption | omega) (by first | (rw [e86, gs_s _ _ _ _ _ (by omega) (by omega)]; show zu f z71 z79 = zu (gs w ea mo (n + 1) b o.toNat).1 (121 * (o + 1) + (n + 1)) (dr (gs w ea mo (n + 1) b o.toNat).1 (121 * o) (ea o) 121 (n + 1 - ea o) * mo); rw [← hf, e79, q51, e17, show z71 = 121 * (o + 1) + (n + 1) by omega]; done) | rw [e86, gs_n _ _ _ _ _ (by omega) (by omega), ← hf]) (by first | (rw [e86, gs_s _ _ _ _ _ (by omega) (by omega), ← hf, ← ha, e84, q51, e17]; done) | rw [e86, gs_n _ _ _ _ _ (by omega) (by omega), ← ha]) (by omega) _ _ hP hD hS ls (lv_sub hl [0, 1, 3, 4] rfl)
    exact L26 _ 0 0 b (by first | assumption | omega) (by rfl) (by rfl) (Nat.lt_succ_self _) _ _ hP hD hS ls (lv_sub hl [0, 1, 2, 3] rfl)
  · exfalso; omega
set_option maxHeartbeats 4000000 in
set_option maxRecDepth 100000 in
theorem k_X6_passTo (l : Launch) (g : va_G) (ca : Nat → ClassId) (h0 : Nat) (h1 : Nat) (b : Int → Int) (n : Int) (lm : Int) (hL : Nat) (hw : Nat) (he : Nat) (hdn : Nat) (hdw : Nat) (w : Int → Int) (ea : Int → Int) (du : Int) (hv : Int) (mo : Int) (oft : Int) (la : Int) (pA : Int) (pB : Int) (t : Int) (hn : 0 ≤ n ∧ n ≤ 120) (ht : 0 ≤ t ∧ t ≤ 120) (hW : GW w) (hE : ∀ o : Int, 0 ≤ o → o ≤ 4 → 1 ≤ ea o ∧ ea o ≤ 200) (hM : 1 ≤ mo ∧ mo ≤ 9) : zV (S := Int × (Int → Int)) l yX6_passTo wsX6_passTo ({ frames := 3, cells := 0, slots := 0, locals := 75 } : Room) g ca [.ref h0, vI t, .ref hL] [(h0, oB 6 [.ref h1, vI n, vJ lm]), (h1, aJ ca 605 b), (hL, oB 2 [.ref hw, .ref he, .ref hdn, .ref hdw, vI du, vI hv, vI mo, vI oft, vI la, vI pA, vI pB]), (hw, aI ca 5 w), (he, aI ca 5 ea)] (fun (u : Int × (Int → Int)) => u.1 = (if n < t then t else n) ∧ u.2 = gt w ea mo n b (t - n).toNat) (fun (u : Int × (Int → Int)) => [(h0, oB 6 [.ref h1, vI u.1, vJ lm]), (h1, aJ ca 605 u.2), (hL, oB 2 [.ref hw, .ref he, .ref hdn, .ref hdw, vI du, vI hv, vI mo, vI oft, vI la, vI pA, vI pB]), (hw, aI ca 5 w), (he, aI ca 5 ea)]) 0 0 := by
  refine zm_V (cc := cX6_passTo) (maxL := 4) (ret := none) (by decide) rfl (Nat.le_of_ble_eq_true rfl) ?_
  intro p e s m below meth c A ls R args Q hR hargs hQ hx hb hml hr hts hown hlk hnm hK hP hD hA hS hl
  have hown : s.vm.findClass RX6 = some m.cls := hown
  have hl : lv_has ls 4 [(0, .ref h0), (1, vI t), (2, .ref hL)] := hl
  have lk_f24 : (Cond.fieldLink RX6 24 "DripRings$Rings" "night" "I").before args s = true := hts _ (by decide +kernel)
  have inF_X6 : ∀ w ∈ wsX60, w ∈ wsX6_passTo := by decide +kernel
  refine lv_aload_n hx hb dX6_passTo_0 rfl (lv_at hl 0 rfl) ?_
  refine va_get (D := g) (ci := 6) (v := vI n) (C := RX6) (T := TX6) (N := 3) hx hb hts inF_X6 hown hK.1 hP 0 rfl rfl 1 (by decide) lk_f24 (fun _ h9 => h9) rfl dX6_passTo_1 ?_
  refine lv_istore_n (lv' := [(3, vI n), (0, .ref h0), (1, vI t), (2, .ref hL)]) hx hb dX6_passTo_4 rfl hl (by decide) rfl (fun ls hl => ?_)
  have L5 : ∀ (N5 : Nat) (i : Int) (f : Int → Int) (hi : n ≤ i ∧ (i ≤ t ∨ i = n)) (hf : f = gt w ea mo n b (i - n).toNat) (hμ : (t - i).toNat < N5) (H : Heap) (locs : List Loc) (hP : va_P g vwCl [(h0, oB 6 [.ref h1, vI i, vJ lm]), (h1, aJ ca 605 f), (hL, oB 2 [.ref hw, .ref he, .ref hdn, .ref hdw, vI du, vI hv, vI mo, vI oft, vI la, vI pA, vI pB]), (hw, aI ca 5 w), (he, aI ca 5 ea)] H) (hD : va_D A [(h0, oB 6 [.ref h1, vI i, vJ lm]), (h1, aJ ca 605 f), (hL, oB 2 [.ref hw, .ref he, .ref hdn, .ref hdw, vI du, vI hv, vI mo, vI oft, vI la, vI pA, vI pB]), (hw, aI ca 5 w), (he, aI ca 5 ea)]) (hS : va_S A s.heap H locs) (ls : Array Slot) (hl : lv_has ls 4 [(3, vI i), (0, .ref h0), (1, vI t), (2, .ref hL)]), W p l e R s m args below meth c H locs 0 0 Q (F0 m 5 ls []) := by
    intro N5; induction N5 with
    | zero => intro i f hi hf hμ; exact absurd hμ (Nat.not_lt_zero _)
    | succ N5 ih5 =>
      intro i f hi hf hμ H locs hP hD hS ls hl
      refine lv_iload_n hx hb dX6_passTo_5 rfl (lv_at hl 0 rfl) ?_
      refine lv_iload_n hx hb dX6_passTo_6 rfl (lv_at hl 2 rfl) ?_
      refine ri_icmp_ge (tgt := 22) hx hb dX6_passTo_7 (by decide) ⟨by omega, by omega⟩ ⟨by omega, by omega⟩ (fun c7 => ?_) (fun c7 => ?_)
      · skip
        refine zr_V hx hb hr hlk hQ (i, f) hP hD hS dX6_passTo_22 (Nat.le_of_ble_eq_true rfl) (Nat.le_of_ble_eq_true rfl) ?_
        show i = (if n < t then t else n) ∧ f = gt w ea mo n b (t - n).toNat
        refine ⟨?_, ?_⟩
        · split <;> omega
        · rw [hf]; congr 1; omega
      · skip
        refine lv_aload_n hx hb dX6_passTo_10 rfl (lv_at hl 1 rfl) ?_
        refine lv_aload_n hx hb dX6_passTo_11 rfl (lv_at hl 3 rfl) ?_
        refine zc_VJ (As := [.ref hL]) (rest := []) (wc := [(h0, oB 6 [.ref h1, vI i, vJ lm]), (h1, aJ ca 605 f), (hL, oB 2 [.ref hw, .ref he, .ref hdn, .ref hdw, vI du, vI hv, vI mo, vI oft, vI la, vI pA, vI pB]), (hw, aI ca 5 w), (he, aI ca 5 ea)]) (wr := []) (k_X6_passNight l g ca h0 h1 f i lm hL hw he hdn hdw w ea du hv mo oft la pA pB (by first | assumption | omega) (by first | assumption | omega) (by first | assumption | omega) (by first | assumption | omega)) dX6_passTo_12 (cwV 1 hts gX6_passTo_X6_passNight rfl rfl rfl (by decide +kernel) (by rw [hR]; exact ⟨Nat.le_of_ble_eq_true rfl, Nat.le_of_ble_eq_true rfl⟩)) ⟨hx, hb, hml, hown, hts⟩ hl.1 hK hP hD hS hA 0 rfl rfl rfl [0, 1, 2, 3, 4] [] rfl (by decide) rfl (by decide) (by decide) rfl rfl (Nat.le_of_ble_eq_true rfl) (by rw [hR]; exact ⟨Nat.le_of_ble_eq_true rfl, Nat.le_of_ble_eq_true rfl⟩) (fun z12 u H locs q12 hP hD hS => ?_)
        obtain ⟨n1_12, b1_12⟩ := u
        have q12 : n1_12 = i + 1 ∧ b1_12 = (gs w ea mo (i + 1) f 4).1 ∧ z12 = (gs w ea mo (i + 1) f 4).2 := q12
        obtain ⟨q12_0, q12_1, q12_2⟩ := q12
        have hP : va_P g vwCl [(h0, oB 6 [.ref h1, vI n1_12, vJ lm]), (h1, aJ ca 605 b1_12), (hL, oB 2 [.ref hw, .ref he, .ref hdn, .ref hdw, vI du, vI hv, vI mo, vI oft, vI la, vI pA, vI pB]), (hw, aI ca 5 w), (he, aI ca 5 ea)] H := hP.sub [0, 1, 2, 3, 4] rfl
        have hD : va_D A [(h0, oB 6 [.ref h1, vI n1_12, vJ lm]), (h1, aJ ca 605 b1_12), (hL, oB 2 [.ref hw, .ref he, .ref hdn, .ref hdw, vI du, vI hv, vI mo, vI oft, vI la, vI pA, vI pB]), (hw, aI ca 5 w), (he, aI ca 5 ea)] := hD.sub [0, 1, 2, 3, 4] (by decide) rfl
        refine lv_pop2_2 hx hb dX6_passTo_15 rfl ?_
        obtain ⟨z16, e16⟩ : ∃ q : Int, q = i + 1 := ⟨_, rfl⟩
        refine ri_inc (lv' := [(3, vI z16), (0, .ref h0), (1, vI t), (2, .ref hL)]) hx hb dX6_passTo_16 hl (k := 0) rfl (by decide) z16 e16 rfl (fun ls hl => ?_)
        refine lv_goto (tgt := 5) hx hb dX6_passTo_19 (by decide) ?_
        have e16b : z16 = n1_12 := by omega
        subst e16b
        exact ih5 z16 b1_12 (by first | assumption | omega) (by rw [e16, show i + 1 - n = (i - n) + 1 by omega, gt_s _ _ _ _ _ (by omega), ← hf, q12_1, show n + (i - n) + 1 = i + 1 by omega]) (by omega) _ _ hP hD hS ls (lv_sub hl [0, 1, 2, 3] rfl)
  exact L5 _ n b (by first | assumption | omega) (by rw [show n - n = 0 by omega]; rfl) (Nat.lt_succ_self _) _ _ hP hD hS ls (lv_sub hl [0, 1, 2, 3] rfl)
set_option maxHeartbeats 4000000 in
set_option maxRecDepth 100000 in
theorem k_X6_greatestAge (l : Launch) (g : va_G) (ca : Nat → ClassId) (h0 : Nat) (h1 : Nat) (b : Int → Int) (n : Int) (lm : Int) (o : Int) (hB : GB b n) (ho : 0 ≤ o ∧ o ≤ 4) : zI (S := Unit) l yX6_greatestAge wsX6_greatestAge ({ frames := 0, cells := 0, slots := 0, locals := 0 } : Room) g ca [.ref h0, vI o] [(h0, oB 6 [.ref h1, vI n, vJ lm]), (h1, aJ ca 605 b)] (fun (z : Int) (u : Unit) => z = og b (121 * o) n 121 0) (fun (u : Unit) => [(h0, oB 6 [.ref h1, vI n, vJ lm]), (h1, aJ ca 605 b)]) 0 0 := by
  refine zm_I (cc := cX6_greatestAge) (maxL := 3) (ret := some .int) (by decide) rfl (Nat.le_of_ble_eq_true rfl) ?_
  intro p e s m below meth c A ls R args Q hR hargs hQ hx hb hml hr hts hown hlk hnm hK hP hD hA hS hl
  have hown : s.vm.findClass RX6 = some m.cls := hown
  have hl : lv_has ls 3 [(0, .ref h0), (1, vI o)] := hl
  have lk_f24 : (Cond.fieldLink RX6 24 "DripRings$Rings" "night" "I").before args s = true := hts _ (by decide +kernel)
  have inF_X6 : ∀ w ∈ wsX60, w ∈ wsX6_greatestAge := by decide +kernel
  have lk_f9 : (Cond.fieldLink RX6 9 "DripRings$Rings" "born" "[J").before args s = true := hts _ (by decide +kernel)
  have hn := hB.1
  refine lv_iconst (v := Int32.ofInt 0) hx hb dX6_greatestAge_0 rfl ?_
  refine lv_istore_n (lv' := [(2, vI 0), (0, .ref h0), (1, vI o)]) hx hb dX6_greatestAge_1 rfl hl (by decide) rfl (fun ls hl => ?_)
  have L2 : ∀ (N2 : Nat) (i : Int) (k : Nat) (hi : 0 ≤ i ∧ i ≤ n + 1 ∧ i + k = n + 1) (ha : og b (121 * o) n k i = og b (121 * o) n (n + 1).toNat 0) (hμ : k < N2) (H : Heap) (locs : List Loc) (hP : va_P g vwCl [(h0, oB 6 [.ref h1, vI n, vJ lm]), (h1, aJ ca 605 b)] H) (hD : va_D A [(h0, oB 6 [.ref h1, vI n, vJ lm]), (h1, aJ ca 605 b)]) (hS : va_S A s.heap H locs) (ls : Array Slot) (hl : lv_has ls 3 [(2, vI i), (0, .ref h0), (1, vI o)]), W p l e R s m args below meth c H locs 0 0 Q (F0 m 2 ls []) := by
    intro N2; induction N2 with
    | zero => intro i k hi ha hμ; exact absurd hμ (Nat.not_lt_zero _)
    | succ N2 ih2 =>
      intro i k hi ha hμ H locs hP hD hS ls hl
      refine lv_iload_n hx hb dX6_greatestAge_2 rfl (lv_at hl 0 rfl) ?_
      refine lv_aload_n hx hb dX6_greatestAge_3 rfl (lv_at hl 1 rfl) ?_
      refine va_get (D := g) (ci := 6) (v := vI n) (C := RX6) (T := TX6) (N := 3) hx hb hts inF_X6 hown hK.1 hP 0 rfl rfl 1 (by decide) lk_f24 (fun _ h9 => h9) rfl dX6_greatestAge_4 ?_
      refine ri_icmp_gt (tgt := 39) hx hb dX6_greatestAge_7 (by decide) ⟨by omega, by omega⟩ ⟨by omega, by omega⟩ (fun c7 => ?_) (fun c7 => ?_)
      · skip
        refine lv_bipush (v := Int32.ofInt (-9)) hx hb dX6_greatestAge_39 (by decide) ?_
        refine zr_I hx hb hr hlk hQ () hP hD hS dX6_greatestAge_41 (Nat.le_of_ble_eq_true rfl) (Nat.le_of_ble_eq_true rfl) ?_
        show (-9) = og b (121 * o) n 121 0
        have h9 := og_more (b := b) (a := 121 * o) (n := n) (121 - (n + 1).toNat) (n + 1).toNat 0 (fun j h1 h2 => hB.2.2 o j (by omega) (by omega) (by omega) (by omega))
        rw [show (n + 1).toNat + (121 - (n + 1).toNat) = 121 by omega] at h9
        rw [h9, ← ha, show k = 0 by omega]; rfl
      · skip
        obtain ⟨k1, rfl⟩ : ∃ q, k = q + 1 := ⟨k - 1, by omega⟩
        refine lv_aload_n hx hb dX6_greatestAge_10 rfl (lv_at hl 1 rfl) ?_
        refine va_get (D := g) (ci := 6) (v := .ref h1) (C := RX6) (T := TX6) (N := 3) hx hb hts inF_X6 hown hK.1 hP 0 rfl rfl 0 (by decide) lk_f9 (fun _ h9 => h9) rfl dX6_greatestAge_11 ?_
        refine lv_iload_n hx hb dX6_greatestAge_14 rfl (lv_at hl 2 rfl) ?_
        refine lv_bipush (v := Int32.ofInt 121) hx hb dX6_greatestAge_15 (by decide) ?_
        refine ri_mul hx hb dX6_greatestAge_17 (fun z17 e17 => ?_)
        refine lv_iload_n hx hb dX6_greatestAge_18 rfl (lv_at hl 0 rfl) ?_
        refine ri_add hx hb dX6_greatestAge_19 (fun z19 e19 => ?_)
        have hb20 := hB.2.1 o i (by omega) (by omega) (by omega) (by omega)
        have hb21 := Bd_bd o
        rw [show 121 * o + i = z19 by omega] at hb20
        refine ra_lld hx hb hK hP 1 rfl dX6_greatestAge_20 ⟨by omega, by omega⟩ (by omega) ?_
        refine lv_lconst (v := Int64.ofInt 0) hx hb dX6_greatestAge_21 (by decide) ?_
        refine rj_cmp hx hb dX6_greatestAge_22 ⟨by omega, by omega⟩ ⟨by omega, by omega⟩ (fun z22 e22 => ?_)
        refine ri_if_le (tgt := 33) hx hb dX6_greatestAge_23 (by decide) ⟨by omega, by omega⟩ (fun c23 => ?_) (fun c23 => ?_)
        · skip
          have c23 : (b z19) ≤ 0 := by omega
          clear e22
          obtain ⟨z33, e33⟩ : ∃ q : Int, q = i + 1 := ⟨_, rfl⟩
          refine ri_inc (lv' := [(2, vI z33), (0, .ref h0), (1, vI o)]) hx hb dX6_greatestAge_33 hl (k := 0) rfl (by decide) z33 e33 rfl (fun ls hl => ?_)
          refine lv_goto (tgt := 2) hx hb dX6_greatestAge_36 (by decide) ?_
          exact ih2 z33 k1 (by first | assumption | omega) (by rw [← ha, og_n (by rw [show 121 * o + i = z19 by omega]; omega), e33]) (by omega) _ _ hP hD hS ls (lv_sub hl [0, 1, 2] rfl)
        · skip
          have c23 : 0 < (b z19) := by omega
          clear e22
          refine lv_aload_n hx hb dX6_greatestAge_26 rfl (lv_at hl 1 rfl) ?_
          refine va_get (D := g) (ci := 6) (v := vI n) (C := RX6) (T := TX6) (N := 3) hx hb hts inF_X6 hown hK.1 hP 0 rfl rfl 1 (by decide) lk_f24 (fun _ h9 => h9) rfl dX6_greatestAge_27 ?_
          refine lv_iload_n hx hb dX6_greatestAge_30 rfl (lv_at hl 0 rfl) ?_
          refine ri_sub hx hb dX6_greatestAge_31 (fun z31 e31 => ?_)
          refine zr_I hx hb hr hlk hQ () hP hD hS dX6_greatestAge_32 (Nat.le_of_ble_eq_true rfl) (Nat.le_of_ble_eq_true rfl) ?_
          show z31 = og b (121 * o) n 121 0
          rw [og_p (by rw [show 121 * o + i = z19 by omega]; omega)] at ha
          rw [e31, ha]
          have h9 := og_more (b := b) (a := 121 * o) (n := n) (121 - (n + 1).toNat) (n + 1).toNat 0 (fun j h1 h2 => hB.2.2 o j (by omega) (by omega) (by omega) (by omega))
          rw [← h9]; congr 1; omega
  exact L2 _ 0 ((n + 1).toNat) (by first | assumption | omega) (by rfl) (Nat.lt_succ_self _) _ _ hP hD hS ls (lv_sub hl [0, 1, 2] rfl)
set_option maxHeartbeats 4000000 in
set_option maxRecDepth 100000 in
theorem k_X6_takeAll (l : Launch) (g : va_G) (ca : Nat → ClassId) (h0 : Nat) (h1 : Nat) (b : Int → Int) (n : Int) (lm : Int) (o : Int) (ho : 0 ≤ o ∧ o ≤ 4) : zV (S := Unit) l yX6_takeAll wsX6_takeAll ({ frames := 2, cells := 0, slots := 0, locals := 47 } : Room) g ca [.ref h0, vI o] [(h0, oB 6 [.ref h1, vI n, vJ lm]), (h1, aJ ca 605 b)] (fun (u : Unit) => True) (fun (u : Unit) => [(h0, oB 6 [.ref h1, vI n, vJ lm]), (h1, aJ ca 605 (fun j => if 121 * o ≤ j ∧ j < 121 * o + 121 then 0 else b j))]) 0 0 := by
  refine zm_V (cc := cX6_takeAll) (maxL := 2) (ret := none) (by decide) rfl (Nat.le_of_ble_eq_true rfl) ?_
  intro p e s m below meth c A ls R args Q hR hargs hQ hx hb hml hr hts hown hlk hnm hK hP hD hA hS hl
  have hown : s.vm.findClass RX6 = some m.cls := hown
  have hl : lv_has ls 2 [(0, .ref h0), (1, vI o)] := hl
  have lk_f9 : (Cond.fieldLink RX6 9 "DripRings$Rings" "born" "[J").before args s = true := hts _ (by decide +kernel)
  have inF_X6 : ∀ w ∈ wsX60, w ∈ wsX6_takeAll := by decide +kernel
  refine lv_aload_n hx hb dX6_takeAll_0 rfl (lv_at hl 0 rfl) ?_
  refine va_get (D := g) (ci := 6) (v := .ref h1) (C := RX6) (T := TX6) (N := 3) hx hb hts inF_X6 hown hK.1 hP 0 rfl rfl 0 (by decide) lk_f9 (fun _ h9 => h9) rfl dX6_takeAll_1 ?_
  refine lv_iload_n hx hb dX6_takeAll_4 rfl (lv_at hl 1 rfl) ?_
  refine lv_bipush (v := Int32.ofInt 121) hx hb dX6_takeAll_5 (by decide) ?_
  refine ri_mul hx hb dX6_takeAll_7 (fun z7 e7 => ?_)
  refine lv_iload_n hx hb dX6_takeAll_8 rfl (lv_at hl 1 rfl) ?_
  refine lv_iconst (v := Int32.ofInt 1) hx hb dX6_takeAll_9 rfl ?_
  refine ri_add hx hb dX6_takeAll_10 (fun z10 e10 => ?_)
  refine lv_bipush (v := Int32.ofInt 121) hx hb dX6_takeAll_11 (by decide) ?_
  refine ri_mul hx hb dX6_takeAll_13 (fun z13 e13 => ?_)
  refine lv_lconst (v := Int64.ofInt 0) hx hb dX6_takeAll_14 (by decide) ?_
  refine zc_SV (As := [.ref h1, vI z7, vI z13, vJ 0]) (rest := []) (wc := [(h1, aJ ca 605 b)]) (wr := [(h0, oB 6 [.ref h1, vI n, vJ lm])]) (k_J7_fill_bad5a l g ca h1 b z7 z13 0 (by first | assumption | omega)) dX6_takeAll_15 (va_cwS 4 hts gX6_takeAll_J7_fill_bad5a rfl rfl rfl (by decide +kernel) (by rw [hR]; exact ⟨Nat.le_of_ble_eq_true rfl, Nat.le_of_ble_eq_true rfl⟩)) ⟨hx, hb, hml, hown, hts⟩ hl.1 hK hP hD hS hA [1] [0] rfl (by decide) rfl (by decide) (by decide) rfl rfl (Nat.le_of_ble_eq_true rfl) (by rw [hR]; exact ⟨Nat.le_of_ble_eq_true rfl, Nat.le_of_ble_eq_true rfl⟩) (fun u H locs q15 hP hD hS => ?_)
  have hP : va_P g vwCl [(h0, oB 6 [.ref h1, vI n, vJ lm]), (h1, aJ ca 605 (fun j => if z7 ≤ j ∧ j < z13 then 0 else b j))] H := hP.sub [0, 1] rfl
  have hD : va_D A [(h0, oB 6 [.ref h1, vI n, vJ lm]), (h1, aJ ca 605 (fun j => if z7 ≤ j ∧ j < z13 then 0 else b j))] := hD.sub [0, 1] (by decide) rfl
  have hP := za_extJ hP 1 rfl (fun j => if 121 * o ≤ j ∧ j < 121 * o + 121 then 0 else b j) (fun j hj0 hj1 => (by rw [show z7 = 121 * o by omega, show z13 = 121 * o + 121 by omega]))
  have hD := hD.set (e := aJ ca 605 (fun j => if 121 * o ≤ j ∧ j < 121 * o + 121 then 0 else b j)) (show ([(h0, oB 6 [.ref h1, vI n, vJ lm]), (h1, aJ ca 605 (fun j => if z7 ≤ j ∧ j < z13 then 0 else b j))] : va_W)[1]? = some _ from rfl)
  have hP : va_P g vwCl [(h0, oB 6 [.ref h1, vI n, vJ lm]), (h1, aJ ca 605 (fun j => if 121 * o ≤ j ∧ j < 121 * o + 121 then 0 else b j))] H := hP
  have hD : va_D A [(h0, oB 6 [.ref h1, vI n, vJ lm]), (h1, aJ ca 605 (fun j => if 121 * o ≤ j ∧ j < 121 * o + 121 then 0 else b j))] := hD
  refine zr_V hx hb hr hlk hQ () hP hD hS dX6_takeAll_18 (Nat.le_of_ble_eq_true rfl) (Nat.le_of_ble_eq_true rfl) ?_
  show True
  trivial
set_option maxHeartbeats 4000000 in
set_option maxRecDepth 100000 in
theorem k_X6_takeOldest (l : Launch) (g : va_G) (ca : Nat → ClassId) (h0 : Nat) (h1 : Nat) (b : Int → Int) (n : Int) (lm : Int) (o : Int) (q : Int) (hB : GB b n) (ho : 0 ≤ o ∧ o ≤ 4) (hq : 0 ≤ q ∧ q ≤ 1000000000000000) : zV (S := Unit) l yX6_takeOldest wsX6_takeOldest ({ frames := 1, cells := 0, slots := 0, locals := 23 } : Room) g ca [.ref h0, vI o, vJ q] [(h0, oB 6 [.ref h1, vI n, vJ lm]), (h1, aJ ca 605 b)] (fun (u : Unit) => True) (fun (u : Unit) => [(h0, oB 6 [.ref h1, vI n, vJ lm]), (h1, aJ ca 605 (tk b (121 * o) q))]) 0 0 := by
  refine zm_V (cc := cX6_takeOldest) (maxL := 9) (ret := none) (by decide) rfl (Nat.le_of_ble_eq_true rfl) ?_
  intro p e s m below meth c A ls R args Q hR hargs hQ hx hb hml hr hts hown hlk hnm hK hP hD hA hS hl
  have hown : s.vm.findClass RX6 = some m.cls := hown
  have hl : lv_has ls 9 [(0, .ref h0), (1, vI o), (2, vJ q)] := hl
  have lk_f24 : (Cond.fieldLink RX6 24 "DripRings$Rings" "night" "I").before args s = true := hts _ (by decide +kernel)
  have inF_X6 : ∀ w ∈ wsX60, w ∈ wsX6_takeOldest := by decide +kernel
  have lk_f9 : (Cond.fieldLink RX6 9 "DripRings$Rings" "born" "[J").before args s = true := hts _ (by decide +kernel)
  have lk_jmin75 : (Cond.methodLink RX6 75 Lib.MathLoose.min_long.x).before args s = true := hts _ (by decide +kernel)
  have lk_jmins : (Cond.static Lib.MathLoose.min_long.x).before args s = true := hts _ (by decide +kernel)
  have lk_mathz : (Cond.initialized "java/lang/Math").before args s = true := hts _ (by decide +kernel)
  have lk_jminc : (Cond.code Lib.MathLoose.min_long.x Lib.MathLoose.min_long.code 4 (some .long)).before args s = true := hts _ (by decide +kernel)
  have hn := hB.1
  refine lv_lload_n hx hb dX6_takeOldest_0 rfl (lv_at hl 2 rfl) ?_
  refine lv_lstore (lv' := [(4, vJ q), (0, .ref h0), (1, vI o), (2, vJ q)]) hx hb dX6_takeOldest_1 hl (by decide) rfl (fun ls hl => ?_)
  refine lv_iconst (v := Int32.ofInt 0) hx hb dX6_takeOldest_3 rfl ?_
  refine lv_istore (lv' := [(6, vI 0), (4, vJ q), (0, .ref h0), (1, vI o), (2, vJ q)]) hx hb dX6_takeOldest_4 hl (by decide) rfl (fun ls hl => ?_)
  have L6 : ∀ (N6 : Nat) (i : Int) (rs : Int) (f : Int → Int) (hi : 0 ≤ i ∧ i ≤ n + 1) (hrs : rs = max 0 (q - sm b (121 * o) i.toNat)) (hf : ∀ j : Int, f j = if 121 * o ≤ j ∧ j < 121 * o + i then tk b (121 * o) q j else b j) (hμ : (n + 1 - i).toNat < N6) (H : Heap) (locs : List Loc) (hP : va_P g vwCl [(h0, oB 6 [.ref h1, vI n, vJ lm]), (h1, aJ ca 605 f)] H) (hD : va_D A [(h0, oB 6 [.ref h1, vI n, vJ lm]), (h1, aJ ca 605 f)]) (hS : va_S A s.heap H locs) (ls : Array Slot) (hl : lv_has ls 9 [(6, vI i), (4, vJ rs), (0, .ref h0), (1, vI o), (2, vJ q)]), W p l e R s m args below meth c H locs 0 0 Q (F0 m 6 ls []) := by
    intro N6; induction N6 with
    | zero => intro i rs f hi hrs hf hμ; exact absurd hμ (Nat.not_lt_zero _)
    | succ N6 ih6 =>
      intro i rs f hi hrs hf hμ H locs hP hD hS ls hl
      refine lv_iload hx hb dX6_takeOldest_6 (lv_at hl 0 rfl) ?_
      refine lv_aload_n hx hb dX6_takeOldest_8 rfl (lv_at hl 2 rfl) ?_
      refine va_get (D := g) (ci := 6) (v := vI n) (C := RX6) (T := TX6) (N := 3) hx hb hts inF_X6 hown hK.1 hP 0 rfl rfl 1 (by decide) lk_f24 (fun _ h9 => h9) rfl dX6_takeOldest_9 ?_
      refine ri_icmp_gt (tgt := 71) hx hb dX6_takeOldest_12 (by decide) ⟨by omega, by omega⟩ ⟨by omega, by omega⟩ (fun c12 => ?_) (fun c12 => ?_)
      · skip
        have hP := za_extJ hP 1 rfl (tk b (121 * o) q) (fun j hj0 hj1 => (by exact takeEnd hB ho hq hi hrs hf (by omega) j))
        have hD := hD.set (e := aJ ca 605 (tk b (121 * o) q)) (show ([(h0, oB 6 [.ref h1, vI n, vJ lm]), (h1, aJ ca 605 f)] : va_W)[1]? = some _ from rfl)
        have hP : va_P g vwCl [(h0, oB 6 [.ref h1, vI n, vJ lm]), (h1, aJ ca 605 (tk b (121 * o) q))] H := hP
        have hD : va_D A [(h0, oB 6 [.ref h1, vI n, vJ lm]), (h1, aJ ca 605 (tk b (121 * o) q))] := hD
        refine zr_V hx hb hr hlk hQ () hP hD hS dX6_takeOldest_71 (Nat.le_of_ble_eq_true rfl) (Nat.le_of_ble_eq_true rfl) ?_
        show True
        trivial
      · skip
        refine lv_lload hx hb dX6_takeOldest_15 (lv_at hl 1 rfl) ?_
        have hsm := sm_bd (f := b) (a := 121 * o) (M := 1406408618241) (k := i.toNat) (fun j h1 h2 => by
          have h3 := hB.2.1 o j (by omega) (by omega) h1 (by omega)
          have h5 := (Bd_bd o).2
          omega)
        have hrs1 : 0 ≤ rs ∧ rs ≤ 1000000000000000 := by omega
        refine lv_lconst (v := Int64.ofInt 0) hx hb dX6_takeOldest_17 (by decide) ?_
        refine rj_cmp hx hb dX6_takeOldest_18 ⟨by omega, by omega⟩ ⟨by omega, by omega⟩ (fun z18 e18 => ?_)
        refine ri_if_le (tgt := 71) hx hb dX6_takeOldest_19 (by decide) ⟨by omega, by omega⟩ (fun c19 => ?_) (fun c19 => ?_)
        · skip
          have c19 : rs ≤ 0 := by omega
          clear e18
          have hP := za_extJ hP 1 rfl (tk b (121 * o) q) (fun j hj0 hj1 => (by exact takeEnd hB ho hq hi hrs hf (by omega) j))
          have hD := hD.set (e := aJ ca 605 (tk b (121 * o) q)) (show ([(h0, oB 6 [.ref h1, vI n, vJ lm]), (h1, aJ ca 605 f)] : va_W)[1]? = some _ from rfl)
          have hP : va_P g vwCl [(h0, oB 6 [.ref h1, vI n, vJ lm]), (h1, aJ ca 605 (tk b (121 * o) q))] H := hP
          have hD : va_D A [(h0, oB 6 [.ref h1, vI n, vJ lm]), (h1, aJ ca 605 (tk b (121 * o) q))] := hD
          refine zr_V hx hb hr hlk hQ () hP hD hS dX6_takeOldest_71 (Nat.le_of_ble_eq_true rfl) (Nat.le_of_ble_eq_true rfl) ?_
          show True
          trivial
        · skip
          have c19 : 0 < rs := by omega
          clear e18
          refine lv_lload hx hb dX6_takeOldest_22 (lv_at hl 1 rfl) ?_
          refine lv_aload_n hx hb dX6_takeOldest_24 rfl (lv_at hl 2 rfl) ?_
          refine va_get (D := g) (ci := 6) (v := .ref h1) (C := RX6) (T := TX6) (N := 3) hx hb hts inF_X6 hown hK.1 hP 0 rfl rfl 0 (by decide) lk_f9 (fun _ h9 => h9) rfl dX6_takeOldest_25 ?_
          refine lv_iload_n hx hb dX6_takeOldest_28 rfl (lv_at hl 3 rfl) ?_
          refine lv_bipush (v := Int32.ofInt 121) hx hb dX6_takeOldest_29 (by decide) ?_
          refine ri_mul hx hb dX6_takeOldest_31 (fun z31 e31 => ?_)
          refine lv_iload hx hb dX6_takeOldest_32 (lv_at hl 0 rfl) ?_
          refine ri_add hx hb dX6_takeOldest_34 (fun z34 e34 => ?_)
          refine ra_lld hx hb hK hP 1 rfl dX6_takeOldest_35 ⟨by omega, by omega⟩ (by omega) ?_
          have hb36 := hB.2.1 o i (by omega) (by omega) (by omega) (by omega)
          have hb37 := Bd_bd o
          have hf36 : f z34 = b (121 * o + i) := by rw [show z34 = 121 * o + i by omega, hf, if_neg (by omega)]
          refine rj_min hx hb (by rw [hml]; exact hl.1.symm) hown lk_jmin75 lk_jmins lk_mathz lk_jminc (by rw [hR]; exact Nat.le_of_ble_eq_true rfl) (by rw [hR]; exact Nat.le_of_ble_eq_true rfl) (by rw [hR]; exact Nat.le_of_ble_eq_true rfl) (by rw [hR]; exact Nat.le_of_ble_eq_true rfl) ⟨by omega, by omega⟩ ⟨by omega, by omega⟩ dX6_takeOldest_36 (fun z36 e36 => ?_)
          refine lv_lstore (lv' := [(7, vJ z36), (6, vI i), (4, vJ rs), (0, .ref h0), (1, vI o), (2, vJ q)]) hx hb dX6_takeOldest_39 hl (by decide) rfl (fun ls hl => ?_)
          refine lv_aload_n hx hb dX6_takeOldest_41 rfl (lv_at hl 3 rfl) ?_
          refine va_get (D := g) (ci := 6) (v := .ref h1) (C := RX6) (T := TX6) (N := 3) hx hb hts inF_X6 hown hK.1 hP 0 rfl rfl 0 (by decide) lk_f9 (fun _ h9 => h9) rfl dX6_takeOldest_42 ?_
          refine lv_iload_n hx hb dX6_takeOldest_45 rfl (lv_at hl 4 rfl) ?_
          refine lv_bipush (v := Int32.ofInt 121) hx hb dX6_takeOldest_46 (by decide) ?_
          refine ri_mul hx hb dX6_takeOldest_48 (fun z48 e48 => ?_)
          refine lv_iload hx hb dX6_takeOldest_49 (lv_at hl 1 rfl) ?_
          refine ri_add hx hb dX6_takeOldest_51 (fun z51 e51 => ?_)
          refine lv_dup2_11 hx hb dX6_takeOldest_52 rfl rfl ?_
          refine ra_lld hx hb hK hP 1 rfl dX6_takeOldest_53 ⟨by omega, by omega⟩ (by omega) ?_
          have hf51 : f (121 * o + i) = b (121 * o + i) := by rw [hf, if_neg (by omega)]
          refine lv_lload hx hb dX6_takeOldest_54 (lv_at hl 0 rfl) ?_
          refine rj_sub hx hb dX6_takeOldest_56 (fun z56 e56 => ?_)
          refine ra_lst hx hb hK hP hD hS 1 rfl dX6_takeOldest_57 ⟨by omega, by omega⟩ (by omega) (fun H locs hP hD hS => ?_)
          have hP : va_P g vwCl [(h0, oB 6 [.ref h1, vI n, vJ lm]), (h1, aJ ca 605 (zu f z51 z56))] H := hP
          have hD : va_D A [(h0, oB 6 [.ref h1, vI n, vJ lm]), (h1, aJ ca 605 (zu f z51 z56))] := hD
          refine lv_lload hx hb dX6_takeOldest_58 (lv_at hl 2 rfl) ?_
          refine lv_lload hx hb dX6_takeOldest_60 (lv_at hl 0 rfl) ?_
          refine rj_sub hx hb dX6_takeOldest_62 (fun z62 e62 => ?_)
          refine lv_lstore (lv' := [(4, vJ z62), (7, vJ z36), (6, vI i), (0, .ref h0), (1, vI o), (2, vJ q)]) hx hb dX6_takeOldest_63 hl (by decide) rfl (fun ls hl => ?_)
          obtain ⟨z65, e65⟩ : ∃ q : Int, q = i + 1 := ⟨_, rfl⟩
          refine ri_inc (lv' := [(6, vI z65), (4, vJ z62), (7, vJ z36), (0, .ref h0), (1, vI o), (2, vJ q)]) hx hb dX6_takeOldest_65 hl (k := 2) rfl (by decide) z65 e65 rfl (fun ls hl => ?_)
          refine lv_goto (tgt := 6) hx hb dX6_takeOldest_68 (by decide) ?_
          exact ih6 z65 z62 (zu f z51 z56) (by first | assumption | omega) (by rw [e65, sm_s _ _ (by omega), e62, e36, hf36]; split <;> omega) (by
                intro j
                rw [zu_e]
                split
                · rename_i hj
                  rw [if_pos (by omega), hj, show z51 = 121 * o + i by omega, tk_in (by omega) (by omega), ← hrs, e56, show z51 = 121 * o + i by omega, hf51, e36, hf36]
                  split <;> omega
                · rw [hf j]
                  split <;> split <;> first | rfl | omega) (by omega) _ _ hP hD hS ls (lv_sub hl [0, 1, 3, 4, 5] rfl)
  exact L6 _ 0 q b (by first | assumption | omega) (by rw [show (0 : Int).toNat = 0 from rfl, sm_0]; omega) (by intro j; rw [if_neg (by omega)]) (Nat.lt_succ_self _) _ _ hP hD hS ls (lv_sub hl [0, 1, 2, 3, 4] rfl)
