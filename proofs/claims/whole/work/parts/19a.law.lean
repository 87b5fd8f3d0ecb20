set_option maxHeartbeats 4000000 in
set_option maxRecDepth 100000 in
theorem law_head {p : Program} {l : Launch} {e : Env} {R : Room} {s : State} {m : MethodId} {args : Array Value} {below : List Frame} {meth : Method} {c : Code} {A : Nat → Prop} {Q : State → Prop} {g : va_G} {ca : Nat → ClassId} {zb : Nat} (hx : p.tables.exec = Jvm.exec) (hb : c.code = cL_law) (hml : c.maxLocals = 4) (hown : s.vm.findClass RL = some m.cls) (hts : ∀ w ∈ wsL_law, w.before args s = true) (hR : R = ({ frames := 8, locals := 288, cells := 600000, slots := 7302250 } : Room)) (hA : ∀ q : Nat, s.heap.size ≤ q → A q) (hK : zK g ca s) {L : Nat} {xs : Nat → Int32} (hX : va_X zb L xs s s.heap) (hbl : zb < s.heap.size) (hbA : ¬ A zb) {i lB : Int} (hLn : L ≤ 192) (hlB : 0 ≤ lB ∧ lB ≤ 90000000000) (hi3 : 0 ≤ i ∧ i ≤ 200) (kend : ∀ (H : Heap) (locs : List Loc), va_S A s.heap H locs → ∀ ls : Array Slot, W p l e R s m args below meth c H locs 70 19103 Q (F0 m 888 ls [vI 1])) (kont : LK p l e R s m args below meth c A Q g ca zb 881 i (lB + 300000000)) : LK p l e R s m args below meth c A Q g ca zb 18 i lB := by
  intro h7 hd h0 s0 hp hi hc hg hq hz hL hy hdt hdk hds hdv h1 s1 hr0 p0 p1 p2 p3 p4 p5 p6 p7 q0 q1 q2 q3 q4 q5 q6 q7 i0 i1 j0 j1 hgo hgn hf hk ra hw he hdn hdw mw me mdn mdw hm m0 m2 m3 m8 m9 m11 m12 m14 m19 m21 m22 m25 m26 tx hh fa sr sl st0 t tkk svv vaa b n lm sb sn slm nx kn pb pn pl ib inn il kp go gn to F T wt tr du hv mo oft la pA pB w dn dw vdu vhv vmo voft vla vpA vpB vw ve vdn vdw un at0 sa vv rdu se its lt0 d ndn ndw rd rN rW cn ch hSY hGW hEA hMo hDU hDN hS1 hS2 hTX hGR hFR H locs hP hD hS ls hl
  refine lv_iload_n hx hb dL_law_18 rfl (lv_at hl 3 rfl) ?_
  refine lv_aload_n hx hb dL_law_19 rfl (lv_at hl 0 rfl) ?_
  refine law_len hx hb hX hbl hbA hS dL_law_20 ?_
  refine lv_iconst (v := Int32.ofInt 3) hx hb dL_law_21 rfl ?_
  refine ri_sub hx hb dL_law_22 (fun z22 e22 => ?_)
  refine ri_icmp_gt (tgt := 887) hx hb dL_law_23 (by decide) ⟨by omega, by omega⟩ ⟨by omega, by omega⟩ (fun c23 => ?_) (fun c23 => ?_)
  · refine lv_iconst (v := Int32.ofInt 1) hx hb dL_law_887 rfl ?_
    exact kend _ _ hS ls
  · refine lv_aload_n hx hb dL_law_26 rfl (lv_at hl 0 rfl) ?_
    refine lv_iload_n hx hb dL_law_27 rfl (lv_at hl 3 rfl) ?_
    refine law_ld hx hb hX hbl hbA hS ⟨by omega, by omega⟩ hLn dL_law_28 ?_
    refine lv_bipush (v := Int32.ofInt 31) hx hb dL_law_29 (by decide) ?_
    refine law_and hx hb dL_law_31 (fun z31 h31 => ?_)
    have hii : 0 ≤ i ∧ i + 3 ≤ L := by omega
    by_cases c32_0 : z31 = 0
    · refine ri_to c32_0 ?_
      refine lv_tableIn (tgt := 164) hx hb dL_law_32 (by rw [xi_to ⟨by omega, by omega⟩]; omega) (by rw [xi_to ⟨by omega, by omega⟩]; omega) (off := 132) (by rw [xi_to ⟨by omega, by omega⟩]; rfl) (by decide) ?_
      exact law_type hx hb hml hown hts hR hA hK hX hbl hbA hLn hlB hii kont h7 hd h0 s0 hp hi hc hg hq hz hL hy hdt hdk hds hdv h1 s1 hr0 p0 p1 p2 p3 p4 p5 p6 p7 q0 q1 q2 q3 q4 q5 q6 q7 i0 i1 j0 j1 hgo hgn hf hk ra hw he hdn hdw mw me mdn mdw hm m0 m2 m3 m8 m9 m11 m12 m14 m19 m21 m22 m25 m26 tx hh fa sr sl st0 t tkk svv vaa b n lm sb sn slm nx kn pb pn pl ib inn il kp go gn to F T wt tr du hv mo oft la pA pB w dn dw vdu vhv vmo voft vla vpA vpB vw ve vdn vdw un at0 sa vv rdu se its lt0 d ndn ndw rd rN rW cn ch hSY hGW hEA hMo hDU hDN hS1 hS2 hTX hGR hFR _ _ hP hD hS ls hl
    by_cases c32_1 : z31 = 1
    · refine ri_to c32_1 ?_
      refine lv_tableIn (tgt := 187) hx hb dL_law_32 (by rw [xi_to ⟨by omega, by omega⟩]; omega) (by rw [xi_to ⟨by omega, by omega⟩]; omega) (off := 155) (by rw [xi_to ⟨by omega, by omega⟩]; rfl) (by decide) ?_
      exact law_clear hx hb hml hown hts hR hA hK hX hbl hbA hLn hlB hii kont h7 hd h0 s0 hp hi hc hg hq hz hL hy hdt hdk hds hdv h1 s1 hr0 p0 p1 p2 p3 p4 p5 p6 p7 q0 q1 q2 q3 q4 q5 q6 q7 i0 i1 j0 j1 hgo hgn hf hk ra hw he hdn hdw mw me mdn mdw hm m0 m2 m3 m8 m9 m11 m12 m14 m19 m21 m22 m25 m26 tx hh fa sr sl st0 t tkk svv vaa b n lm sb sn slm nx kn pb pn pl ib inn il kp go gn to F T wt tr du hv mo oft la pA pB w dn dw vdu vhv vmo voft vla vpA vpB vw ve vdn vdw un at0 sa vv rdu se its lt0 d ndn ndw rd rN rW cn ch hSY hGW hEA hMo hDU hDN hS1 hS2 hTX hGR hFR _ _ hP hD hS ls hl
    by_cases c32_2 : z31 = 2
    · refine ri_to c32_2 ?_
      refine lv_tableIn (tgt := 200) hx hb dL_law_32 (by rw [xi_to ⟨by omega, by omega⟩]; omega) (by rw [xi_to ⟨by omega, by omega⟩]; omega) (off := 168) (by rw [xi_to ⟨by omega, by omega⟩]; rfl) (by decide) ?_
      exact law_ring hx hb hml hown hts hR hA hK hX hbl hbA hLn hlB hii kont h7 hd h0 s0 hp hi hc hg hq hz hL hy hdt hdk hds hdv h1 s1 hr0 p0 p1 p2 p3 p4 p5 p6 p7 q0 q1 q2 q3 q4 q5 q6 q7 i0 i1 j0 j1 hgo hgn hf hk ra hw he hdn hdw mw me mdn mdw hm m0 m2 m3 m8 m9 m11 m12 m14 m19 m21 m22 m25 m26 tx hh fa sr sl st0 t tkk svv vaa b n lm sb sn slm nx kn pb pn pl ib inn il kp go gn to F T wt tr du hv mo oft la pA pB w dn dw vdu vhv vmo voft vla vpA vpB vw ve vdn vdw un at0 sa vv rdu se its lt0 d ndn ndw rd rN rW cn ch hSY hGW hEA hMo hDU hDN hS1 hS2 hTX hGR hFR _ _ hP hD hS ls hl
    by_cases c32_3 : z31 = 3
    · refine ri_to c32_3 ?_
      refine lv_tableIn (tgt := 213) hx hb dL_law_32 (by rw [xi_to ⟨by omega, by omega⟩]; omega) (by rw [xi_to ⟨by omega, by omega⟩]; omega) (off := 181) (by rw [xi_to ⟨by omega, by omega⟩]; rfl) (by decide) ?_
      exact law_order hx hb hml hown hts hR hA hK hX hbl hbA hLn hlB hii kont h7 hd h0 s0 hp hi hc hg hq hz hL hy hdt hdk hds hdv h1 s1 hr0 p0 p1 p2 p3 p4 p5 p6 p7 q0 q1 q2 q3 q4 q5 q6 q7 i0 i1 j0 j1 hgo hgn hf hk ra hw he hdn hdw mw me mdn mdw hm m0 m2 m3 m8 m9 m11 m12 m14 m19 m21 m22 m25 m26 tx hh fa sr sl st0 t tkk svv vaa b n lm sb sn slm nx kn pb pn pl ib inn il kp go gn to F T wt tr du hv mo oft la pA pB w dn dw vdu vhv vmo voft vla vpA vpB vw ve vdn vdw un at0 sa vv rdu se its lt0 d ndn ndw rd rN rW cn ch hSY hGW hEA hMo hDU hDN hS1 hS2 hTX hGR hFR _ _ hP hD hS ls hl
    by_cases c32_4 : z31 = 4
    · refine ri_to c32_4 ?_
      refine lv_tableIn (tgt := 246) hx hb dL_law_32 (by rw [xi_to ⟨by omega, by omega⟩]; omega) (by rw [xi_to ⟨by omega, by omega⟩]; omega) (off := 214) (by rw [xi_to ⟨by omega, by omega⟩]; rfl) (by decide) ?_
      exact law_due hx hb hml hown hts hR hA hK hX hbl hbA hLn hlB hii kont h7 hd h0 s0 hp hi hc hg hq hz hL hy hdt hdk hds hdv h1 s1 hr0 p0 p1 p2 p3 p4 p5 p6 p7 q0 q1 q2 q3 q4 q5 q6 q7 i0 i1 j0 j1 hgo hgn hf hk ra hw he hdn hdw mw me mdn mdw hm m0 m2 m3 m8 m9 m11 m12 m14 m19 m21 m22 m25 m26 tx hh fa sr sl st0 t tkk svv vaa b n lm sb sn slm nx kn pb pn pl ib inn il kp go gn to F T wt tr du hv mo oft la pA pB w dn dw vdu vhv vmo voft vla vpA vpB vw ve vdn vdw un at0 sa vv rdu se its lt0 d ndn ndw rd rN rW cn ch hSY hGW hEA hMo hDU hDN hS1 hS2 hTX hGR hFR _ _ hP hD hS ls hl
    by_cases c32_5 : z31 = 5
    · refine ri_to c32_5 ?_
      refine lv_tableIn (tgt := 279) hx hb dL_law_32 (by rw [xi_to ⟨by omega, by omega⟩]; omega) (by rw [xi_to ⟨by omega, by omega⟩]; omega) (off := 247) (by rw [xi_to ⟨by omega, by omega⟩]; rfl) (by decide) ?_
      exact law_now hx hb hml hown hts hR hA hK hX hbl hbA hLn hlB hii kont h7 hd h0 s0 hp hi hc hg hq hz hL hy hdt hdk hds hdv h1 s1 hr0 p0 p1 p2 p3 p4 p5 p6 p7 q0 q1 q2 q3 q4 q5 q6 q7 i0 i1 j0 j1 hgo hgn hf hk ra hw he hdn hdw mw me mdn mdw hm m0 m2 m3 m8 m9 m11 m12 m14 m19 m21 m22 m25 m26 tx hh fa sr sl st0 t tkk svv vaa b n lm sb sn slm nx kn pb pn pl ib inn il kp go gn to F T wt tr du hv mo oft la pA pB w dn dw vdu vhv vmo voft vla vpA vpB vw ve vdn vdw un at0 sa vv rdu se its lt0 d ndn ndw rd rN rW cn ch hSY hGW hEA hMo hDU hDN hS1 hS2 hTX hGR hFR _ _ hP hD hS ls hl
    by_cases c32_6 : z31 = 6
    · refine ri_to c32_6 ?_
      refine lv_tableIn (tgt := 303) hx hb dL_law_32 (by rw [xi_to ⟨by omega, by omega⟩]; omega) (by rw [xi_to ⟨by omega, by omega⟩]; omega) (off := 271) (by rw [xi_to ⟨by omega, by omega⟩]; rfl) (by decide) ?_
      exact law_night hx hb hml hown hts hR hA hK hX hbl hbA hLn hlB hii kont h7 hd h0 s0 hp hi hc hg hq hz hL hy hdt hdk hds hdv h1 s1 hr0 p0 p1 p2 p3 p4 p5 p6 p7 q0 q1 q2 q3 q4 q5 q6 q7 i0 i1 j0 j1 hgo hgn hf hk ra hw he hdn hdw mw me mdn mdw hm m0 m2 m3 m8 m9 m11 m12 m14 m19 m21 m22 m25 m26 tx hh fa sr sl st0 t tkk svv vaa b n lm sb sn slm nx kn pb pn pl ib inn il kp go gn to F T wt tr du hv mo oft la pA pB w dn dw vdu vhv vmo voft vla vpA vpB vw ve vdn vdw un at0 sa vv rdu se its lt0 d ndn ndw rd rN rW cn ch hSY hGW hEA hMo hDU hDN hS1 hS2 hTX hGR hFR _ _ hP hD hS ls hl
    by_cases c32_7 : z31 = 7
    · refine ri_to c32_7 ?_
      refine lv_tableIn (tgt := 317) hx hb dL_law_32 (by rw [xi_to ⟨by omega, by omega⟩]; omega) (by rw [xi_to ⟨by omega, by omega⟩]; omega) (off := 285) (by rw [xi_to ⟨by omega, by omega⟩]; rfl) (by decide) ?_
      exact law_swans hx hb hml hown hts hR hA hK hX hbl hbA hLn hlB hii kont h7 hd h0 s0 hp hi hc hg hq hz hL hy hdt hdk hds hdv h1 s1 hr0 p0 p1 p2 p3 p4 p5 p6 p7 q0 q1 q2 q3 q4 q5 q6 q7 i0 i1 j0 j1 hgo hgn hf hk ra hw he hdn hdw mw me mdn mdw hm m0 m2 m3 m8 m9 m11 m12 m14 m19 m21 m22 m25 m26 tx hh fa sr sl st0 t tkk svv vaa b n lm sb sn slm nx kn pb pn pl ib inn il kp go gn to F T wt tr du hv mo oft la pA pB w dn dw vdu vhv vmo voft vla vpA vpB vw ve vdn vdw un at0 sa vv rdu se its lt0 d ndn ndw rd rN rW cn ch hSY hGW hEA hMo hDU hDN hS1 hS2 hTX hGR hFR _ _ hP hD hS ls hl
    by_cases c32_8 : z31 = 8
    · refine ri_to c32_8 ?_
      refine lv_tableIn (tgt := 351) hx hb dL_law_32 (by rw [xi_to ⟨by omega, by omega⟩]; omega) (by rw [xi_to ⟨by omega, by omega⟩]; omega) (off := 319) (by rw [xi_to ⟨by omega, by omega⟩]; rfl) (by decide) ?_
      exact law_melts hx hb hml hown hts hR hA hK hX hbl hbA hLn hlB hii kont h7 hd h0 s0 hp hi hc hg hq hz hL hy hdt hdk hds hdv h1 s1 hr0 p0 p1 p2 p3 p4 p5 p6 p7 q0 q1 q2 q3 q4 q5 q6 q7 i0 i1 j0 j1 hgo hgn hf hk ra hw he hdn hdw mw me mdn mdw hm m0 m2 m3 m8 m9 m11 m12 m14 m19 m21 m22 m25 m26 tx hh fa sr sl st0 t tkk svv vaa b n lm sb sn slm nx kn pb pn pl ib inn il kp go gn to F T wt tr du hv mo oft la pA pB w dn dw vdu vhv vmo voft vla vpA vpB vw ve vdn vdw un at0 sa vv rdu se its lt0 d ndn ndw rd rN rW cn ch hSY hGW hEA hMo hDU hDN hS1 hS2 hTX hGR hFR _ _ hP hD hS ls hl
    by_cases c32_9 : z31 = 9
    · refine ri_to c32_9 ?_
      refine lv_tableIn (tgt := 385) hx hb dL_law_32 (by rw [xi_to ⟨by omega, by omega⟩]; omega) (by rw [xi_to ⟨by omega, by omega⟩]; omega) (off := 353) (by rw [xi_to ⟨by omega, by omega⟩]; rfl) (by decide) ?_
      exact law_pays hx hb hml hown hts hR hA hK hX hbl hbA hLn hlB hii kont h7 hd h0 s0 hp hi hc hg hq hz hL hy hdt hdk hds hdv h1 s1 hr0 p0 p1 p2 p3 p4 p5 p6 p7 q0 q1 q2 q3 q4 q5 q6 q7 i0 i1 j0 j1 hgo hgn hf hk ra hw he hdn hdw mw me mdn mdw hm m0 m2 m3 m8 m9 m11 m12 m14 m19 m21 m22 m25 m26 tx hh fa sr sl st0 t tkk svv vaa b n lm sb sn slm nx kn pb pn pl ib inn il kp go gn to F T wt tr du hv mo oft la pA pB w dn dw vdu vhv vmo voft vla vpA vpB vw ve vdn vdw un at0 sa vv rdu se its lt0 d ndn ndw rd rN rW cn ch hSY hGW hEA hMo hDU hDN hS1 hS2 hTX hGR hFR _ _ hP hD hS ls hl
    by_cases c32_10 : z31 = 10
    · refine ri_to c32_10 ?_
      refine lv_tableIn (tgt := 409) hx hb dL_law_32 (by rw [xi_to ⟨by omega, by omega⟩]; omega) (by rw [xi_to ⟨by omega, by omega⟩]; omega) (off := 377) (by rw [xi_to ⟨by omega, by omega⟩]; rfl) (by decide) ?_
      exact law_undo hx hb hml hown hts hR hA hK hX hbl hbA hLn hlB hii kont h7 hd h0 s0 hp hi hc hg hq hz hL hy hdt hdk hds hdv h1 s1 hr0 p0 p1 p2 p3 p4 p5 p6 p7 q0 q1 q2 q3 q4 q5 q6 q7 i0 i1 j0 j1 hgo hgn hf hk ra hw he hdn hdw mw me mdn mdw hm m0 m2 m3 m8 m9 m11 m12 m14 m19 m21 m22 m25 m26 tx hh fa sr sl st0 t tkk svv vaa b n lm sb sn slm nx kn pb pn pl ib inn il kp go gn to F T wt tr du hv mo oft la pA pB w dn dw vdu vhv vmo voft vla vpA vpB vw ve vdn vdw un at0 sa vv rdu se its lt0 d ndn ndw rd rN rW cn ch hSY hGW hEA hMo hDU hDN hS1 hS2 hTX hGR hFR _ _ hP hD hS ls hl
    by_cases c32_11 : z31 = 11
    · refine ri_to c32_11 ?_
      refine lv_tableIn (tgt := 422) hx hb dL_law_32 (by rw [xi_to ⟨by omega, by omega⟩]; omega) (by rw [xi_to ⟨by omega, by omega⟩]; omega) (off := 390) (by rw [xi_to ⟨by omega, by omega⟩]; rfl) (by decide) ?_
      exact law_all hx hb hml hown hts hR hA hK hX hbl hbA hLn hlB hii kont h7 hd h0 s0 hp hi hc hg hq hz hL hy hdt hdk hds hdv h1 s1 hr0 p0 p1 p2 p3 p4 p5 p6 p7 q0 q1 q2 q3 q4 q5 q6 q7 i0 i1 j0 j1 hgo hgn hf hk ra hw he hdn hdw mw me mdn mdw hm m0 m2 m3 m8 m9 m11 m12 m14 m19 m21 m22 m25 m26 tx hh fa sr sl st0 t tkk svv vaa b n lm sb sn slm nx kn pb pn pl ib inn il kp go gn to F T wt tr du hv mo oft la pA pB w dn dw vdu vhv vmo voft vla vpA vpB vw ve vdn vdw un at0 sa vv rdu se its lt0 d ndn ndw rd rN rW cn ch hSY hGW hEA hMo hDU hDN hS1 hS2 hTX hGR hFR _ _ hP hD hS ls hl
    by_cases c32_12 : z31 = 12
    · refine ri_to c32_12 ?_
      refine lv_tableIn (tgt := 456) hx hb dL_law_32 (by rw [xi_to ⟨by omega, by omega⟩]; omega) (by rw [xi_to ⟨by omega, by omega⟩]; omega) (off := 424) (by rw [xi_to ⟨by omega, by omega⟩]; rfl) (by decide) ?_
      exact law_above hx hb hml hown hts hR hA hK hX hbl hbA hLn hlB hii kont h7 hd h0 s0 hp hi hc hg hq hz hL hy hdt hdk hds hdv h1 s1 hr0 p0 p1 p2 p3 p4 p5 p6 p7 q0 q1 q2 q3 q4 q5 q6 q7 i0 i1 j0 j1 hgo hgn hf hk ra hw he hdn hdw mw me mdn mdw hm m0 m2 m3 m8 m9 m11 m12 m14 m19 m21 m22 m25 m26 tx hh fa sr sl st0 t tkk svv vaa b n lm sb sn slm nx kn pb pn pl ib inn il kp go gn to F T wt tr du hv mo oft la pA pB w dn dw vdu vhv vmo voft vla vpA vpB vw ve vdn vdw un at0 sa vv rdu se its lt0 d ndn ndw rd rN rW cn ch hSY hGW hEA hMo hDU hDN hS1 hS2 hTX hGR hFR _ _ hP hD hS ls hl
    by_cases c32_13 : z31 = 13
    · refine ri_to c32_13 ?_
      refine lv_tableIn (tgt := 479) hx hb dL_law_32 (by rw [xi_to ⟨by omega, by omega⟩]; omega) (by rw [xi_to ⟨by omega, by omega⟩]; omega) (off := 447) (by rw [xi_to ⟨by omega, by omega⟩]; rfl) (by decide) ?_
      exact law_least hx hb hml hown hts hR hA hK hX hbl hbA hLn hlB hii kont h7 hd h0 s0 hp hi hc hg hq hz hL hy hdt hdk hds hdv h1 s1 hr0 p0 p1 p2 p3 p4 p5 p6 p7 q0 q1 q2 q3 q4 q5 q6 q7 i0 i1 j0 j1 hgo hgn hf hk ra hw he hdn hdw mw me mdn mdw hm m0 m2 m3 m8 m9 m11 m12 m14 m19 m21 m22 m25 m26 tx hh fa sr sl st0 t tkk svv vaa b n lm sb sn slm nx kn pb pn pl ib inn il kp go gn to F T wt tr du hv mo oft la pA pB w dn dw vdu vhv vmo voft vla vpA vpB vw ve vdn vdw un at0 sa vv rdu se its lt0 d ndn ndw rd rN rW cn ch hSY hGW hEA hMo hDU hDN hS1 hS2 hTX hGR hFR _ _ hP hD hS ls hl
    by_cases c32_14 : z31 = 14
    · refine ri_to c32_14 ?_
      refine lv_tableIn (tgt := 512) hx hb dL_law_32 (by rw [xi_to ⟨by omega, by omega⟩]; omega) (by rw [xi_to ⟨by omega, by omega⟩]; omega) (off := 480) (by rw [xi_to ⟨by omega, by omega⟩]; rfl) (by decide) ?_
      exact law_met hx hb hml hown hts hR hA hK hX hbl hbA hLn hlB hii kont h7 hd h0 s0 hp hi hc hg hq hz hL hy hdt hdk hds hdv h1 s1 hr0 p0 p1 p2 p3 p4 p5 p6 p7 q0 q1 q2 q3 q4 q5 q6 q7 i0 i1 j0 j1 hgo hgn hf hk ra hw he hdn hdw mw me mdn mdw hm m0 m2 m3 m8 m9 m11 m12 m14 m19 m21 m22 m25 m26 tx hh fa sr sl st0 t tkk svv vaa b n lm sb sn slm nx kn pb pn pl ib inn il kp go gn to F T wt tr du hv mo oft la pA pB w dn dw vdu vhv vmo voft vla vpA vpB vw ve vdn vdw un at0 sa vv rdu se its lt0 d ndn ndw rd rN rW cn ch hSY hGW hEA hMo hDU hDN hS1 hS2 hTX hGR hFR _ _ hP hD hS ls hl
    by_cases c32_15 : z31 = 15
    · refine ri_to c32_15 ?_
      refine lv_tableIn (tgt := 525) hx hb dL_law_32 (by rw [xi_to ⟨by omega, by omega⟩]; omega) (by rw [xi_to ⟨by omega, by omega⟩]; omega) (off := 493) (by rw [xi_to ⟨by omega, by omega⟩]; rfl) (by decide) ?_
      exact law_left hx hb hml hown hts hR hA hK hX hbl hbA hLn hlB hii kont h7 hd h0 s0 hp hi hc hg hq hz hL hy hdt hdk hds hdv h1 s1 hr0 p0 p1 p2 p3 p4 p5 p6 p7 q0 q1 q2 q3 q4 q5 q6 q7 i0 i1 j0 j1 hgo hgn hf hk ra hw he hdn hdw mw me mdn mdw hm m0 m2 m3 m8 m9 m11 m12 m14 m19 m21 m22 m25 m26 tx hh fa sr sl st0 t tkk svv vaa b n lm sb sn slm nx kn pb pn pl ib inn il kp go gn to F T wt tr du hv mo oft la pA pB w dn dw vdu vhv vmo voft vla vpA vpB vw ve vdn vdw un at0 sa vv rdu se its lt0 d ndn ndw rd rN rW cn ch hSY hGW hEA hMo hDU hDN hS1 hS2 hTX hGR hFR _ _ hP hD hS ls hl
    by_cases c32_16 : z31 = 16
    · refine ri_to c32_16 ?_
      refine lv_tableIn (tgt := 539) hx hb dL_law_32 (by rw [xi_to ⟨by omega, by omega⟩]; omega) (by rw [xi_to ⟨by omega, by omega⟩]; omega) (off := 507) (by rw [xi_to ⟨by omega, by omega⟩]; rfl) (by decide) ?_
      exact law_age hx hb hml hown hts hR hA hK hX hbl hbA hLn hlB hii kont h7 hd h0 s0 hp hi hc hg hq hz hL hy hdt hdk hds hdv h1 s1 hr0 p0 p1 p2 p3 p4 p5 p6 p7 q0 q1 q2 q3 q4 q5 q6 q7 i0 i1 j0 j1 hgo hgn hf hk ra hw he hdn hdw mw me mdn mdw hm m0 m2 m3 m8 m9 m11 m12 m14 m19 m21 m22 m25 m26 tx hh fa sr sl st0 t tkk svv vaa b n lm sb sn slm nx kn pb pn pl ib inn il kp go gn to F T wt tr du hv mo oft la pA pB w dn dw vdu vhv vmo voft vla vpA vpB vw ve vdn vdw un at0 sa vv rdu se its lt0 d ndn ndw rd rN rW cn ch hSY hGW hEA hMo hDU hDN hS1 hS2 hTX hGR hFR _ _ hP hD hS ls hl
    by_cases c32_17 : z31 = 17
    · refine ri_to c32_17 ?_
      refine lv_tableIn (tgt := 562) hx hb dL_law_32 (by rw [xi_to ⟨by omega, by omega⟩]; omega) (by rw [xi_to ⟨by omega, by omega⟩]; omega) (off := 530) (by rw [xi_to ⟨by omega, by omega⟩]; rfl) (by decide) ?_
      exact law_first hx hb hml hown hts hR hA hK hX hbl hbA hLn hlB hii kont h7 hd h0 s0 hp hi hc hg hq hz hL hy hdt hdk hds hdv h1 s1 hr0 p0 p1 p2 p3 p4 p5 p6 p7 q0 q1 q2 q3 q4 q5 q6 q7 i0 i1 j0 j1 hgo hgn hf hk ra hw he hdn hdw mw me mdn mdw hm m0 m2 m3 m8 m9 m11 m12 m14 m19 m21 m22 m25 m26 tx hh fa sr sl st0 t tkk svv vaa b n lm sb sn slm nx kn pb pn pl ib inn il kp go gn to F T wt tr du hv mo oft la pA pB w dn dw vdu vhv vmo voft vla vpA vpB vw ve vdn vdw un at0 sa vv rdu se its lt0 d ndn ndw rd rN rW cn ch hSY hGW hEA hMo hDU hDN hS1 hS2 hTX hGR hFR _ _ hP hD hS ls hl
    by_cases c32_18 : z31 = 18
    · refine ri_to c32_18 ?_
      refine lv_tableIn (tgt := 595) hx hb dL_law_32 (by rw [xi_to ⟨by omega, by omega⟩]; omega) (by rw [xi_to ⟨by omega, by omega⟩]; omega) (off := 563) (by rw [xi_to ⟨by omega, by omega⟩]; rfl) (by decide) ?_
      exact law_lay hx hb hml hown hts hR hA hK hX hbl hbA hLn hlB hii kont h7 hd h0 s0 hp hi hc hg hq hz hL hy hdt hdk hds hdv h1 s1 hr0 p0 p1 p2 p3 p4 p5 p6 p7 q0 q1 q2 q3 q4 q5 q6 q7 i0 i1 j0 j1 hgo hgn hf hk ra hw he hdn hdw mw me mdn mdw hm m0 m2 m3 m8 m9 m11 m12 m14 m19 m21 m22 m25 m26 tx hh fa sr sl st0 t tkk svv vaa b n lm sb sn slm nx kn pb pn pl ib inn il kp go gn to F T wt tr du hv mo oft la pA pB w dn dw vdu vhv vmo voft vla vpA vpB vw ve vdn vdw un at0 sa vv rdu se its lt0 d ndn ndw rd rN rW cn ch hSY hGW hEA hMo hDU hDN hS1 hS2 hTX hGR hFR _ _ hP hD hS ls hl
    by_cases c32_19 : z31 = 19
    · refine ri_to c32_19 ?_
      refine lv_tableIn (tgt := 628) hx hb dL_law_32 (by rw [xi_to ⟨by omega, by omega⟩]; omega) (by rw [xi_to ⟨by omega, by omega⟩]; omega) (off := 596) (by rw [xi_to ⟨by omega, by omega⟩]; rfl) (by decide) ?_
      exact law_forget hx hb hml hown hts hR hA hK hX hbl hbA hLn hlB hii kont h7 hd h0 s0 hp hi hc hg hq hz hL hy hdt hdk hds hdv h1 s1 hr0 p0 p1 p2 p3 p4 p5 p6 p7 q0 q1 q2 q3 q4 q5 q6 q7 i0 i1 j0 j1 hgo hgn hf hk ra hw he hdn hdw mw me mdn mdw hm m0 m2 m3 m8 m9 m11 m12 m14 m19 m21 m22 m25 m26 tx hh fa sr sl st0 t tkk svv vaa b n lm sb sn slm nx kn pb pn pl ib inn il kp go gn to F T wt tr du hv mo oft la pA pB w dn dw vdu vhv vmo voft vla vpA vpB vw ve vdn vdw un at0 sa vv rdu se its lt0 d ndn ndw rd rN rW cn ch hSY hGW hEA hMo hDU hDN hS1 hS2 hTX hGR hFR _ _ hP hD hS ls hl
    by_cases c32_20 : z31 = 20
    · refine ri_to c32_20 ?_
      refine lv_tableIn (tgt := 641) hx hb dL_law_32 (by rw [xi_to ⟨by omega, by omega⟩]; omega) (by rw [xi_to ⟨by omega, by omega⟩]; omega) (off := 609) (by rw [xi_to ⟨by omega, by omega⟩]; rfl) (by decide) ?_
      exact law_mayBe hx hb hml hown hts hR hA hK hX hbl hbA hLn hlB hii kont h7 hd h0 s0 hp hi hc hg hq hz hL hy hdt hdk hds hdv h1 s1 hr0 p0 p1 p2 p3 p4 p5 p6 p7 q0 q1 q2 q3 q4 q5 q6 q7 i0 i1 j0 j1 hgo hgn hf hk ra hw he hdn hdw mw me mdn mdw hm m0 m2 m3 m8 m9 m11 m12 m14 m19 m21 m22 m25 m26 tx hh fa sr sl st0 t tkk svv vaa b n lm sb sn slm nx kn pb pn pl ib inn il kp go gn to F T wt tr du hv mo oft la pA pB w dn dw vdu vhv vmo voft vla vpA vpB vw ve vdn vdw un at0 sa vv rdu se its lt0 d ndn ndw rd rN rW cn ch hSY hGW hEA hMo hDU hDN hS1 hS2 hTX hGR hFR _ _ hP hD hS ls hl
    by_cases c32_21 : z31 = 21
    · refine ri_to c32_21 ?_
      refine lv_tableIn (tgt := 664) hx hb dL_law_32 (by rw [xi_to ⟨by omega, by omega⟩]; omega) (by rw [xi_to ⟨by omega, by omega⟩]; omega) (off := 632) (by rw [xi_to ⟨by omega, by omega⟩]; rfl) (by decide) ?_
      exact law_smelt hx hb hml hown hts hR hA hK hX hbl hbA hLn hlB hii kont h7 hd h0 s0 hp hi hc hg hq hz hL hy hdt hdk hds hdv h1 s1 hr0 p0 p1 p2 p3 p4 p5 p6 p7 q0 q1 q2 q3 q4 q5 q6 q7 i0 i1 j0 j1 hgo hgn hf hk ra hw he hdn hdw mw me mdn mdw hm m0 m2 m3 m8 m9 m11 m12 m14 m19 m21 m22 m25 m26 tx hh fa sr sl st0 t tkk svv vaa b n lm sb sn slm nx kn pb pn pl ib inn il kp go gn to F T wt tr du hv mo oft la pA pB w dn dw vdu vhv vmo voft vla vpA vpB vw ve vdn vdw un at0 sa vv rdu se its lt0 d ndn ndw rd rN rW cn ch hSY hGW hEA hMo hDU hDN hS1 hS2 hTX hGR hFR _ _ hP hD hS ls hl
    by_cases c32_22 : z31 = 22
    · refine ri_to c32_22 ?_
      refine lv_tableIn (tgt := 697) hx hb dL_law_32 (by rw [xi_to ⟨by omega, by omega⟩]; omega) (by rw [xi_to ⟨by omega, by omega⟩]; omega) (off := 665) (by rw [xi_to ⟨by omega, by omega⟩]; rfl) (by decide) ?_
      exact law_odds hx hb hml hown hts hR hA hK hX hbl hbA hLn hlB hii kont h7 hd h0 s0 hp hi hc hg hq hz hL hy hdt hdk hds hdv h1 s1 hr0 p0 p1 p2 p3 p4 p5 p6 p7 q0 q1 q2 q3 q4 q5 q6 q7 i0 i1 j0 j1 hgo hgn hf hk ra hw he hdn hdw mw me mdn mdw hm m0 m2 m3 m8 m9 m11 m12 m14 m19 m21 m22 m25 m26 tx hh fa sr sl st0 t tkk svv vaa b n lm sb sn slm nx kn pb pn pl ib inn il kp go gn to F T wt tr du hv mo oft la pA pB w dn dw vdu vhv vmo voft vla vpA vpB vw ve vdn vdw un at0 sa vv rdu se its lt0 d ndn ndw rd rN rW cn ch hSY hGW hEA hMo hDU hDN hS1 hS2 hTX hGR hFR _ _ hP hD hS ls hl
    by_cases c32_23 : z31 = 23
    · refine ri_to c32_23 ?_
      refine lv_tableIn (tgt := 731) hx hb dL_law_32 (by rw [xi_to ⟨by omega, by omega⟩]; omega) (by rw [xi_to ⟨by omega, by omega⟩]; omega) (off := 699) (by rw [xi_to ⟨by omega, by omega⟩]; rfl) (by decide) ?_
      exact law_barley hx hb hml hown hts hR hA hK hX hbl hbA hLn hlB hii kont h7 hd h0 s0 hp hi hc hg hq hz hL hy hdt hdk hds hdv h1 s1 hr0 p0 p1 p2 p3 p4 p5 p6 p7 q0 q1 q2 q3 q4 q5 q6 q7 i0 i1 j0 j1 hgo hgn hf hk ra hw he hdn hdw mw me mdn mdw hm m0 m2 m3 m8 m9 m11 m12 m14 m19 m21 m22 m25 m26 tx hh fa sr sl st0 t tkk svv vaa b n lm sb sn slm nx kn pb pn pl ib inn il kp go gn to F T wt tr du hv mo oft la pA pB w dn dw vdu vhv vmo voft vla vpA vpB vw ve vdn vdw un at0 sa vv rdu se its lt0 d ndn ndw rd rN rW cn ch hSY hGW hEA hMo hDU hDN hS1 hS2 hTX hGR hFR _ _ hP hD hS ls hl
    by_cases c32_24 : z31 = 24
    · refine ri_to c32_24 ?_
      refine lv_tableIn (tgt := 765) hx hb dL_law_32 (by rw [xi_to ⟨by omega, by omega⟩]; omega) (by rw [xi_to ⟨by omega, by omega⟩]; omega) (off := 733) (by rw [xi_to ⟨by omega, by omega⟩]; rfl) (by decide) ?_
      exact law_rate hx hb hml hown hts hR hA hK hX hbl hbA hLn hlB hii kont h7 hd h0 s0 hp hi hc hg hq hz hL hy hdt hdk hds hdv h1 s1 hr0 p0 p1 p2 p3 p4 p5 p6 p7 q0 q1 q2 q3 q4 q5 q6 q7 i0 i1 j0 j1 hgo hgn hf hk ra hw he hdn hdw mw me mdn mdw hm m0 m2 m3 m8 m9 m11 m12 m14 m19 m21 m22 m25 m26 tx hh fa sr sl st0 t tkk svv vaa b n lm sb sn slm nx kn pb pn pl ib inn il kp go gn to F T wt tr du hv mo oft la pA pB w dn dw vdu vhv vmo voft vla vpA vpB vw ve vdn vdw un at0 sa vv rdu se its lt0 d ndn ndw rd rN rW cn ch hSY hGW hEA hMo hDU hDN hS1 hS2 hTX hGR hFR _ _ hP hD hS ls hl
    by_cases c32_25 : z31 = 25
    · refine ri_to c32_25 ?_
      refine lv_tableIn (tgt := 798) hx hb dL_law_32 (by rw [xi_to ⟨by omega, by omega⟩]; omega) (by rw [xi_to ⟨by omega, by omega⟩]; omega) (off := 766) (by rw [xi_to ⟨by omega, by omega⟩]; rfl) (by decide) ?_
      exact law_keep hx hb hml hown hts hR hA hK hX hbl hbA hLn hlB hii kont h7 hd h0 s0 hp hi hc hg hq hz hL hy hdt hdk hds hdv h1 s1 hr0 p0 p1 p2 p3 p4 p5 p6 p7 q0 q1 q2 q3 q4 q5 q6 q7 i0 i1 j0 j1 hgo hgn hf hk ra hw he hdn hdw mw me mdn mdw hm m0 m2 m3 m8 m9 m11 m12 m14 m19 m21 m22 m25 m26 tx hh fa sr sl st0 t tkk svv vaa b n lm sb sn slm nx kn pb pn pl ib inn il kp go gn to F T wt tr du hv mo oft la pA pB w dn dw vdu vhv vmo voft vla vpA vpB vw ve vdn vdw un at0 sa vv rdu se its lt0 d ndn ndw rd rN rW cn ch hSY hGW hEA hMo hDU hDN hS1 hS2 hTX hGR hFR _ _ hP hD hS ls hl
    by_cases c32_26 : z31 = 26
    · refine ri_to c32_26 ?_
      refine lv_tableIn (tgt := 821) hx hb dL_law_32 (by rw [xi_to ⟨by omega, by omega⟩]; omega) (by rw [xi_to ⟨by omega, by omega⟩]; omega) (off := 789) (by rw [xi_to ⟨by omega, by omega⟩]; rfl) (by decide) ?_
      exact law_back hx hb hml hown hts hR hA hK hX hbl hbA hLn hlB hii kont h7 hd h0 s0 hp hi hc hg hq hz hL hy hdt hdk hds hdv h1 s1 hr0 p0 p1 p2 p3 p4 p5 p6 p7 q0 q1 q2 q3 q4 q5 q6 q7 i0 i1 j0 j1 hgo hgn hf hk ra hw he hdn hdw mw me mdn mdw hm m0 m2 m3 m8 m9 m11 m12 m14 m19 m21 m22 m25 m26 tx hh fa sr sl st0 t tkk svv vaa b n lm sb sn slm nx kn pb pn pl ib inn il kp go gn to F T wt tr du hv mo oft la pA pB w dn dw vdu vhv vmo voft vla vpA vpB vw ve vdn vdw un at0 sa vv rdu se its lt0 d ndn ndw rd rN rW cn ch hSY hGW hEA hMo hDU hDN hS1 hS2 hTX hGR hFR _ _ hP hD hS ls hl
    by_cases c32_27 : z31 = 27
    · refine ri_to c32_27 ?_
      refine lv_tableIn (tgt := 844) hx hb dL_law_32 (by rw [xi_to ⟨by omega, by omega⟩]; omega) (by rw [xi_to ⟨by omega, by omega⟩]; omega) (off := 812) (by rw [xi_to ⟨by omega, by omega⟩]; rfl) (by decide) ?_
      exact law_count hx hb hml hown hts hR hA hK hX hbl hbA hLn hlB hii kont h7 hd h0 s0 hp hi hc hg hq hz hL hy hdt hdk hds hdv h1 s1 hr0 p0 p1 p2 p3 p4 p5 p6 p7 q0 q1 q2 q3 q4 q5 q6 q7 i0 i1 j0 j1 hgo hgn hf hk ra hw he hdn hdw mw me mdn mdw hm m0 m2 m3 m8 m9 m11 m12 m14 m19 m21 m22 m25 m26 tx hh fa sr sl st0 t tkk svv vaa b n lm sb sn slm nx kn pb pn pl ib inn il kp go gn to F T wt tr du hv mo oft la pA pB w dn dw vdu vhv vmo voft vla vpA vpB vw ve vdn vdw un at0 sa vv rdu se its lt0 d ndn ndw rd rN rW cn ch hSY hGW hEA hMo hDU hDN hS1 hS2 hTX hGR hFR _ _ hP hD hS ls hl
    by_cases c32_28 : z31 = 28
    · refine ri_to c32_28 ?_
      refine lv_tableIn (tgt := 867) hx hb dL_law_32 (by rw [xi_to ⟨by omega, by omega⟩]; omega) (by rw [xi_to ⟨by omega, by omega⟩]; omega) (off := 835) (by rw [xi_to ⟨by omega, by omega⟩]; rfl) (by decide) ?_
      exact law_trace hx hb hml hown hts hR hA hK hX hbl hbA hLn hlB hii kont h7 hd h0 s0 hp hi hc hg hq hz hL hy hdt hdk hds hdv h1 s1 hr0 p0 p1 p2 p3 p4 p5 p6 p7 q0 q1 q2 q3 q4 q5 q6 q7 i0 i1 j0 j1 hgo hgn hf hk ra hw he hdn hdw mw me mdn mdw hm m0 m2 m3 m8 m9 m11 m12 m14 m19 m21 m22 m25 m26 tx hh fa sr sl st0 t tkk svv vaa b n lm sb sn slm nx kn pb pn pl ib inn il kp go gn to F T wt tr du hv mo oft la pA pB w dn dw vdu vhv vmo voft vla vpA vpB vw ve vdn vdw un at0 sa vv rdu se its lt0 d ndn ndw rd rN rW cn ch hSY hGW hEA hMo hDU hDN hS1 hS2 hTX hGR hFR _ _ hP hD hS ls hl
    refine lv_tableOut (tgt := 881) hx hb dL_law_32 (by rw [xi_to ⟨by omega, by omega⟩]; omega) (by decide) ?_
    exact kont h7 hd h0 s0 hp hi hc hg hq hz hL hy hdt hdk hds hdv h1 s1 hr0 p0 p1 p2 p3 p4 p5 p6 p7 q0 q1 q2 q3 q4 q5 q6 q7 i0 i1 j0 j1 hgo hgn hf hk ra hw he hdn hdw mw me mdn mdw hm m0 m2 m3 m8 m9 m11 m12 m14 m19 m21 m22 m25 m26 tx hh fa sr sl st0 t tkk svv vaa b n lm sb sn slm nx kn pb pn pl ib inn il kp go gn to F T wt tr du hv mo oft la pA pB w dn dw vdu vhv vmo voft vla vpA vpB vw ve vdn vdw un at0 sa vv rdu se its lt0 d ndn ndw rd rN rW cn ch (SYS_up hSY (by omega)) hGW hEA hMo hDU hDN hS1 hS2 hTX hGR hFR _ _ hP hD hS ls hl
set_option maxHeartbeats 4000000 in
set_option maxRecDepth 100000 in
theorem law_next {p : Program} {l : Launch} {e : Env} {R : Room} {s : State} {m : MethodId} {args : Array Value} {below : List Frame} {meth : Method} {c : Code} {A : Nat → Prop} {Q : State → Prop} {g : va_G} {ca : Nat → ClassId} {zb : Nat} (hx : p.tables.exec = Jvm.exec) (hb : c.code = cL_law) {i lB : Int} (kl : LK p l e R s m args below meth c A Q g ca zb 18 (i + 3) lB) : LK p l e R s m args below meth c A Q g ca zb 881 i lB := by
  intro h7 hd h0 s0 hp hi hc hg hq hz hL hy hdt hdk hds hdv h1 s1 hr0 p0 p1 p2 p3 p4 p5 p6 p7 q0 q1 q2 q3 q4 q5 q6 q7 i0 i1 j0 j1 hgo hgn hf hk ra hw he hdn hdw mw me mdn mdw hm m0 m2 m3 m8 m9 m11 m12 m14 m19 m21 m22 m25 m26 tx hh fa sr sl st0 t tkk svv vaa b n lm sb sn slm nx kn pb pn pl ib inn il kp go gn to F T wt tr du hv mo oft la pA pB w dn dw vdu vhv vmo voft vla vpA vpB vw ve vdn vdw un at0 sa vv rdu se its lt0 d ndn ndw rd rN rW cn ch hSY hGW hEA hMo hDU hDN hS1 hS2 hTX hGR hFR H locs hP hD hS ls hl
  refine ri_inc (lv' := [(3, vI (i + 3)), (0, .ref zb), (1, .ref h7), (2, .ref hm)]) hx hb dL_law_881 hl (k := 3) rfl (by decide) (i + 3) rfl rfl (fun ls hl => ?_)
  refine lv_goto (tgt := 18) hx hb dL_law_884 (by decide) ?_
  exact kl h7 hd h0 s0 hp hi hc hg hq hz hL hy hdt hdk hds hdv h1 s1 hr0 p0 p1 p2 p3 p4 p5 p6 p7 q0 q1 q2 q3 q4 q5 q6 q7 i0 i1 j0 j1 hgo hgn hf hk ra hw he hdn hdw mw me mdn mdw hm m0 m2 m3 m8 m9 m11 m12 m14 m19 m21 m22 m25 m26 tx hh fa sr sl st0 t tkk svv vaa b n lm sb sn slm nx kn pb pn pl ib inn il kp go gn to F T wt tr du hv mo oft la pA pB w dn dw vdu vhv vmo voft vla vpA vpB vw ve vdn vdw un at0 sa vv rdu se its lt0 d ndn ndw rd rN rW cn ch hSY hGW hEA hMo hDU hDN hS1 hS2 hTX hGR hFR _ _ hP hD hS ls (lv_sub hl [1, 2, 3, 0] rfl)
set_option maxHeartbeats 4000000 in
set_option maxRecDepth 100000 in
/-- behind the last whole call -/
theorem law_last {p : Program} {l : Launch} {e : Env} {R : Room} {s : State} {m : MethodId} {args : Array Value} {below : List Frame} {meth : Method} {c : Code} {A : Nat → Prop} {Q : State → Prop} {g : va_G} {ca : Nat → ClassId} {zb : Nat} (hx : p.tables.exec = Jvm.exec) (hb : c.code = cL_law) (hml : c.maxLocals = 4) (hown : s.vm.findClass RL = some m.cls) (hts : ∀ w ∈ wsL_law, w.before args s = true) (hR : R = ({ frames := 8, locals := 288, cells := 600000, slots := 7302250 } : Room)) (hA : ∀ q : Nat, s.heap.size ≤ q → A q) (hK : zK g ca s) {L : Nat} {xs : Nat → Int32} (hX : va_X zb L xs s s.heap) (hbl : zb < s.heap.size) (hbA : ¬ A zb) (hLn : L ≤ 192) {i lB : Int} (hq : (L : Int) < i) (hq2 : i ≤ 200) (kend : ∀ (H : Heap) (locs : List Loc), va_S A s.heap H locs → ∀ ls : Array Slot, W p l e R s m args below meth c H locs 70 19103 Q (F0 m 888 ls [vI 1])) : LK p l e R s m args below meth c A Q g ca zb 18 i lB := by
  intro h7 hd h0 s0 hp hi hc hg hq hz hL hy hdt hdk hds hdv h1 s1 hr0 p0 p1 p2 p3 p4 p5 p6 p7 q0 q1 q2 q3 q4 q5 q6 q7 i0 i1 j0 j1 hgo hgn hf hk ra hw he hdn hdw mw me mdn mdw hm m0 m2 m3 m8 m9 m11 m12 m14 m19 m21 m22 m25 m26 tx hh fa sr sl st0 t tkk svv vaa b n lm sb sn slm nx kn pb pn pl ib inn il kp go gn to F T wt tr du hv mo oft la pA pB w dn dw vdu vhv vmo voft vla vpA vpB vw ve vdn vdw un at0 sa vv rdu se its lt0 d ndn ndw rd rN rW cn ch hSY hGW hEA hMo hDU hDN hS1 hS2 hTX hGR hFR H locs hP hD hS ls hl
  refine lv_iload_n hx hb dL_law_18 rfl (lv_at hl 3 rfl) ?_
  refine lv_aload_n hx hb dL_law_19 rfl (lv_at hl 0 rfl) ?_
  refine law_len hx hb hX hbl hbA hS dL_law_20 ?_
  refine lv_iconst (v := Int32.ofInt 3) hx hb dL_law_21 rfl ?_
  refine ri_sub hx hb dL_law_22 (fun z22 e22 => ?_)
  refine ri_icmp_gt (tgt := 887) hx hb dL_law_23 (by decide) ⟨by omega, by omega⟩ ⟨by omega, by omega⟩ (fun c23 => ?_) (fun c23 => ?_)
  · refine lv_iconst (v := Int32.ofInt 1) hx hb dL_law_887 rfl ?_
    exact kend _ _ hS ls
  · exfalso; omega
theorem law_loop {p : Program} {l : Launch} {e : Env} {R : Room} {s : State} {m : MethodId} {args : Array Value} {below : List Frame} {meth : Method} {c : Code} {A : Nat → Prop} {Q : State → Prop} {g : va_G} {ca : Nat → ClassId} {zb : Nat} (hx : p.tables.exec = Jvm.exec) (hb : c.code = cL_law) (hml : c.maxLocals = 4) (hown : s.vm.findClass RL = some m.cls) (hts : ∀ w ∈ wsL_law, w.before args s = true) (hR : R = ({ frames := 8, locals := 288, cells := 600000, slots := 7302250 } : Room)) (hA : ∀ q : Nat, s.heap.size ≤ q → A q) (hK : zK g ca s) {L : Nat} {xs : Nat → Int32} (hX : va_X zb L xs s s.heap) (hbl : zb < s.heap.size) (hbA : ¬ A zb) (hLn : L ≤ 192) (kend : ∀ (H : Heap) (locs : List Loc), va_S A s.heap H locs → ∀ ls : Array Slot, W p l e R s m args below meth c H locs 70 19103 Q (F0 m 888 ls [vI 1])) : ∀ (k : Nat) (i : Int), 0 ≤ i → L + 3 < i + 3 * k + 3 → i ≤ L → LK p l e R s m args below meth c A Q g ca zb 18 i (100000000 * i)
  | 0, i, h0, h1, h2 => by omega
  | k + 1, i, h0, h1, h2 => by
    refine law_head hx hb hml hown hts hR hA hK hX hbl hbA hLn (by omega) (by omega) kend ?_
    refine law_next hx hb ?_
    rw [show 100000000 * i + 300000000 = 100000000 * (i + 3) by omega]
    rcases Int.lt_or_le (L : Int) (i + 3) with q | q
    · exact law_last hx hb hml hown hts hR hA hK hX hbl hbA hLn q (by omega) kend
    · exact law_loop hx hb hml hown hts hR hA hK hX hbl hbA hLn kend k (i + 3) (by omega) (by omega) q
