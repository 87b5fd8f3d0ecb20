/-- what a method's end says -/
def zEI {S : Type} (g : va_G) (A : Nat → Prop) (post : Int → S → Prop) (w1 : S → va_W) : Array Value → State → Outcome → State → Prop := va_Qi (fun (r : Int32) (u : S) => ∃ z : Int, r = Int32.ofInt z ∧ post z u) (fun u t => zQ g A (w1 u) t) A
def zEJ {S : Type} (g : va_G) (A : Nat → Prop) (post : Int → S → Prop) (w1 : S → va_W) : Array Value → State → Outcome → State → Prop := va_Ql (fun (r : Int64) (u : S) => ∃ z : Int, r = Int64.ofInt z ∧ post z u) (fun u t => zQ g A (w1 u) t) A
def zEV {S : Type} (g : va_G) (A : Nat → Prop) (post : S → Prop) (w1 : S → va_W) : Array Value → State → Outcome → State → Prop := va_Qv post (fun u t => zQ g A (w1 u) t) A
theorem zm_start {l : Launch} {y : MethodName} {wd ws' : List Cond} {rm : Room} {g : va_G} {ca : Nat → ClassId} {av : List Value} {ws : va_W} {sz : Nat} {E : (Nat → Prop) → Array Value → State → Outcome → State → Prop} {mc ms : Nat} {cc : ByteArray} {maxL : Nat} {ret : Option FieldType} (hy : plainName y.cls = true) (hw : wd = Cond.code y cc maxL ret :: ws') (hlen : (lg_sl av).length ≤ maxL)
    (body : ∀ (p : Program) (e : Env) (s : State) (m : MethodId) (below : List Frame) (meth : Method) (c : Code) (A : Nat → Prop) (ls : Array Slot) (R : Room) (args : Array Value) (Q : State → Prop), R = rm → args = av.toArray → Q = MQ below (E A) args s mc ms A → p.tables.exec = Jvm.exec → c.code = cc → c.maxLocals = maxL → meth.sig.returnType = ret → (∀ w ∈ wd, w.before args s = true) → s.vm.findClass y.cls = some m.cls → meth.locks = false → meth.name = y.name → zK g ca s → va_P g vwCl ws s.heap → va_D A ws → (∀ q : Nat, s.heap.size ≤ q → A q) → va_S A s.heap s.heap [] → lv_has ls maxL (lv_args 0 av) →
      W p l e R s m args below meth c s.heap [] 0 0 Q (F0 m 0 ls [])) : Met l y wd rm (va_Pc av (zP g ca ws sz)) (E (va_A ws sz)) mc ms (va_A ws sz) := by
  refine Met.ofW (cc := cc) (maxL := maxL) (ret := ret) hy hw ?_
  intro p e s m args below meth c s₁ B hml hv
  obtain ⟨rfl, hsz, hP, hK, hD0⟩ := hv
  subst hsz
  have hD := hD0.self (sz := s.heap.size)
  generalize hAe : va_A ws s.heap.size = A at hD ⊢
  have hA : ∀ q : Nat, s.heap.size ≤ q → A q := fun q h => by rw [← hAe]; exact Or.inr h
  have hl := lv_entry av (n := maxL) hlen
  rw [lg_entry_eq]
  generalize (lg_sl av ++ List.replicate (maxL - (lg_sl av).length) Slot.unset).toArray = ls at hl ⊢
  exact body p e s m below meth c A ls _ _ _ rfl rfl rfl B.exec B.bytes hml B.returns (atoms_spec (ws := wd) B.pre) (findClass_of_methodNamed B.named) B.notSynchronized (name_of_methodNamed B.named B.method).1 hK hP hD hA va_S.rf hl
theorem zm_I {S : Type} {l : Launch} {y : MethodName} {wd ws' : List Cond} {rm : Room} {g : va_G} {ca : Nat → ClassId} {av : List Value} {ws : va_W} {post : Int → S → Prop} {w1 : S → va_W} {mc ms : Nat} {cc : ByteArray} {maxL : Nat} {ret : Option FieldType} (hy : plainName y.cls = true) (hw : wd = Cond.code y cc maxL ret :: ws') (hlen : (lg_sl av).length ≤ maxL)
    (body : ∀ (p : Program) (e : Env) (s : State) (m : MethodId) (below : List Frame) (meth : Method) (c : Code) (A : Nat → Prop) (ls : Array Slot) (R : Room) (args : Array Value) (Q : State → Prop), R = rm → args = av.toArray → Q = MQ below (zEI g A post w1) args s mc ms A → p.tables.exec = Jvm.exec → c.code = cc → c.maxLocals = maxL → meth.sig.returnType = ret → (∀ w ∈ wd, w.before args s = true) → s.vm.findClass y.cls = some m.cls → meth.locks = false → meth.name = y.name → zK g ca s → va_P g vwCl ws s.heap → va_D A ws → (∀ q : Nat, s.heap.size ≤ q → A q) → va_S A s.heap s.heap [] → lv_has ls maxL (lv_args 0 av) →
      W p l e R s m args below meth c s.heap [] 0 0 Q (F0 m 0 ls [])) : zI l y wd rm g ca av ws post w1 mc ms := fun sz => zm_start (E := fun A => zEI g A post w1) hy hw hlen body
theorem zm_J {S : Type} {l : Launch} {y : MethodName} {wd ws' : List Cond} {rm : Room} {g : va_G} {ca : Nat → ClassId} {av : List Value} {ws : va_W} {post : Int → S → Prop} {w1 : S → va_W} {mc ms : Nat} {cc : ByteArray} {maxL : Nat} {ret : Option FieldType} (hy : plainName y.cls = true) (hw : wd = Cond.code y cc maxL ret :: ws') (hlen : (lg_sl av).length ≤ maxL)
    (body : ∀ (p : Program) (e : Env) (s : State) (m : MethodId) (below : List Frame) (meth : Method) (c : Code) (A : Nat → Prop) (ls : Array Slot) (R : Room) (args : Array Value) (Q : State → Prop), R = rm → args = av.toArray → Q = MQ below (zEJ g A post w1) args s mc ms A → p.tables.exec = Jvm.exec → c.code = cc → c.maxLocals = maxL → meth.sig.returnType = ret → (∀ w ∈ wd, w.before args s = true) → s.vm.findClass y.cls = some m.cls → meth.locks = false → meth.name = y.name → zK g ca s → va_P g vwCl ws s.heap → va_D A ws → (∀ q : Nat, s.heap.size ≤ q → A q) → va_S A s.heap s.heap [] → lv_has ls maxL (lv_args 0 av) →
      W p l e R s m args below meth c s.heap [] 0 0 Q (F0 m 0 ls [])) : zJ l y wd rm g ca av ws post w1 mc ms := fun sz => zm_start (E := fun A => zEJ g A post w1) hy hw hlen body
theorem zm_V {S : Type} {l : Launch} {y : MethodName} {wd ws' : List Cond} {rm : Room} {g : va_G} {ca : Nat → ClassId} {av : List Value} {ws : va_W} {post : S → Prop} {w1 : S → va_W} {mc ms : Nat} {cc : ByteArray} {maxL : Nat} {ret : Option FieldType} (hy : plainName y.cls = true) (hw : wd = Cond.code y cc maxL ret :: ws') (hlen : (lg_sl av).length ≤ maxL)
    (body : ∀ (p : Program) (e : Env) (s : State) (m : MethodId) (below : List Frame) (meth : Method) (c : Code) (A : Nat → Prop) (ls : Array Slot) (R : Room) (args : Array Value) (Q : State → Prop), R = rm → args = av.toArray → Q = MQ below (zEV g A post w1) args s mc ms A → p.tables.exec = Jvm.exec → c.code = cc → c.maxLocals = maxL → meth.sig.returnType = ret → (∀ w ∈ wd, w.before args s = true) → s.vm.findClass y.cls = some m.cls → meth.locks = false → meth.name = y.name → zK g ca s → va_P g vwCl ws s.heap → va_D A ws → (∀ q : Nat, s.heap.size ≤ q → A q) → va_S A s.heap s.heap [] → lv_has ls maxL (lv_args 0 av) →
      W p l e R s m args below meth c s.heap [] 0 0 Q (F0 m 0 ls [])) : zV l y wd rm g ca av ws post w1 mc ms := fun sz => zm_start (E := fun A => zEV g A post w1) hy hw hlen body
section ZC
variable {p : Program} {l : Launch} {e : Env} {R : Room} {s : State} {m : MethodId} {args : Array Value} {below : List Frame} {meth : Method} {c : Code} {H : Heap} {locs : List Loc} {cells slots : Nat} {Q : State → Prop}
variable {cc : ByteArray} {pc : Nat} {ls : Array Slot} {rest : List Value} {g : va_G} {ca : Nat → ClassId} {A : Nat → Prop} {mc ms : Nat}
theorem zr_I {S : Type} {post : Int → S → Prop} {w1 : S → va_W} {z : Int} (hexec : p.tables.exec = Jvm.exec) (hb : c.code = cc) (hr : meth.sig.returnType = some .int) (hlocks : meth.locks = false) (hQ : Q = MQ below (zEI g A post w1) args s mc ms A) (u : S) (hP : va_P g vwCl (w1 u) H) (hD : va_D A (w1 u)) (hS : va_S A s.heap H locs) (hdg : decode cc pc = .ok (.ireturn, 1)) (hc : cells ≤ mc) (hs : slots ≤ ms) (hpost : post z u) : W p l e R s m args below meth c H locs cells slots Q (F0 m pc ls [vI z]) := by
  subst hQ
  refine W.widen (k := mc) (n := ms) hc hs ?_
  exact W.iret (v := Int32.ofInt z) hexec hb hr (fun t ht hW => ⟨⟨Int32.ofInt z, u, rfl, ⟨z, rfl, hpost⟩, by rw [ht]; exact hP, hD⟩, hS.F ht⟩) hS.2.2 hdg hlocks
theorem zr_Z {S : Type} {post : Int → S → Prop} {w1 : S → va_W} {z : Int} (hexec : p.tables.exec = Jvm.exec) (hb : c.code = cc) (hr : meth.sig.returnType = some .boolean) (hlocks : meth.locks = false) (hQ : Q = MQ below (zEI g A post w1) args s mc ms A) (u : S) (hP : va_P g vwCl (w1 u) H) (hD : va_D A (w1 u)) (hS : va_S A s.heap H locs) (hdg : decode cc pc = .ok (.ireturn, 1)) (hc : cells ≤ mc) (hs : slots ≤ ms) (hz : z = 0 ∨ z = 1) (hpost : post z u) : W p l e R s m args below meth c H locs cells slots Q (F0 m pc ls [vI z]) := by
  subst hQ
  refine W.widen (k := mc) (n := ms) hc hs ?_
  exact W.zret (v := Int32.ofInt z) hexec hb hr (by rcases hz with rfl | rfl <;> decide) (fun t ht hW => ⟨⟨Int32.ofInt z, u, rfl, ⟨z, rfl, hpost⟩, by rw [ht]; exact hP, hD⟩, hS.F ht⟩) hS.2.2 hdg hlocks
theorem zr_J {S : Type} {post : Int → S → Prop} {w1 : S → va_W} {z : Int} (hexec : p.tables.exec = Jvm.exec) (hb : c.code = cc) (hr : meth.sig.returnType = some .long) (hlocks : meth.locks = false) (hQ : Q = MQ below (zEJ g A post w1) args s mc ms A) (u : S) (hP : va_P g vwCl (w1 u) H) (hD : va_D A (w1 u)) (hS : va_S A s.heap H locs) (hdg : decode cc pc = .ok (.lreturn, 1)) (hc : cells ≤ mc) (hs : slots ≤ ms) (hpost : post z u) : W p l e R s m args below meth c H locs cells slots Q (F0 m pc ls [vJ z]) := by
  subst hQ
  refine W.widen (k := mc) (n := ms) hc hs ?_
  exact W.lret (v := Int64.ofInt z) hexec hb hr (fun t ht hW => ⟨⟨Int64.ofInt z, u, rfl, ⟨z, rfl, hpost⟩, by rw [ht]; exact hP, hD⟩, hS.F ht⟩) hS.2.2 hdg hlocks
theorem zr_V {S : Type} {post : S → Prop} {w1 : S → va_W} (hexec : p.tables.exec = Jvm.exec) (hb : c.code = cc) (hr : meth.sig.returnType = none) (hlocks : meth.locks = false) (hQ : Q = MQ below (zEV g A post w1) args s mc ms A) (u : S) (hP : va_P g vwCl (w1 u) H) (hD : va_D A (w1 u)) (hS : va_S A s.heap H locs) (hdg : decode cc pc = .ok (.return_, 1)) (hc : cells ≤ mc) (hs : slots ≤ ms) (hpost : post u) : W p l e R s m args below meth c H locs cells slots Q (F0 m pc ls []) := by
  subst hQ
  refine W.widen (k := mc) (n := ms) hc hs ?_
  exact W.vret hexec hb hr (fun t ht hW => ⟨⟨u, rfl, hpost, by rw [ht]; exact hP, hD⟩, hS.F ht⟩) hS.2.2 hdg hlocks
variable {y : MethodName} {bytes : ByteArray} {maxL nL n index : Nat} {ret : Option FieldType} {wd Ts : List Cond} {rm : Room} {own C host : String} {b : Nat} {As st0 : List Value} {ws wc wr : va_W}
theorem zc_VI {S : Type} {post : Int → S → Prop} {w1 : S → va_W} (hM : zI l y wd rm g ca (.ref b :: As) wc post w1 mc ms) (hdg : decode cc pc = .ok (.invokevirtual index, 3)) (cw : CallW R s args own C index y bytes maxL ret wd rm mc ms n) (hS0 : CallFix p m c cc nL s args Ts own) (hl : ls.size = nL) (hK : zK g ca s) (hP : va_P g vwCl ws H) (hD : va_D A ws) (hS : va_S A s.heap H locs) (hA : ∀ q : Nat, s.heap.size ≤ q → A q) (q0 : Nat) {ci : Nat} {q : vw_C} {fs : List Value} (hc : vwCl[ci]? = some q) (hq : q.1 = C) (he : ws[q0]? = some (b, .inr (ci, fs))) (isC isR : List Nat) (hC : isC.map (fun i => ws[i]?) = wc.map some) (hC1 : va_nd isC = true) (hR : isR.map (fun i => ws[i]?) = wr.map some) (hR1 : va_nd isR = true) (hdis : ∀ i ∈ isR, i ∉ isC) (hn : As.length = n) (hst : st0 = As.reverse ++ .ref b :: rest) (hW8 : (rest.map fun v => v.category).sum ≤ 8) (hf : cells + mc ≤ R.cells ∧ slots + ms ≤ R.slots)
    (k : ∀ (z : Int) (u : S) (H1 : Heap) (locs1 : List Loc), post z u → va_P g vwCl (wr ++ w1 u) H1 → va_D A (wr ++ w1 u) → va_S A s.heap H1 locs1 → W p l e R s m args below meth c H1 locs1 (cells + mc) (slots + ms) Q (F0 m (pc + 3) ls (vI z :: rest))) : W p l e R s m args below meth c H locs cells slots Q (F0 m pc ls st0) := by
  have hPc : va_P g vwCl wc H := fun k9 x hx => by
    have h1 : (isC.map (fun i => ws[i]?))[k9]? = some (some x) := by rw [hC, List.getElem?_map, hx]; rfl
    rw [List.getElem?_map] at h1
    cases hi : isC[k9]? with
    | none => rw [hi] at h1; cases h1
    | some i => rw [hi] at h1; exact hP i x (Option.some.inj h1)
  have hDc : va_D A wc := hD.sub isC hC1 hC
  have hFc := va_free (wc := wc) hD hS hA isC hC
  refine va_calli (va_runV (As := As) (rest := rest) hS0 (hM H.size) cw ⟨zP.blind, by rw [← hq]; exact va_recv hK.1 hP hc he, fun U hU hW => ⟨rfl, by rw [hU], by rw [hU]; exact hPc, zK.warm hW hK, hDc.weaken (fun _ _ _ _ => trivial)⟩⟩ rfl hn hl hst (lv_room hW8) hdg hf) hS (fun q _ h => hFc q h) hFc (fun r u t H1 locs1 ht hvm hw hB hz1 hk1 hS1 => ?_)
  obtain ⟨z, rfl, hw⟩ := hw
  have hP0 : va_P g vwCl (w1 u) H1 := by have := hB.1; rw [ht] at this; exact this
  obtain ⟨hP1, hD1⟩ := va_join (wr := wr) (w1 := w1 u) hP hD isC isR hC hR hR1 hdis hk1 hFc hP0 hB.2
  exact k z u H1 locs1 hw hP1 hD1 hS1
theorem zc_VJ {S : Type} {post : Int → S → Prop} {w1 : S → va_W} (hM : zJ l y wd rm g ca (.ref b :: As) wc post w1 mc ms) (hdg : decode cc pc = .ok (.invokevirtual index, 3)) (cw : CallW R s args own C index y bytes maxL ret wd rm mc ms n) (hS0 : CallFix p m c cc nL s args Ts own) (hl : ls.size = nL) (hK : zK g ca s) (hP : va_P g vwCl ws H) (hD : va_D A ws) (hS : va_S A s.heap H locs) (hA : ∀ q : Nat, s.heap.size ≤ q → A q) (q0 : Nat) {ci : Nat} {q : vw_C} {fs : List Value} (hc : vwCl[ci]? = some q) (hq : q.1 = C) (he : ws[q0]? = some (b, .inr (ci, fs))) (isC isR : List Nat) (hC : isC.map (fun i => ws[i]?) = wc.map some) (hC1 : va_nd isC = true) (hR : isR.map (fun i => ws[i]?) = wr.map some) (hR1 : va_nd isR = true) (hdis : ∀ i ∈ isR, i ∉ isC) (hn : As.length = n) (hst : st0 = As.reverse ++ .ref b :: rest) (hW8 : (rest.map fun v => v.category).sum ≤ 8) (hf : cells + mc ≤ R.cells ∧ slots + ms ≤ R.slots)
    (k : ∀ (z : Int) (u : S) (H1 : Heap) (locs1 : List Loc), post z u → va_P g vwCl (wr ++ w1 u) H1 → va_D A (wr ++ w1 u) → va_S A s.heap H1 locs1 → W p l e R s m args below meth c H1 locs1 (cells + mc) (slots + ms) Q (F0 m (pc + 3) ls (vJ z :: rest))) : W p l e R s m args below meth c H locs cells slots Q (F0 m pc ls st0) := by
  have hPc : va_P g vwCl wc H := fun k9 x hx => by
    have h1 : (isC.map (fun i => ws[i]?))[k9]? = some (some x) := by rw [hC, List.getElem?_map, hx]; rfl
    rw [List.getElem?_map] at h1
    cases hi : isC[k9]? with
    | none => rw [hi] at h1; cases h1
    | some i => rw [hi] at h1; exact hP i x (Option.some.inj h1)
  have hDc : va_D A wc := hD.sub isC hC1 hC
  have hFc := va_free (wc := wc) hD hS hA isC hC
  refine va_calll (va_runV (As := As) (rest := rest) hS0 (hM H.size) cw ⟨zP.blind, by rw [← hq]; exact va_recv hK.1 hP hc he, fun U hU hW => ⟨rfl, by rw [hU], by rw [hU]; exact hPc, zK.warm hW hK, hDc.weaken (fun _ _ _ _ => trivial)⟩⟩ rfl hn hl hst (lv_room hW8) hdg hf) hS (fun q _ h => hFc q h) hFc (fun r u t H1 locs1 ht hvm hw hB hz1 hk1 hS1 => ?_)
  obtain ⟨z, rfl, hw⟩ := hw
  have hP0 : va_P g vwCl (w1 u) H1 := by have := hB.1; rw [ht] at this; exact this
  obtain ⟨hP1, hD1⟩ := va_join (wr := wr) (w1 := w1 u) hP hD isC isR hC hR hR1 hdis hk1 hFc hP0 hB.2
  exact k z u H1 locs1 hw hP1 hD1 hS1
theorem zc_VV {S : Type} {post : S → Prop} {w1 : S → va_W} (hM : zV l y wd rm g ca (.ref b :: As) wc post w1 mc ms) (hdg : decode cc pc = .ok (.invokevirtual index, 3)) (cw : CallW R s args own C index y bytes maxL ret wd rm mc ms n) (hS0 : CallFix p m c cc nL s args Ts own) (hl : ls.size = nL) (hK : zK g ca s) (hP : va_P g vwCl ws H) (hD : va_D A ws) (hS : va_S A s.heap H locs) (hA : ∀ q : Nat, s.heap.size ≤ q → A q) (q0 : Nat) {ci : Nat} {q : vw_C} {fs : List Value} (hc : vwCl[ci]? = some q) (hq : q.1 = C) (he : ws[q0]? = some (b, .inr (ci, fs))) (isC isR : List Nat) (hC : isC.map (fun i => ws[i]?) = wc.map some) (hC1 : va_nd isC = true) (hR : isR.map (fun i => ws[i]?) = wr.map some) (hR1 : va_nd isR = true) (hdis : ∀ i ∈ isR, i ∉ isC) (hn : As.length = n) (hst : st0 = As.reverse ++ .ref b :: rest) (hW8 : (rest.map fun v => v.category).sum ≤ 8) (hf : cells + mc ≤ R.cells ∧ slots + ms ≤ R.slots)
    (k : ∀ (u : S) (H1 : Heap) (locs1 : List Loc), post u → va_P g vwCl (wr ++ w1 u) H1 → va_D A (wr ++ w1 u) → va_S A s.heap H1 locs1 → W p l e R s m args below meth c H1 locs1 (cells + mc) (slots + ms) Q (F0 m (pc + 3) ls (rest))) : W p l e R s m args below meth c H locs cells slots Q (F0 m pc ls st0) := by
  have hPc : va_P g vwCl wc H := fun k9 x hx => by
    have h1 : (isC.map (fun i => ws[i]?))[k9]? = some (some x) := by rw [hC, List.getElem?_map, hx]; rfl
    rw [List.getElem?_map] at h1
    cases hi : isC[k9]? with
    | none => rw [hi] at h1; cases h1
    | some i => rw [hi] at h1; exact hP i x (Option.some.inj h1)
  have hDc : va_D A wc := hD.sub isC hC1 hC
  have hFc := va_free (wc := wc) hD hS hA isC hC
  refine va_callv (va_runV (As := As) (rest := rest) hS0 (hM H.size) cw ⟨zP.blind, by rw [← hq]; exact va_recv hK.1 hP hc he, fun U hU hW => ⟨rfl, by rw [hU], by rw [hU]; exact hPc, zK.warm hW hK, hDc.weaken (fun _ _ _ _ => trivial)⟩⟩ rfl hn hl hst (lv_room hW8) hdg hf) hS (fun q _ h => hFc q h) hFc (fun u t H1 locs1 ht hvm hw hB hz1 hk1 hS1 => ?_)
  have hP0 : va_P g vwCl (w1 u) H1 := by have := hB.1; rw [ht] at this; exact this
  obtain ⟨hP1, hD1⟩ := va_join (wr := wr) (w1 := w1 u) hP hD isC isR hC hR hR1 hdis hk1 hFc hP0 hB.2
  exact k u H1 locs1 hw hP1 hD1 hS1
theorem zc_SI {S : Type} {post : Int → S → Prop} {w1 : S → va_W} (hM : zI l y wd rm g ca As wc post w1 mc ms) (hdg : decode cc pc = .ok (.invokestatic index, 3)) (cw : CallB R s args own index y bytes maxL ret wd rm mc ms n ∧ (Cond.static y).before args s = true) (hS0 : CallFix p m c cc nL s args Ts own) (hl : ls.size = nL) (hK : zK g ca s) (hP : va_P g vwCl ws H) (hD : va_D A ws) (hS : va_S A s.heap H locs) (hA : ∀ q : Nat, s.heap.size ≤ q → A q) (isC isR : List Nat) (hC : isC.map (fun i => ws[i]?) = wc.map some) (hC1 : va_nd isC = true) (hR : isR.map (fun i => ws[i]?) = wr.map some) (hR1 : va_nd isR = true) (hdis : ∀ i ∈ isR, i ∉ isC) (hn : As.length = n) (hst : st0 = As.reverse ++ rest) (hW8 : (rest.map fun v => v.category).sum ≤ 8) (hf : cells + mc ≤ R.cells ∧ slots + ms ≤ R.slots)
    (k : ∀ (z : Int) (u : S) (H1 : Heap) (locs1 : List Loc), post z u → va_P g vwCl (wr ++ w1 u) H1 → va_D A (wr ++ w1 u) → va_S A s.heap H1 locs1 → W p l e R s m args below meth c H1 locs1 (cells + mc) (slots + ms) Q (F0 m (pc + 3) ls (vI z :: rest))) : W p l e R s m args below meth c H locs cells slots Q (F0 m pc ls st0) := by
  have hPc : va_P g vwCl wc H := fun k9 x hx => by
    have h1 : (isC.map (fun i => ws[i]?))[k9]? = some (some x) := by rw [hC, List.getElem?_map, hx]; rfl
    rw [List.getElem?_map] at h1
    cases hi : isC[k9]? with
    | none => rw [hi] at h1; cases h1
    | some i => rw [hi] at h1; exact hP i x (Option.some.inj h1)
  have hDc : va_D A wc := hD.sub isC hC1 hC
  have hFc := va_free (wc := wc) hD hS hA isC hC
  refine va_calli (va_runS (As := As) (rest := rest) hS0 (hM H.size) cw ⟨zP.blind, fun U hU hW => ⟨rfl, by rw [hU], by rw [hU]; exact hPc, zK.warm hW hK, hDc.weaken (fun _ _ _ _ => trivial)⟩⟩ rfl hn hl hst (lv_room hW8) hdg hf) hS (fun q _ h => hFc q h) hFc (fun r u t H1 locs1 ht hvm hw hB hz1 hk1 hS1 => ?_)
  obtain ⟨z, rfl, hw⟩ := hw
  have hP0 : va_P g vwCl (w1 u) H1 := by have := hB.1; rw [ht] at this; exact this
  obtain ⟨hP1, hD1⟩ := va_join (wr := wr) (w1 := w1 u) hP hD isC isR hC hR hR1 hdis hk1 hFc hP0 hB.2
  exact k z u H1 locs1 hw hP1 hD1 hS1
theorem zc_SJ {S : Type} {post : Int → S → Prop} {w1 : S → va_W} (hM : zJ l y wd rm g ca As wc post w1 mc ms) (hdg : decode cc pc = .ok (.invokestatic index, 3)) (cw : CallB R s args own index y bytes maxL ret wd rm mc ms n ∧ (Cond.static y).before args s = true) (hS0 : CallFix p m c cc nL s args Ts own) (hl : ls.size = nL) (hK : zK g ca s) (hP : va_P g vwCl ws H) (hD : va_D A ws) (hS : va_S A s.heap H locs) (hA : ∀ q : Nat, s.heap.size ≤ q → A q) (isC isR : List Nat) (hC : isC.map (fun i => ws[i]?) = wc.map some) (hC1 : va_nd isC = true) (hR : isR.map (fun i => ws[i]?) = wr.map some) (hR1 : va_nd isR = true) (hdis : ∀ i ∈ isR, i ∉ isC) (hn : As.length = n) (hst : st0 = As.reverse ++ rest) (hW8 : (rest.map fun v => v.category).sum ≤ 8) (hf : cells + mc ≤ R.cells ∧ slots + ms ≤ R.slots)
    (k : ∀ (z : Int) (u : S) (H1 : Heap) (locs1 : List Loc), post z u → va_P g vwCl (wr ++ w1 u) H1 → va_D A (wr ++ w1 u) → va_S A s.heap H1 locs1 → W p l e R s m args below meth c H1 locs1 (cells + mc) (slots + ms) Q (F0 m (pc + 3) ls (vJ z :: rest))) : W p l e R s m args below meth c H locs cells slots Q (F0 m pc ls st0) := by
  have hPc : va_P g vwCl wc H := fun k9 x hx => by
    have h1 : (isC.map (fun i => ws[i]?))[k9]? = some (some x) := by rw [hC, List.getElem?_map, hx]; rfl
    rw [List.getElem?_map] at h1
    cases hi : isC[k9]? with
    | none => rw [hi] at h1; cases h1
    | some i => rw [hi] at h1; exact hP i x (Option.some.inj h1)
  have hDc : va_D A wc := hD.sub isC hC1 hC
  have hFc := va_free (wc := wc) hD hS hA isC hC
  refine va_calll (va_runS (As := As) (rest := rest) hS0 (hM H.size) cw ⟨zP.blind, fun U hU hW => ⟨rfl, by rw [hU], by rw [hU]; exact hPc, zK.warm hW hK, hDc.weaken (fun _ _ _ _ => trivial)⟩⟩ rfl hn hl hst (lv_room hW8) hdg hf) hS (fun q _ h => hFc q h) hFc (fun r u t H1 locs1 ht hvm hw hB hz1 hk1 hS1 => ?_)
  obtain ⟨z, rfl, hw⟩ := hw
  have hP0 : va_P g vwCl (w1 u) H1 := by have := hB.1; rw [ht] at this; exact this
  obtain ⟨hP1, hD1⟩ := va_join (wr := wr) (w1 := w1 u) hP hD isC isR hC hR hR1 hdis hk1 hFc hP0 hB.2
  exact k z u H1 locs1 hw hP1 hD1 hS1
theorem zc_SV {S : Type} {post : S → Prop} {w1 : S → va_W} (hM : zV l y wd rm g ca As wc post w1 mc ms) (hdg : decode cc pc = .ok (.invokestatic index, 3)) (cw : CallB R s args own index y bytes maxL ret wd rm mc ms n ∧ (Cond.static y).before args s = true) (hS0 : CallFix p m c cc nL s args Ts own) (hl : ls.size = nL) (hK : zK g ca s) (hP : va_P g vwCl ws H) (hD : va_D A ws) (hS : va_S A s.heap H locs) (hA : ∀ q : Nat, s.heap.size ≤ q → A q) (isC isR : List Nat) (hC : isC.map (fun i => ws[i]?) = wc.map some) (hC1 : va_nd isC = true) (hR : isR.map (fun i => ws[i]?) = wr.map some) (hR1 : va_nd isR = true) (hdis : ∀ i ∈ isR, i ∉ isC) (hn : As.length = n) (hst : st0 = As.reverse ++ rest) (hW8 : (rest.map fun v => v.category).sum ≤ 8) (hf : cells + mc ≤ R.cells ∧ slots + ms ≤ R.slots)
    (k : ∀ (u : S) (H1 : Heap) (locs1 : List Loc), post u → va_P g vwCl (wr ++ w1 u) H1 → va_D A (wr ++ w1 u) → va_S A s.heap H1 locs1 → W p l e R s m args below meth c H1 locs1 (cells + mc) (slots + ms) Q (F0 m (pc + 3) ls (rest))) : W p l e R s m args below meth c H locs cells slots Q (F0 m pc ls st0) := by
  have hPc : va_P g vwCl wc H := fun k9 x hx => by
    have h1 : (isC.map (fun i => ws[i]?))[k9]? = some (some x) := by rw [hC, List.getElem?_map, hx]; rfl
    rw [List.getElem?_map] at h1
    cases hi : isC[k9]? with
    | none => rw [hi] at h1; cases h1
    | some i => rw [hi] at h1; exact hP i x (Option.some.inj h1)
  have hDc : va_D A wc := hD.sub isC hC1 hC
  have hFc := va_free (wc := wc) hD hS hA isC hC
  refine va_callv (va_runS (As := As) (rest := rest) hS0 (hM H.size) cw ⟨zP.blind, fun U hU hW => ⟨rfl, by rw [hU], by rw [hU]; exact hPc, zK.warm hW hK, hDc.weaken (fun _ _ _ _ => trivial)⟩⟩ rfl hn hl hst (lv_room hW8) hdg hf) hS (fun q _ h => hFc q h) hFc (fun u t H1 locs1 ht hvm hw hB hz1 hk1 hS1 => ?_)
  have hP0 : va_P g vwCl (w1 u) H1 := by have := hB.1; rw [ht] at this; exact this
  obtain ⟨hP1, hD1⟩ := va_join (wr := wr) (w1 := w1 u) hP hD isC isR hC hR hR1 hdis hk1 hFc hP0 hB.2
  exact k u H1 locs1 hw hP1 hD1 hS1
theorem zc_IV {S : Type} {post : S → Prop} {w1 : S → va_W} (hM : zV l y wd rm g ca (.ref b :: As) wc post w1 mc ms) (hdg : decode cc pc = .ok (.invokespecial index, 3)) (cw : CallB R s args own index y bytes maxL none wd rm mc ms n ∧ y.name = "<init>" ∧ (Cond.instanceMethod y).before args s = true) (hS0 : CallFix p m c cc nL s args Ts own) (hl : ls.size = nL) (hK : zK g ca s) (hP : va_P g vwCl ws H) (hD : va_D A ws) (hS : va_S A s.heap H locs) (hA : ∀ q : Nat, s.heap.size ≤ q → A q) (isC isR : List Nat) (hC : isC.map (fun i => ws[i]?) = wc.map some) (hC1 : va_nd isC = true) (hR : isR.map (fun i => ws[i]?) = wr.map some) (hR1 : va_nd isR = true) (hdis : ∀ i ∈ isR, i ∉ isC) (hn : As.length = n) (hst : st0 = As.reverse ++ .ref b :: rest) (hW8 : (rest.map fun v => v.category).sum ≤ 8) (hf : cells + mc ≤ R.cells ∧ slots + ms ≤ R.slots)
    (k : ∀ (u : S) (H1 : Heap) (locs1 : List Loc), post u → va_P g vwCl (wr ++ w1 u) H1 → va_D A (wr ++ w1 u) → va_S A s.heap H1 locs1 → W p l e R s m args below meth c H1 locs1 (cells + mc) (slots + ms) Q (F0 m (pc + 3) ls (rest))) : W p l e R s m args below meth c H locs cells slots Q (F0 m pc ls st0) := by
  have hPc : va_P g vwCl wc H := fun k9 x hx => by
    have h1 : (isC.map (fun i => ws[i]?))[k9]? = some (some x) := by rw [hC, List.getElem?_map, hx]; rfl
    rw [List.getElem?_map] at h1
    cases hi : isC[k9]? with
    | none => rw [hi] at h1; cases h1
    | some i => rw [hi] at h1; exact hP i x (Option.some.inj h1)
  have hDc : va_D A wc := hD.sub isC hC1 hC
  have hFc := va_free (wc := wc) hD hS hA isC hC
  refine va_callv (va_runI (As := As) (rest := rest) hS0 (hM H.size) cw ⟨zP.blind, fun U hU hW => ⟨rfl, by rw [hU], by rw [hU]; exact hPc, zK.warm hW hK, hDc.weaken (fun _ _ _ _ => trivial)⟩⟩ rfl hn hl hst (lv_room hW8) hdg hf) hS (fun q _ h => hFc q h) hFc (fun u t H1 locs1 ht hvm hw hB hz1 hk1 hS1 => ?_)
  have hP0 : va_P g vwCl (w1 u) H1 := by have := hB.1; rw [ht] at this; exact this
  obtain ⟨hP1, hD1⟩ := va_join (wr := wr) (w1 := w1 u) hP hD isC isR hC hR hR1 hdis hk1 hFc hP0 hB.2
  exact k u H1 locs1 hw hP1 hD1 hS1
theorem zc_NSI {S : Type} {post : Int → S → Prop} {w1 : S → va_W} (hM : zI l y wd rm g ca As wc post w1 mc ms) (hdg : decode cc pc = .ok (.invokestatic index, 3)) (cw : va_CN R s args own index y host bytes maxL ret wd rm mc ms n ∧ (Cond.static y).before args s = true ∧ True) (hS0 : CallFix p m c cc nL s args Ts own) (hl : ls.size = nL) (hK : zK g ca s) (hP : va_P g vwCl ws H) (hD : va_D A ws) (hS : va_S A s.heap H locs) (hA : ∀ q : Nat, s.heap.size ≤ q → A q) (isC isR : List Nat) (hC : isC.map (fun i => ws[i]?) = wc.map some) (hC1 : va_nd isC = true) (hR : isR.map (fun i => ws[i]?) = wr.map some) (hR1 : va_nd isR = true) (hdis : ∀ i ∈ isR, i ∉ isC) (hn : As.length = n) (hst : st0 = As.reverse ++ rest) (hW8 : (rest.map fun v => v.category).sum ≤ 8) (hf : cells + mc ≤ R.cells ∧ slots + ms ≤ R.slots)
    (k : ∀ (z : Int) (u : S) (H1 : Heap) (locs1 : List Loc), post z u → va_P g vwCl (wr ++ w1 u) H1 → va_D A (wr ++ w1 u) → va_S A s.heap H1 locs1 → W p l e R s m args below meth c H1 locs1 (cells + mc) (slots + ms) Q (F0 m (pc + 3) ls (vI z :: rest))) : W p l e R s m args below meth c H locs cells slots Q (F0 m pc ls st0) := by
  have hPc : va_P g vwCl wc H := fun k9 x hx => by
    have h1 : (isC.map (fun i => ws[i]?))[k9]? = some (some x) := by rw [hC, List.getElem?_map, hx]; rfl
    rw [List.getElem?_map] at h1
    cases hi : isC[k9]? with
    | none => rw [hi] at h1; cases h1
    | some i => rw [hi] at h1; exact hP i x (Option.some.inj h1)
  have hDc : va_D A wc := hD.sub isC hC1 hC
  have hFc := va_free (wc := wc) hD hS hA isC hC
  refine va_calli (va_runSN (As := As) (rest := rest) hS0 (hM H.size) cw ⟨zP.blind, fun U hU hW => ⟨rfl, by rw [hU], by rw [hU]; exact hPc, zK.warm hW hK, hDc.weaken (fun _ _ _ _ => trivial)⟩⟩ rfl hn hl hst (lv_room hW8) hdg hf) hS (fun q _ h => hFc q h) hFc (fun r u t H1 locs1 ht hvm hw hB hz1 hk1 hS1 => ?_)
  obtain ⟨z, rfl, hw⟩ := hw
  have hP0 : va_P g vwCl (w1 u) H1 := by have := hB.1; rw [ht] at this; exact this
  obtain ⟨hP1, hD1⟩ := va_join (wr := wr) (w1 := w1 u) hP hD isC isR hC hR hR1 hdis hk1 hFc hP0 hB.2
  exact k z u H1 locs1 hw hP1 hD1 hS1
theorem zc_NIV {S : Type} {post : S → Prop} {w1 : S → va_W} (hM : zV l y wd rm g ca (.ref b :: As) wc post w1 mc ms) (hdg : decode cc pc = .ok (.invokespecial index, 3)) (cw : va_CN R s args own index y host bytes maxL none wd rm mc ms n ∧ y.name = "<init>" ∧ (Cond.instanceMethod y).before args s = true) (hS0 : CallFix p m c cc nL s args Ts own) (hl : ls.size = nL) (hK : zK g ca s) (hP : va_P g vwCl ws H) (hD : va_D A ws) (hS : va_S A s.heap H locs) (hA : ∀ q : Nat, s.heap.size ≤ q → A q) (isC isR : List Nat) (hC : isC.map (fun i => ws[i]?) = wc.map some) (hC1 : va_nd isC = true) (hR : isR.map (fun i => ws[i]?) = wr.map some) (hR1 : va_nd isR = true) (hdis : ∀ i ∈ isR, i ∉ isC) (hn : As.length = n) (hst : st0 = As.reverse ++ .ref b :: rest) (hW8 : (rest.map fun v => v.category).sum ≤ 8) (hf : cells + mc ≤ R.cells ∧ slots + ms ≤ R.slots)
    (k : ∀ (u : S) (H1 : Heap) (locs1 : List Loc), post u → va_P g vwCl (wr ++ w1 u) H1 → va_D A (wr ++ w1 u) → va_S A s.heap H1 locs1 → W p l e R s m args below meth c H1 locs1 (cells + mc) (slots + ms) Q (F0 m (pc + 3) ls (rest))) : W p l e R s m args below meth c H locs cells slots Q (F0 m pc ls st0) := by
  have hPc : va_P g vwCl wc H := fun k9 x hx => by
    have h1 : (isC.map (fun i => ws[i]?))[k9]? = some (some x) := by rw [hC, List.getElem?_map, hx]; rfl
    rw [List.getElem?_map] at h1
    cases hi : isC[k9]? with
    | none => rw [hi] at h1; cases h1
    | some i => rw [hi] at h1; exact hP i x (Option.some.inj h1)
  have hDc : va_D A wc := hD.sub isC hC1 hC
  have hFc := va_free (wc := wc) hD hS hA isC hC
  refine va_callv (va_runIN (As := As) (rest := rest) hS0 (hM H.size) cw ⟨zP.blind, fun U hU hW => ⟨rfl, by rw [hU], by rw [hU]; exact hPc, zK.warm hW hK, hDc.weaken (fun _ _ _ _ => trivial)⟩⟩ rfl hn hl hst (lv_room hW8) hdg hf) hS (fun q _ h => hFc q h) hFc (fun u t H1 locs1 ht hvm hw hB hz1 hk1 hS1 => ?_)
  have hP0 : va_P g vwCl (w1 u) H1 := by have := hB.1; rw [ht] at this; exact this
  obtain ⟨hP1, hD1⟩ := va_join (wr := wr) (w1 := w1 u) hP hD isC isR hC hR hR1 hdis hk1 hFc hP0 hB.2
  exact k u H1 locs1 hw hP1 hD1 hS1
end ZC
