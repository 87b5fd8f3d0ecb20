/-! Arrays of references: laid and written -/
section ZRW
variable {p : Program} {l : Launch} {e : Env} {R : Room} {s : State} {m : MethodId} {args : Array Value} {below : List Frame} {meth : Method} {c : Code} {H : Heap} {locs : List Loc} {cells slots : Nat} {Q : State → Prop}
variable {cc : ByteArray} {pc : Nat} {ls : Array Slot} {rest : List Value} {g : va_G} {ca : Nat → ClassId} {A : Nat → Prop} {ws : va_W} {H0 : Heap} {h : Nat}
theorem ra_newR (hexec : p.tables.exec = Jvm.exec) (hb : c.code = cc) {own : String} {index : Nat} (hown : s.vm.findClass own = some m.cls) (hclink : (Cond.classLink own index RX6).before args s = true) (hK : zK g ca s) (hP : va_P g vwCl ws H) (hD : va_D A ws) (hS : va_S A H0 H locs) (hA : ∀ q : Nat, H0.size ≤ q → A q) {z : Int} {N : Nat} (hdg : decode cc pc = .ok (.anewarray index, 3)) (hz : z = (N : Int)) (hN : N ≤ 100000) (hcells : cells + 1 ≤ R.cells) (hslots : slots + N ≤ R.slots)
    (k : ∀ (q : Nat) (H1 : Heap), va_P g vwCl (ws ++ [(q, aR ca N (fun _ => none))]) H1 → va_D A (ws ++ [(q, aR ca N (fun _ => none))]) → va_S A H0 H1 locs → W p l e R s m args below meth c H1 locs (cells + 1) (slots + N) Q (F0 m (pc + 3) ls (.ref q :: rest))) : W p l e R s m args below meth c H locs cells slots Q (F0 m pc ls (vI z :: rest)) := by
  have hz0 : 0 ≤ z ∧ z ≤ 2147483647 := ⟨by omega, by omega⟩
  refine va_newq hexec hb hown hclink hK.2.2.2.2.2.2.1 hK.1 hP hD hS hA (N' := N) (fun q => by rw [xi_z, xi_lt ⟨by omega, by omega⟩ ⟨by omega, by omega⟩] at q; omega) (by have := xi_cl hz0.1 hz0.2; omega) (by omega) hcells hslots hdg (fun q cA H1 hK1 hP1 hD1 hS1 => ?_)
  have e : cA = ca 3 := by
    obtain ⟨kA, cm, h1, h2, h3, h4⟩ := (hK1.2 5 _ rfl).2
    obtain ⟨kB, cn, g1, g2, g3, g4⟩ := (hK1.2 3 _ rfl).2
    exact Option.some.inj (h4.symm.trans g4)
  rw [e] at hP1 hD1
  exact k q H1 hP1 hD1 hS1
theorem ra_rst (hexec : p.tables.exec = Jvm.exec) (hb : c.code = cc) (hK : zK g ca s) (hP : va_P g vwCl ws H) (hD : va_D A ws) (hS : va_S A H0 H locs) (q0 qk : Nat) {n v : Nat} {vs : List Value} {f : Nat → Option Nat} {i : Int} (ha : ws[q0]? = some (h, aR ca n f)) (hv : ws[qk]? = some (v, oB 6 vs)) (hdg : decode cc pc = .ok (.aastore, 1)) (hi : 0 ≤ i ∧ i < n) (hi2 : i ≤ 2147483647)
    (k : ∀ (H1 : Heap) (locs1 : List Loc), va_P g vwCl (ws.set q0 (h, aR ca n (va_up f i.toNat (some v)))) H1 → va_D A (ws.set q0 (h, aR ca n (va_up f i.toNat (some v)))) → va_S A H0 H1 locs1 → W p l e R s m args below meth c H1 locs1 cells slots Q (F0 m (pc + 1) ls rest)) : W p l e R s m args below meth c H locs cells slots Q (F0 m pc ls (.ref v :: vI i :: .ref h :: rest)) := by
  refine va_astq (r := vwCl[6]) hexec hb hK.1 hP hD hS q0 3 qk 6 ha rfl hv rfl (xi_in hi hi2) hdg ?_
  rw [show (Int32.ofInt i).toNatClampNeg = i.toNat by have := xi_cl hi.1 hi2; omega]
  exact k
theorem ra_mna (hexec : p.tables.exec = Jvm.exec) (hb : c.code = cc) {own : String} {index : Nat} (hown : s.vm.findClass own = some m.cls) (hclink : (Cond.classLink own index "[[I").before args s = true) (harr : (Cond.arrayClass .int).before args s = true) (hK : zK g ca s) (hP : va_P g vwCl ws H) (hD : va_D A ws) (hS : va_S A H0 H locs) (hA : ∀ q : Nat, H0.size ≤ q → A q) (hdg : decode cc pc = .ok (.multianewarray index 2, 4)) (hcells : cells + 6 ≤ R.cells) (hslots : slots + 1500 ≤ R.slots)
    (k : ∀ (q : Nat) (r : Nat → Nat) (H1 : Heap), va_P g vwCl (ws ++ [(q, aQ ca 5 (fun i => if i < 5 then some (r i) else none)), (r 0, aI ca 299 (fun _ => 0)), (r 1, aI ca 299 (fun _ => 0)), (r 2, aI ca 299 (fun _ => 0)), (r 3, aI ca 299 (fun _ => 0)), (r 4, aI ca 299 (fun _ => 0))]) H1 → va_D A (ws ++ [(q, aQ ca 5 (fun i => if i < 5 then some (r i) else none)), (r 0, aI ca 299 (fun _ => 0)), (r 1, aI ca 299 (fun _ => 0)), (r 2, aI ca 299 (fun _ => 0)), (r 3, aI ca 299 (fun _ => 0)), (r 4, aI ca 299 (fun _ => 0))]) → va_S A H0 H1 locs → W p l e R s m args below meth c H1 locs (cells + 6) (slots + 1500) Q (F0 m (pc + 4) ls (.ref q :: rest))) : W p l e R s m args below meth c H locs cells slots Q (F0 m pc ls (vI 299 :: vI 5 :: rest)) := by
  have hcy : s.vm.findClass (FieldType.array .int).toString = some (ca 0) := (hK.1.2 0 _ rfl).2
  refine va_mna (X := ws) (L := []) (f := fun _ => .inl (0, 0, .inl (fun _ => 0))) (z := (299, .inl (fun j : Nat => Int32.ofInt ((fun _ => 0 : Int → Int) (j : Int))))) (N' := 5) (K' := 299) hexec hb hown hclink hK.2.2.2.2.2.2.2 harr hcy hK.1 (by rw [show va_pl [] _ = [] from rfl, List.append_nil]; exact hP) (by rw [show va_pl [] _ = [] from rfl, List.append_nil]; exact hD) hS hA (by decide) (by decide) (by decide) (by decide) (by decide) (by decide) (by decide) rfl rfl hcells hslots (fun cA => ?_) hdg (fun q r cA H1 _ _ hK1 hP1 hD1 hS1 => ?_)
  · show ({ cls := cA, slots := Array.replicate 299 (Value.int 0), vm := .none } : Cell) = arrV cA 299 (fun _ => Value.int 0)
    rw [arrV_new]
  · have e : cA = ca 4 := Option.some.inj ((hK1.2 5 _ rfl).2.symm.trans (hK1.2 4 _ rfl).2)
    rw [e, ← vr_rows (fun a _ h9 => by cases h9)] at hP1 hD1
    rw [show va_pl [] (fun _ : Nat => (.inl (0, 0, .inl (fun _ => 0)) : va_E)) = [] from rfl, List.nil_append, List.append_assoc] at hP1 hD1
    exact k q r H1 hP1 hD1 hS1
end ZRW
