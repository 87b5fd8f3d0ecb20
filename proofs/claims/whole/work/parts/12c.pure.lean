/-! Pure words: ITEMS, as the other class reads them -/
theorem itc_r {t : Int → Int} {n p sr sl st du : Int} (h : p < n) (ht : t p = 114) : itc t n p sr sl st du = (if sr = 0 then pn t n 1 20 (pn t n 1 9 (pn t n 1 99 (0, skp t n (p + 1)))) else (1, p)) := by
  have hk : kd t n p = 114 := (kd_sign h (by omega)).mpr ht
  have hn : nx t n p = skp t n (p + 1) := by unfold nx; rw [en_sign (by omega)]
  unfold itc
  rw [if_pos hk]
  split
  · rename_i q
    rw [q, ps_ok hk, hn]
  · rename_i q
    have e : ps t n 114 (sr, p) = (1, p) := if_neg (fun r => q r.1)
    rw [e, pn_bad, pn_bad, pn_bad]
theorem itc_l {t : Int → Int} {n p sr sl st du : Int} (h : p < n) (ht : t p = 108) : itc t n p sr sl st du = (if sl = 0 then pn t n (vl t n (skp t n (p + 1)) + 1) 9 (pn t n 1 8 (0, skp t n (p + 1))) else (1, p)) := by
  have hk : kd t n p = 108 := (kd_sign h (by omega)).mpr ht
  have hn : nx t n p = skp t n (p + 1) := by unfold nx; rw [en_sign (by omega)]
  unfold itc
  rw [if_neg (by omega), if_pos hk]
  split
  · rename_i q
    rw [q, ps_ok hk, hn]
  · rename_i q
    have e : ps t n 108 (sl, p) = (1, p) := if_neg (fun r => q r.1)
    rw [e, pn_bad, pn_bad]
theorem itc_t {t : Int → Int} {n p sr sl st du : Int} (h : p < n) (ht : t p = 116) : itc t n p sr sl st du = (if st = 0 then pn t n 0 9 (0, skp t n (p + 1)) else (1, p)) := by
  have hk : kd t n p = 116 := (kd_sign h (by omega)).mpr ht
  have hn : nx t n p = skp t n (p + 1) := by unfold nx; rw [en_sign (by omega)]
  unfold itc
  rw [if_neg (by omega), if_neg (by omega), if_pos hk]
  split
  · rename_i q
    rw [q, ps_ok hk, hn]
  · rename_i q
    have e : ps t n 116 (st, p) = (1, p) := if_neg (fun r => q r.1)
    rw [e, pn_bad]
theorem itc_p {t : Int → Int} {n p sr sl st du : Int} (h : p < n) (ht : t p = 112) : itc t n p sr sl st du = (if du < 6 then pn t n 1 200 (pn t n 1 120 (0, skp t n (p + 1))) else (1, p)) := by
  have hk : kd t n p = 112 := (kd_sign h (by omega)).mpr ht
  have hn : nx t n p = skp t n (p + 1) := by unfold nx; rw [en_sign (by omega)]
  unfold itc
  rw [if_neg (by omega), if_neg (by omega), if_neg (by omega), if_pos hk]
  split
  · rw [ps_ok hk, hn]
  · rw [ps_bad, pn_bad, pn_bad]
theorem itc_x {t : Int → Int} {n p sr sl st du : Int} (h : p < n) (ht : ¬ (t p = 114 ∨ t p = 108 ∨ t p = 116 ∨ t p = 112)) : itc t n p sr sl st du = (1, p) := by
  unfold itc
  rw [if_neg (fun q => ht (by have := (kd_sign h (by omega)).mp q; omega)), if_neg (fun q => ht (by have := (kd_sign h (by omega)).mp q; omega)), if_neg (fun q => ht (by have := (kd_sign h (by omega)).mp q; omega)), if_neg (fun q => ht (by have := (kd_sign h (by omega)).mp q; omega))]
theorem it_r {t : Int → Int} {n p sr sl st du : Int} {rd dn dw : Int → Int} (h : p < n) (ht : t p = 114) (hs : sr = 0) : itr t n p sr sl st rd = zu (zu (zu rd 0 (vl t n (skp t n (p + 1)))) 1 (vl t n (pn t n 1 99 (0, skp t n (p + 1))).2)) 2 (vl t n (pn t n 1 9 (pn t n 1 99 (0, skp t n (p + 1)))).2) ∧ itu t n p du = du ∧ itn t n p du dn = dn ∧ itw t n p du dw = dw ∧ fl t n p 114 sr = 1 ∧ fl t n p 108 sl = sl ∧ fl t n p 116 st = st := by
  have hk : kd t n p = 114 := (kd_sign h (by omega)).mpr ht
  have hn : nx t n p = skp t n (p + 1) := by unfold nx; rw [en_sign (by omega)]
  unfold itr itu itn itw fl
  rw [if_pos hk, if_neg (fun q => by omega), if_neg (fun q => by omega), if_neg (fun q => by omega), if_pos hk, if_neg (by omega), if_neg (by omega), hs, ps_ok hk, hn]
  exact ⟨rfl, rfl, rfl, rfl, rfl, rfl, rfl⟩
theorem it_l {t : Int → Int} {n p sr sl st du : Int} {rd dn dw : Int → Int} (h : p < n) (ht : t p = 108) (hs : sl = 0) : itr t n p sr sl st rd = zu (zu rd 3 (vl t n (skp t n (p + 1)))) 4 (vl t n (pn t n 1 8 (0, skp t n (p + 1))).2) ∧ itu t n p du = du ∧ itn t n p du dn = dn ∧ itw t n p du dw = dw ∧ fl t n p 114 sr = sr ∧ fl t n p 108 sl = 1 ∧ fl t n p 116 st = st := by
  have hk : kd t n p = 108 := (kd_sign h (by omega)).mpr ht
  have hn : nx t n p = skp t n (p + 1) := by unfold nx; rw [en_sign (by omega)]
  unfold itr itu itn itw fl
  rw [if_neg (by omega), if_pos hk, if_neg (fun q => by omega), if_neg (fun q => by omega), if_neg (fun q => by omega), if_neg (by omega), if_pos hk, if_neg (by omega), hs, ps_ok hk, hn]
  exact ⟨rfl, rfl, rfl, rfl, rfl, rfl, rfl⟩
theorem it_t {t : Int → Int} {n p sr sl st du : Int} {rd dn dw : Int → Int} (h : p < n) (ht : t p = 116) (hs : st = 0) : itr t n p sr sl st rd = zu rd 5 (vl t n (skp t n (p + 1))) ∧ itu t n p du = du ∧ itn t n p du dn = dn ∧ itw t n p du dw = dw ∧ fl t n p 114 sr = sr ∧ fl t n p 108 sl = sl ∧ fl t n p 116 st = 1 := by
  have hk : kd t n p = 116 := (kd_sign h (by omega)).mpr ht
  have hn : nx t n p = skp t n (p + 1) := by unfold nx; rw [en_sign (by omega)]
  unfold itr itu itn itw fl
  rw [if_neg (by omega), if_neg (by omega), if_pos hk, if_neg (fun q => by omega), if_neg (fun q => by omega), if_neg (fun q => by omega), if_neg (by omega), if_neg (by omega), if_pos hk, hs, ps_ok hk, hn]
  exact ⟨rfl, rfl, rfl, rfl, rfl, rfl, rfl⟩
theorem it_p {t : Int → Int} {n p sr sl st du : Int} {rd dn dw : Int → Int} (h : p < n) (ht : t p = 112) (hd : du < 6) : itr t n p sr sl st rd = rd ∧ itu t n p du = du + 1 ∧ itn t n p du dn = zu dn du (vl t n (skp t n (p + 1))) ∧ itw t n p du dw = zu dw du (vl t n (pn t n 1 120 (0, skp t n (p + 1))).2) ∧ fl t n p 114 sr = sr ∧ fl t n p 108 sl = sl ∧ fl t n p 116 st = st := by
  have hk : kd t n p = 112 := (kd_sign h (by omega)).mpr ht
  have hn : nx t n p = skp t n (p + 1) := by unfold nx; rw [en_sign (by omega)]
  unfold itr itu itn itw fl
  rw [if_neg (by omega), if_neg (by omega), if_neg (by omega), if_pos ⟨hk, hd⟩, if_pos ⟨hk, hd⟩, if_pos ⟨hk, hd⟩, if_neg (by omega), if_neg (by omega), if_neg (by omega), ps_ok hk, hn]
  exact ⟨rfl, rfl, rfl, rfl, rfl, rfl, rfl⟩
theorem za_extZ {g : va_G} {ca : Nat → ClassId} {ws : va_W} {H : Heap} (hP : va_P g vwCl ws H) (q0 : Nat) {a n : Nat} {f : Int → Int} (h : ws[q0]? = some (a, aZ ca n f)) (f' : Int → Int) (e : ∀ j : Int, 0 ≤ j → j < n → f j = f' j) : va_P g vwCl (ws.set q0 (a, aZ ca n f')) H := by
  intro k q hk
  rw [List.getElem?_set] at hk
  by_cases hq : q0 = k
  · rw [if_pos hq] at hk
    by_cases hl : q0 < ws.length
    · rw [if_pos hl] at hk
      cases hk
      have h1 : H[a]? = some (arrV (ca 2) n (fun j : Nat => Value.int (Int32.ofInt (f (j : Int))))) := hP q0 _ h
      show H[a]? = some (arrV (ca 2) n (fun j : Nat => Value.int (Int32.ofInt (f' (j : Int)))))
      rw [h1, za_congr (f' := fun j : Nat => Value.int (Int32.ofInt (f' (j : Int)))) (fun j hj => by rw [e j (by omega) (by omega)])]
    · rw [if_neg hl] at hk; cases hk
  · rw [if_neg hq] at hk
    exact hP k q hk
theorem zlk_3 {a b c oa ob oc d x : Int} (h1 : x ≠ a) (h2 : x ≠ b) (h3 : x ≠ c) : Op.lookupswitch.offset [(a, oa), (b, ob), (c, oc)] d x = d := by
  rw [Op.lookupswitch.offset_cons, if_neg (Ne.symm h1), Op.lookupswitch.offset_cons, if_neg (Ne.symm h2), Op.lookupswitch.offset_cons, if_neg (Ne.symm h3), Op.lookupswitch.offset_nil]
