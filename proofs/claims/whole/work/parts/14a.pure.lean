/-! Pure words: what both keep, side by side -/
/-- rows that agree below du -/
def SB (f f' : Int → Int) (du : Int) : Prop := ∀ j : Int, 0 ≤ j → j < du → f j = f' j
theorem SB_zu {f f' : Int → Int} {du x : Int} (h : SB f f' du) : SB (zu f du x) (zu f' du x) (du + 1) := fun j h1 h2 => by
  rw [zu_e, zu_e]
  split
  · rfl
  · exact h j h1 (by omega)
theorem itn_SB {t : Int → Int} {n p du : Int} {f f' : Int → Int} (h : SB f f' du) : SB (itn t n p du f) (itn t n p du f') (itu t n p du) := by
  unfold itn itu
  split
  · exact SB_zu h
  · exact h
theorem itw_SB {t : Int → Int} {n p du : Int} {f f' : Int → Int} (h : SB f f' du) : SB (itw t n p du f) (itw t n p du f') (itu t n p du) := by
  unfold itw itu
  split
  · exact SB_zu h
  · exact h
/-- what the text tells isn't told by what lay there before -/
theorem PF_ind {t : Int → Int} {n : Int} : ∀ (k : Nat) (p it sr sl st : Int) (rd : Int → Int) (du : Int) (dn dw dn' dw' : Int → Int), SB dn dn' du → SB dw dw' du →
    (PF t n k p it sr sl st rd du dn dw).1 = (PF t n k p it sr sl st rd du dn' dw').1 ∧ (PF t n k p it sr sl st rd du dn dw).2.1 = (PF t n k p it sr sl st rd du dn' dw').2.1 ∧ (PF t n k p it sr sl st rd du dn dw).2.2.1 = (PF t n k p it sr sl st rd du dn' dw').2.2.1 ∧
    SB (PF t n k p it sr sl st rd du dn dw).2.2.2.1 (PF t n k p it sr sl st rd du dn' dw').2.2.2.1 (PF t n k p it sr sl st rd du dn dw).2.2.1 ∧ SB (PF t n k p it sr sl st rd du dn dw).2.2.2.2 (PF t n k p it sr sl st rd du dn' dw').2.2.2.2 (PF t n k p it sr sl st rd du dn dw).2.2.1
  | 0, _, _, _, _, _, _, _, _, _, _, _, h, h' => ⟨rfl, rfl, rfl, h, h'⟩
  | k + 1, p, it, sr, sl, st, rd, du, dn, dw, dn', dw', h, h' => by
    by_cases q : kd t n p = -1
    · rw [PF_e q, PF_e q]
      exact ⟨rfl, rfl, rfl, h, h'⟩
    · by_cases q2 : (itf t n p sr sl st du).1 = 1
      · rw [PF_f q q2, PF_f q q2]
        exact ⟨rfl, rfl, rfl, h, h'⟩
      · rw [PF_s q q2, PF_s q q2]
        exact PF_ind k _ _ _ _ _ _ _ _ _ _ _ (itn_SB h) (itw_SB h')
theorem duv_SB {dn dw dn' dw' : Int → Int} {du i x : Int} (h : SB dn dn' du) (h' : SB dw dw' du) : duv dn dw du i x = duv dn' dw' du i x := by
  unfold duv
  split
  · rename_i q
    rw [h i q.1 q.2, h' i q.1 q.2]
  · rfl
theorem pdi_SB {w dn dw dn' dw' : Int → Int} {nt du : Int} (h : SB dn dn' du) (h' : SB dw dw' du) : ∀ (k : Nat) (i : Int) (b : Int → Int) (lt : Int), 0 ≤ i → i + k ≤ du → pdi w dn dw nt k i b lt = pdi w dn' dw' nt k i b lt
  | 0, _, _, _, _, _ => rfl
  | k + 1, i, b, lt, h0, h1 => by
    have e1 := h i h0 (by omega)
    have e2 := h' i h0 (by omega)
    by_cases q : dn i = nt
    · by_cases q2 : canP (cnt b nt) w (dw i)
      · rw [pdi_p q q2, pdi_p (by rw [← e1]; exact q) (by rw [← e2]; exact q2), e2]
        exact pdi_SB h h' k _ _ _ (by omega) (by omega)
      · rw [pdi_n q q2, pdi_n (by rw [← e1]; exact q) (by rw [← e2]; exact q2)]
    · rw [pdi_o q, pdi_o (by rw [← e1]; exact q)]
      exact pdi_SB h h' k _ _ _ (by omega) (by omega)
theorem pds_SB {w ea dn dw dn' dw' : Int → Int} {mo du : Int} (h0 : 0 ≤ du) (h : SB dn dn' du) (h' : SB dw dw' du) : ∀ (k : Nat) (nt : Int) (b : Int → Int) (lt : Int), pds w ea dn dw mo du k nt b lt = pds w ea dn' dw' mo du k nt b lt
  | 0, _, _, _ => rfl
  | k + 1, nt, b, lt => by
    have e := pdi_SB (w := w) (nt := nt + 1) h h' du.toNat 0 (gs w ea mo (nt + 1) b 4).1 lt (by omega) (by omega)
    by_cases q : (pdi w dn dw (nt + 1) du.toNat 0 (gs w ea mo (nt + 1) b 4).1 lt).1 = -9
    · rw [pds_s q, pds_s (by rw [← e]; exact q), e]
      exact pds_SB h0 h h' k _ _ _
    · rw [pds_f q, pds_f (by rw [← e]; exact q), e]
/-- the place of the class for a slot of the model -/
def pl8 (nx un j : Int) : Nat := ((nx - un + j + 8) % 8).toNat
/-- what can be undone, and what the images hold: the same in both -/
def UND (d : Int → Int) (un nx : Int) (pb : Nat → Int → Int) (pn pl : Nat → Int) (B : Int) : Prop := ∀ j : Int, 0 ≤ j → j < un → AT d (2428 + 607 * j) (pb (pl8 nx un j)) (pn (pl8 nx un j)) (pl (pl8 nx un j)) ∧ GB (pb (pl8 nx un j)) (pn (pl8 nx un j)) ∧ 0 ≤ pl (pl8 nx un j) ∧ pl (pl8 nx un j) ≤ B
def IMG (d kp : Int → Int) (ib : Nat → Int → Int) (inn il : Nat → Int) (B : Int) : Prop := ∀ i : Int, 0 ≤ i → i ≤ 1 → kp i = 0 ∨ (kp i = 1 ∧ AT d (1214 + 607 * i) (ib i.toNat) (inn i.toNat) (il i.toNat) ∧ GB (ib i.toNat) (inn i.toNat) ∧ 0 ≤ il i.toNat ∧ il i.toNat ≤ B)
theorem AT_ext {d d1 b : Int → Int} {h n m : Int} (ha : AT d h b n m) (e : ∀ j : Int, h ≤ j → j < h + 607 → d1 j = d j) : AT d1 h b n m :=
  ⟨fun k h1 h2 => by rw [e _ (by omega) (by omega)]; exact ha.1 k h1 h2, by rw [e _ (by omega) (by omega)]; exact ha.2.1, by rw [e _ (by omega) (by omega)]; exact ha.2.2⟩
theorem UND_up {d : Int → Int} {un nx B B' : Int} {pb : Nat → Int → Int} {pn pl : Nat → Int} (h : UND d un nx pb pn pl B) (hB : B ≤ B') : UND d un nx pb pn pl B' := fun j h1 h2 => by
  obtain ⟨a, b, c, e⟩ := h j h1 h2
  exact ⟨a, b, c, by omega⟩
theorem IMG_up {d kp : Int → Int} {ib : Nat → Int → Int} {inn il : Nat → Int} {B B' : Int} (h : IMG d kp ib inn il B) (hB : B ≤ B') : IMG d kp ib inn il B' := fun i h1 h2 => by
  rcases h i h1 h2 with q | ⟨a, b, c, e, f⟩
  · exact Or.inl q
  · exact Or.inr ⟨a, b, c, e, by omega⟩
theorem UND_ext {d d1 : Int → Int} {un nx B : Int} {pb : Nat → Int → Int} {pn pl : Nat → Int} (h : UND d un nx pb pn pl B) (hu : un ≤ 8) (e : ∀ j : Int, 2428 ≤ j → j < 7284 → d1 j = d j) : UND d1 un nx pb pn pl B := fun j h1 h2 => by
  obtain ⟨a, b⟩ := h j h1 h2
  exact ⟨AT_ext a (fun x h3 h4 => e x (by omega) (by omega)), b⟩
theorem IMG_ext {d d1 kp : Int → Int} {ib : Nat → Int → Int} {inn il : Nat → Int} {B : Int} (h : IMG d kp ib inn il B) (e : ∀ j : Int, 1214 ≤ j → j < 2428 → d1 j = d j) : IMG d1 kp ib inn il B := fun i h1 h2 => by
  rcases h i h1 h2 with q | ⟨a, b, c⟩
  · exact Or.inl q
  · exact Or.inr ⟨a, AT_ext b (fun x h3 h4 => e x (by omega) (by omega)), c⟩
/-- remembered in both -/
theorem UND_rem {d d1 b : Int → Int} {un un1 nx nx1 kn1 n lm B : Int} {pb pb1 : Nat → Int → Int} {pn pn1 pl pl1 : Nat → Int} (h : UND d un nx pb pn pl B) (hu : 0 ≤ un ∧ un ≤ 8) (hx : 0 ≤ nx ∧ nx ≤ 7) (hm : MN un un1 d d1) (hr : RM nx un nx1 kn1 pb pb1 pn pn1 pl pl1 b n lm) (ha : AT d 0 b n lm) (hB : GB b n) (hl : 0 ≤ lm ∧ lm ≤ B) : un1 = kn1 ∧ (0 ≤ nx1 ∧ nx1 ≤ 7) ∧ (0 ≤ un1 ∧ un1 ≤ 8) ∧ UND d1 un1 nx1 pb1 pn1 pl1 B := by
  obtain ⟨r1, r2, r3, r4, r5⟩ := hr
  subst r3 r4 r5
  have hx1 : 0 ≤ nx1 ∧ nx1 ≤ 7 ∧ (nx1 - (nx + 1)) % 8 = 0 := by
    rw [r1]; split <;> omega
  rcases hm with ⟨m1, m2, m3⟩ | ⟨m1, m2, m3⟩
  · refine ⟨by rw [r2, if_pos m1, m2], ⟨hx1.1, hx1.2.1⟩, by omega, fun j h1 h2 => ?_⟩
    by_cases q : j = un
    · have e : pl8 nx1 un1 j = nx.toNat := by unfold pl8; omega
      rw [e]
      unfold pu
      rw [if_pos rfl, if_pos rfl, if_pos rfl]
      refine ⟨⟨fun k h3 h4 => ?_, ?_, ?_⟩, hB, hl⟩
      · rw [m3, if_pos (by omega), show 2428 + 607 * j + k - (2428 + 607 * un) = 0 + k by omega]; exact ha.1 k h3 h4
      · rw [m3, if_pos (by omega), show 2428 + 607 * j + 605 - (2428 + 607 * un) = 0 + 605 by omega]; exact ha.2.1
      · rw [m3, if_pos (by omega), show 2428 + 607 * j + 606 - (2428 + 607 * un) = 0 + 606 by omega]; exact ha.2.2
    · have e : pl8 nx1 un1 j = pl8 nx un j := by unfold pl8; omega
      have e2 : pl8 nx un j ≠ nx.toNat := by unfold pl8; omega
      rw [e]
      unfold pu
      rw [if_neg e2, if_neg e2, if_neg e2]
      obtain ⟨a, c⟩ := h j h1 (by omega)
      exact ⟨AT_ext a (fun x h3 h4 => by rw [m3, if_neg (by omega)]), c⟩
  · refine ⟨by rw [r2, m2, if_neg (by omega)], ⟨hx1.1, hx1.2.1⟩, by omega, fun j h1 h2 => ?_⟩
    by_cases q : j = 7
    · have e : pl8 nx1 un1 j = nx.toNat := by unfold pl8; omega
      rw [e]
      unfold pu
      rw [if_pos rfl, if_pos rfl, if_pos rfl]
      refine ⟨⟨fun k h3 h4 => ?_, ?_, ?_⟩, hB, hl⟩
      · rw [m3, if_neg (by omega), if_pos (by omega), show 2428 + 607 * j + k - 6677 = 0 + k by omega]; exact ha.1 k h3 h4
      · rw [m3, if_neg (by omega), if_pos (by omega), show 2428 + 607 * j + 605 - 6677 = 0 + 605 by omega]; exact ha.2.1
      · rw [m3, if_neg (by omega), if_pos (by omega), show 2428 + 607 * j + 606 - 6677 = 0 + 606 by omega]; exact ha.2.2
    · have e : pl8 nx1 un1 j = pl8 nx un (j + 1) := by unfold pl8; omega
      have e2 : pl8 nx un (j + 1) ≠ nx.toNat := by unfold pl8; omega
      rw [e]
      unfold pu
      rw [if_neg e2, if_neg e2, if_neg e2]
      obtain ⟨a, c⟩ := h (j + 1) (by omega) (by omega)
      refine ⟨⟨fun k h3 h4 => ?_, ?_, ?_⟩, c⟩
      · rw [m3, if_pos (by omega), show 2428 + 607 * j + k + 607 = 2428 + 607 * (j + 1) + k by omega]; exact a.1 k h3 h4
      · rw [m3, if_pos (by omega), show 2428 + 607 * j + 605 + 607 = 2428 + 607 * (j + 1) + 605 by omega]; exact a.2.1
      · rw [m3, if_pos (by omega), show 2428 + 607 * j + 606 + 607 = 2428 + 607 * (j + 1) + 606 by omega]; exact a.2.2
/-- undone in both: the place -/
theorem pl8_undo {un nx nx1 : Int} (hx : 0 ≤ nx ∧ nx ≤ 7) (h : nx1 = if 0 < nx then nx - 1 else 7) : pl8 nx un (un - 1) = nx1.toNat := by
  unfold pl8
  rw [h]
  split <;> omega
theorem UND_undo {d d1 : Int → Int} {un nx nx1 B : Int} {pb : Nat → Int → Int} {pn pl : Nat → Int} (h : UND d un nx pb pn pl B) (hu : 0 < un ∧ un ≤ 8) (hx : 0 ≤ nx ∧ nx ≤ 7) (hn : nx1 = if 0 < nx then nx - 1 else 7) (hd : ∀ j : Int, d1 j = if 0 ≤ j ∧ j < 607 then d (2428 + 607 * (un - 1) + j) else d j) :
    (0 ≤ nx1 ∧ nx1 ≤ 7) ∧ AT d1 0 (pb nx1.toNat) (pn nx1.toNat) (pl nx1.toNat) ∧ GB (pb nx1.toNat) (pn nx1.toNat) ∧ (0 ≤ pl nx1.toNat ∧ pl nx1.toNat ≤ B) ∧ UND d1 (un - 1) nx1 pb pn pl B := by
  have hx1 : 0 ≤ nx1 ∧ nx1 ≤ 7 ∧ (nx1 + 1 - nx) % 8 = 0 := by rw [hn]; split <;> omega
  obtain ⟨a, b, c⟩ := h (un - 1) (by omega) (by omega)
  rw [pl8_undo hx hn] at a b c
  refine ⟨⟨hx1.1, hx1.2.1⟩, ⟨fun k h3 h4 => ?_, ?_, ?_⟩, b, c, fun j h1 h2 => ?_⟩
  · rw [hd, if_pos (by omega), show 2428 + 607 * (un - 1) + (0 + k) = 2428 + 607 * (un - 1) + k by omega]; exact a.1 k h3 h4
  · rw [hd, if_pos (by omega), show 2428 + 607 * (un - 1) + (0 + 605) = 2428 + 607 * (un - 1) + 605 by omega]; exact a.2.1
  · rw [hd, if_pos (by omega), show 2428 + 607 * (un - 1) + (0 + 606) = 2428 + 607 * (un - 1) + 606 by omega]; exact a.2.2
  · have e : pl8 nx1 (un - 1) j = pl8 nx un j := by unfold pl8; omega
    rw [e]
    obtain ⟨f, g⟩ := h j h1 (by omega)
    exact ⟨AT_ext f (fun x h3 h4 => by rw [hd, if_neg (by omega)]), g⟩
/-- kept, and back, in both -/
theorem IMG_keep {d d1 kp b : Int → Int} {ib : Nat → Int → Int} {inn il : Nat → Int} {n lm B i : Int} (h : IMG d kp ib inn il B) (hi : 0 ≤ i ∧ i ≤ 1) (ha : AT d1 (1214 + 607 * i) b n lm) (hf : FRM d d1 (1214 + 607 * i)) (hB : GB b n) (hl : 0 ≤ lm ∧ lm ≤ B) : IMG d1 (zu kp i 1) (pu ib i.toNat b) (pu inn i.toNat n) (pu il i.toNat lm) B := fun j h1 h2 => by
  by_cases q : j = i
  · subst q
    unfold pu
    rw [if_pos rfl, if_pos rfl, if_pos rfl]
    exact Or.inr ⟨zu_s, ha, hB, hl⟩
  · have e : j.toNat ≠ i.toNat := by omega
    rw [zu_n q]
    unfold pu
    rw [if_neg e, if_neg e, if_neg e]
    rcases h j h1 h2 with q9 | ⟨a, c, f⟩
    · exact Or.inl q9
    · exact Or.inr ⟨a, AT_ext c (fun x h3 h4 => hf x (by omega)), f⟩
theorem AT_back {d d1 b : Int → Int} {n lm h : Int} (ha : AT d h b n lm) (hd : ∀ j : Int, d1 j = if 0 ≤ j ∧ j < 607 then d (h + j) else d j) : AT d1 0 b n lm := by
  refine ⟨fun k h3 h4 => ?_, ?_, ?_⟩
  · rw [hd, if_pos (by omega), show h + (0 + k) = h + k by omega]; exact ha.1 k h3 h4
  · rw [hd, if_pos (by omega), show h + (0 + 605) = h + 605 by omega]; exact ha.2.1
  · rw [hd, if_pos (by omega), show h + (0 + 606) = h + 606 by omega]; exact ha.2.2
