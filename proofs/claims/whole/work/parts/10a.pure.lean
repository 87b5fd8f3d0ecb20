/-! Pure words: the one row of longs: at h lies a state: 605 places of rings, LUMP, NIGHT -/
def AT (d : Int → Int) (h : Int) (b : Int → Int) (n m : Int) : Prop := (∀ k : Int, 0 ≤ k → k < 605 → d (h + k) = b k) ∧ d (h + 605) = m ∧ d (h + 606) = n
def FRM (d d1 : Int → Int) (h : Int) : Prop := ∀ j : Int, (j < h ∨ h + 607 ≤ j) → d1 j = d j
theorem AT_frm {d d1 b : Int → Int} {h h2 n m : Int} (ha : AT d h2 b n m) (hf : FRM d d1 h) (hd : h2 + 607 ≤ h ∨ h + 607 ≤ h2) : AT d1 h2 b n m :=
  ⟨fun k h1 h3 => by rw [hf (h2 + k) (by omega)]; exact ha.1 k h1 h3, by rw [hf (h2 + 605) (by omega)]; exact ha.2.1, by rw [hf (h2 + 606) (by omega)]; exact ha.2.2⟩
theorem FRM_rf {d : Int → Int} {h : Int} : FRM d d h := fun _ _ => rfl
theorem FRM_tr {d d1 d2 : Int → Int} {h : Int} (h1 : FRM d d1 h) (h2 : FRM d1 d2 h) : FRM d d2 h := fun j hj => by rw [h2 j hj, h1 j hj]
theorem FRM_zu {d d1 : Int → Int} {h k x : Int} (h1 : FRM d d1 h) (hk : h ≤ k ∧ k < h + 607) : FRM d (zu d1 k x) h := fun j hj => by rw [zu_n (by omega)]; exact h1 j hj
theorem AT_sm {d b : Int → Int} {h n m o : Int} {k : Nat} (ha : AT d h b n m) (h0 : 0 ≤ o) (hk : 121 * o + k ≤ 605) : sm d (h + 121 * o) k = sm b (121 * o) k :=
  sm_congr (fun j h1 h2 => by rw [show h + 121 * o + j = h + (121 * o + j) by omega]; exact ha.1 (121 * o + j) (by omega) (by omega))
theorem AT_dr {d b : Int → Int} {h n m o st i : Int} {k : Nat} (ha : AT d h b n m) (h0 : 0 ≤ o) (h4 : o ≤ 4) (hs : 1 ≤ st) (hi : i ≤ 120) : dr d (h + 121 * o) st k i = dr b (121 * o) st k i :=
  dr_congr hs k i (fun j h1 h2 => by rw [show h + 121 * o + j = h + (121 * o + j) by omega]; exact ha.1 (121 * o + j) (by omega) (by omega))
theorem GB_up {b : Int → Int} {n : Int} (h : GB b n) (hn : n ≤ 119) : GB b (n + 1) := ⟨by have := h.1; omega, h.2.1, fun o k h1 h2 h3 h4 => h.2.2 o k h1 h2 (by omega) h4⟩
theorem GB_zu {b : Int → Int} {n o v : Int} (h : GB b n) (h0 : 0 ≤ o) (h4 : o ≤ 4) (hv : 0 ≤ v ∧ v ≤ Bd o) : GB (zu b (121 * o + n) v) n := by
  have hn := h.1
  refine ⟨h.1, fun o' k h1 h2 h3 h5 => ?_, fun o' k h1 h2 h3 h5 => ?_⟩
  · rw [zu_e]
    split
    · rename_i q
      have e : o' = o := by omega
      rw [e]; exact hv
    · exact h.2.1 o' k h1 h2 h3 h5
  · rw [zu_n (by omega)]
    exact h.2.2 o' k h1 h2 h3 h5
theorem Bd_s {o : Int} (h0 : 0 ≤ o) (h3 : o ≤ 3) : Bd o * 1089 = Bd (o + 1) := by
  rcases (show o = 0 ∨ o = 1 ∨ o = 2 ∨ o = 3 by omega) with rfl | rfl | rfl | rfl <;> decide
theorem dr_GB {b : Int → Int} {n o st i : Int} (h : GB b n) (h0 : 0 ≤ o) (h4 : o ≤ 4) (hs : 1 ≤ st) (hi : i ≤ 120) : 0 ≤ dr b (121 * o) st 121 i ∧ dr b (121 * o) st 121 i ≤ 121 * Bd o :=
  dr_bd hs (by have := (Bd_bd o).1; omega) 121 i (fun j h1 h2 => h.2.1 o j h0 h4 h1 (by omega))
def EAok (ea : Int → Int) : Prop := ∀ o : Int, 0 ≤ o → o ≤ 4 → 1 ≤ ea o ∧ ea o ≤ 200
theorem GB_gs {w ea b : Int → Int} {mo n : Int} (hE : EAok ea) (hM : 1 ≤ mo ∧ mo ≤ 9) (h : GB b n) : ∀ k : Nat, k ≤ 4 → GB (gs w ea mo n b k).1 n
  | 0, _ => h
  | k + 1, hk => by
    have h1 := GB_gs (w := w) hE hM h k (by omega)
    have hn := h.1
    by_cases q : 0 < w ((k : Int) + 1)
    · have e : (gs w ea mo n b (k + 1)).1 = zu (gs w ea mo n b k).1 (121 * ((k : Int) + 1) + n) (dr (gs w ea mo n b k).1 (121 * (k : Int)) (ea k) 121 (n - ea k) * mo) := by
        show (if 0 < w ((k : Int) + 1) then _ else _ : (Int → Int) × Int).1 = _
        rw [if_pos q]
      rw [e]
      have he := hE k (by omega) (by omega)
      have hd := dr_GB (o := (k : Int)) (i := n - ea k) h1 (by omega) (by omega) he.1 (by omega)
      have hB := Bd_s (o := (k : Int)) (by omega) (by omega)
      refine GB_zu h1 (by omega) (by omega) ?_
      have hm := mul_rng hd (⟨by omega, hM.2⟩ : 0 ≤ mo ∧ mo ≤ 9)
      omega
    · have e : gs w ea mo n b (k + 1) = gs w ea mo n b k := by
        show (if 0 < w ((k : Int) + 1) then _ else _ : (Int → Int) × Int) = _
        rw [if_neg q]
      rw [e]; exact h1
theorem GB_gt {w ea b : Int → Int} {mo n : Int} (hE : EAok ea) (hM : 1 ≤ mo ∧ mo ≤ 9) (h : GB b n) : ∀ k : Nat, n + k ≤ 120 → GB (gt w ea mo n b k) (n + k)
  | 0, _ => by rw [show n + ((0 : Nat) : Int) = n by omega]; exact h
  | k + 1, hk => by
    have h1 := GB_gt (w := w) hE hM h k (by omega)
    have h2 := GB_gs (w := w) hE hM (GB_up h1 (by omega)) 4 (by omega)
    rw [show n + ((k + 1 : Nat) : Int) = n + k + 1 by omega]
    exact h2
theorem gs_same {w ea b : Int → Int} {mo n1 j : Int} : ∀ k : Nat, (∀ i : Int, 0 ≤ i → i < k → j ≠ 121 * (i + 1) + n1) → (gs w ea mo n1 b k).1 j = b j
  | 0, _ => rfl
  | k + 1, h => by
    have h1 := gs_same (w := w) (ea := ea) (mo := mo) (b := b) k (fun i h1 h2 => h i h1 (by omega))
    show (if 0 < w ((k : Int) + 1) then _ else _ : (Int → Int) × Int).1 j = b j
    split
    · show zu _ _ _ j = b j
      rw [zu_n (h k (by omega) (by omega))]; exact h1
    · exact h1
/-- one ORDER's dripping, as the one row has it -/
theorem goStep {w ea b f : Int → Int} {mo n m h o x : Int} (hE : EAok ea) (hM : 1 ≤ mo ∧ mo ≤ 9) (hB : GB b n) (hn : n ≤ 119) (h0 : 0 ≤ o) (h4 : o ≤ 4) (ha : AT f h (gs w ea mo (n + 1) b o.toNat).1 (n + 1) m) (hx : x = if o ≤ 3 ∧ 0 < w (o + 1) then dr f (h + 121 * o) (ea o) 121 (n + 1 - ea o) else 0) :
    (0 ≤ x ∧ x ≤ 1000000000000000) ∧ (0 < x → o ≤ 3 ∧ AT (zu f (h + 121 * (o + 1) + (n + 1)) (f (h + 121 * (o + 1) + (n + 1)) + x * mo)) h (gs w ea mo (n + 1) b (o + 1).toNat).1 (n + 1) m) ∧ (x ≤ 0 → AT f h (gs w ea mo (n + 1) b (if o + 1 < 4 then o + 1 else 4).toNat).1 (n + 1) m) ∧ (gs w ea mo (n + 1) b (if o + 1 < 4 then o + 1 else 4).toNat).2 = (gs w ea mo (n + 1) b o.toNat).2 + x := by
  have hn0 := hB.1
  by_cases hP : o ≤ 3 ∧ 0 < w (o + 1)
  · rw [if_pos hP] at hx
    have hG := GB_gs (w := w) hE hM (GB_up hB hn) o.toNat (by omega)
    have he := hE o h0 h4
    have ed := AT_dr (k := 121) (i := n + 1 - ea o) ha h0 h4 he.1 (by omega)
    have hd := dr_GB (i := n + 1 - ea o) hG h0 h4 he.1 (by omega)
    have hb := Bd_bd o
    have hb3 : 121 * Bd o ≤ 1000000000000000 := by omega
    rw [ed] at hx
    rw [← hx] at hd
    have ek : (if o + 1 < 4 then o + 1 else 4).toNat = (o + 1).toNat := by split <;> omega
    have es := gs_s w ea mo (n + 1) b h0 hP.2
    have ez : (gs w ea mo (n + 1) b o.toNat).1 (121 * (o + 1) + (n + 1)) = 0 := by
      rw [gs_same o.toNat (fun i h1 h2 => by omega)]
      exact hB.2.2 (o + 1) (n + 1) (by omega) (by omega) (by omega) (by omega)
    have ef : f (h + 121 * (o + 1) + (n + 1)) = 0 := by
      rw [show h + 121 * (o + 1) + (n + 1) = h + (121 * (o + 1) + (n + 1)) by omega, ha.1 _ (by omega) (by omega)]
      exact ez
    rw [ek, es, ← hx]
    refine ⟨⟨hd.1, by omega⟩, fun hp => ⟨hP.1, fun k k1 k2 => ?_, ?_, ?_⟩, fun hp => ⟨fun k k1 k2 => ?_, ha.2.1, ha.2.2⟩, rfl⟩
    · show zu _ _ _ _ = zu _ _ _ _
      rw [zu_e, zu_e, ef, Int.zero_add]
      by_cases q : k = 121 * (o + 1) + (n + 1)
      · rw [if_pos (by omega), if_pos q]
      · rw [if_neg (by omega), if_neg q]; exact ha.1 k k1 k2
    · rw [zu_n (by omega)]; exact ha.2.1
    · rw [zu_n (by omega)]; exact ha.2.2
    · show _ = zu _ _ _ _
      rw [zu_e, show x = 0 by omega, Int.zero_mul]
      by_cases q : k = 121 * (o + 1) + (n + 1)
      · rw [if_pos q, ha.1 k k1 k2, q]; exact ez
      · rw [if_neg q]; exact ha.1 k k1 k2
  · rw [if_neg hP] at hx
    have e : gs w ea mo (n + 1) b (if o + 1 < 4 then o + 1 else 4).toNat = gs w ea mo (n + 1) b o.toNat := by
      by_cases q : o ≤ 3
      · rw [show (if o + 1 < 4 then o + 1 else 4).toNat = (o + 1).toNat by split <;> omega]
        exact gs_n w ea mo (n + 1) b h0 (fun r => hP ⟨q, r⟩)
      · rw [show (if o + 1 < 4 then o + 1 else 4).toNat = o.toNat by split <;> omega]
    rw [e, hx]
    exact ⟨by omega, fun hp => by omega, fun _ => ha, by omega⟩
/-- a state begun anew -/
def bg : Int → Int := zu (fun _ => 0) 0 1
theorem GB_bg : GB bg 0 := by
  refine ⟨by omega, fun o k h1 h2 h3 h4 => ?_, fun o k h1 h2 h3 h4 => ?_⟩
  · unfold bg
    rw [zu_e]
    split
    · have e : o = 0 := by omega
      rw [e]; decide
    · have := (Bd_bd o).1
      omega
  · unfold bg
    rw [zu_n (by omega)]
theorem AT_tk {d b f : Int → Int} {h n m o q : Int} (ha : AT d h b n m) (h0 : 0 ≤ o) (h4 : o ≤ 4) (hf : ∀ j : Int, f j = if h + 121 * o ≤ j ∧ j < h + 121 * o + 121 then tk b (121 * o) q (j - h) else d j) : AT f h (tk b (121 * o) q) n m := by
  refine ⟨fun k h1 h2 => ?_, ?_, ?_⟩
  · rw [hf]
    split
    · rw [show h + k - h = k by omega]
    · rw [tk_out (by omega)]; exact ha.1 k h1 h2
  · rw [hf, if_neg (by omega)]; exact ha.2.1
  · rw [hf, if_neg (by omega)]; exact ha.2.2
/-- what can be UNDONE is one more (eight at most: the oldest goes) -/
def MN (un un1 : Int) (d d1 : Int → Int) : Prop := (un < 8 ∧ un1 = un + 1 ∧ ∀ j : Int, d1 j = if 2428 + 607 * un ≤ j ∧ j < 2428 + 607 * un + 607 then d (j - (2428 + 607 * un)) else d j) ∨ (un = 8 ∧ un1 = 8 ∧ ∀ j : Int, d1 j = if 2428 ≤ j ∧ j < 6677 then d (j + 607) else if 6677 ≤ j ∧ j < 7284 then d (j - 6677) else d j)
theorem MN_low {un un1 : Int} {d d1 : Int → Int} (h : MN un un1 d d1) (hu : 0 ≤ un) {j : Int} (hj : j < 2428) : d1 j = d j := by
  rcases h with ⟨h1, h2, h3⟩ | ⟨h1, h2, h3⟩
  · rw [h3, if_neg (by omega)]
  · rw [h3, if_neg (by omega), if_neg (by omega)]
theorem MN_AT {un un1 : Int} {d d1 b : Int → Int} {n m : Int} (h : MN un un1 d d1) (hu : 0 ≤ un) (ha : AT d 0 b n m) : AT d1 0 b n m :=
  ⟨fun k h1 h2 => by rw [MN_low h hu (by omega)]; exact ha.1 k h1 h2, by rw [MN_low h hu (by omega)]; exact ha.2.1, by rw [MN_low h hu (by omega)]; exact ha.2.2⟩
theorem CPY {d d1 b : Int → Int} {fr tt n m : Int} (h : ∀ j : Int, d1 j = if tt ≤ j ∧ j < tt + 607 then d (fr + (j - tt)) else d j) (ha : AT d fr b n m) : AT d1 tt b n m ∧ FRM d d1 tt := by
  refine ⟨⟨fun k h1 h2 => ?_, ?_, ?_⟩, fun j hj => by rw [h, if_neg (by omega)]⟩
  · rw [h, if_pos (by omega), show fr + (tt + k - tt) = fr + k by omega]; exact ha.1 k h1 h2
  · rw [h, if_pos (by omega), show fr + (tt + 605 - tt) = fr + 605 by omega]; exact ha.2.1
  · rw [h, if_pos (by omega), show fr + (tt + 606 - tt) = fr + 606 by omega]; exact ha.2.2
