/-! Pure words: THE TEXT, its TOKENS, its ITEMS. t: the letters; n: how many -/
/-- the first place from p on that is no blank -/
def sk (t : Int → Int) (n : Int) : Nat → Int → Int
  | 0, p => p
  | k + 1, p => if p < n ∧ t p = 32 then sk t n k (p + 1) else p
def skp (t : Int → Int) (n p : Int) : Int := sk t n (n - p).toNat p
/-- behind the digits from p on -/
def de (t : Int → Int) (n : Int) : Nat → Int → Int
  | 0, p => p
  | k + 1, p => if p < n ∧ 48 ≤ t p ∧ t p ≤ 57 then de t n k (p + 1) else p
def dep (t : Int → Int) (n p : Int) : Int := de t n (n - p).toNat p
/-- their value, 201 at most; v: of the digits before -/
def dv (t : Int → Int) (n : Int) : Nat → Int → Int → Int
  | 0, _, v => v
  | k + 1, p, v => if p < n ∧ 48 ≤ t p ∧ t p ≤ 57 then dv t n k (p + 1) (if 201 < v * 10 + t p - 48 then 201 else v * 10 + t p - 48) else v
def dvp (t : Int → Int) (n p v : Int) : Int := dv t n (n - p).toNat p v
theorem skp_s {t : Int → Int} {n p : Int} (h : p < n) (h2 : t p = 32) : skp t n p = skp t n (p + 1) := by
  unfold skp
  rw [show (n - p).toNat = (n - (p + 1)).toNat + 1 by omega]
  exact if_pos ⟨h, h2⟩
theorem skp_e {t : Int → Int} {n p : Int} (h : ¬ (p < n ∧ t p = 32)) : skp t n p = p := by
  unfold skp
  cases (n - p).toNat with
  | zero => rfl
  | succ k => exact if_neg h
theorem sk_all (t : Int → Int) (n : Int) : ∀ (k : Nat) (p : Int), (n - p).toNat ≤ k → p ≤ n → (p ≤ sk t n k p ∧ sk t n k p ≤ n ∧ ¬ (sk t n k p < n ∧ t (sk t n k p) = 32))
  | 0, p, h, h2 => by
    show p ≤ p ∧ p ≤ n ∧ ¬ (p < n ∧ t p = 32)
    omega
  | k + 1, p, h, h2 => by
    by_cases q : p < n ∧ t p = 32
    · have e : sk t n (k + 1) p = sk t n k (p + 1) := if_pos q
      have := sk_all t n k (p + 1) (by omega) (by omega)
      rw [e]
      omega
    · have e : sk t n (k + 1) p = p := if_neg q
      rw [e]
      exact ⟨Int.le_refl p, h2, q⟩
theorem skp_all (t : Int → Int) {n p : Int} (h : p ≤ n) : p ≤ skp t n p ∧ skp t n p ≤ n ∧ ¬ (skp t n p < n ∧ t (skp t n p) = 32) := sk_all t n _ p (Nat.le_refl _) h
theorem skp_skp (t : Int → Int) {n p : Int} (h : p ≤ n) : skp t n (skp t n p) = skp t n p := skp_e (skp_all t h).2.2
theorem dep_s {t : Int → Int} {n p : Int} (h : p < n) (h2 : 48 ≤ t p ∧ t p ≤ 57) : dep t n p = dep t n (p + 1) := by
  unfold dep
  rw [show (n - p).toNat = (n - (p + 1)).toNat + 1 by omega]
  exact if_pos ⟨h, h2⟩
theorem dep_e {t : Int → Int} {n p : Int} (h : ¬ (p < n ∧ 48 ≤ t p ∧ t p ≤ 57)) : dep t n p = p := by
  unfold dep
  cases (n - p).toNat with
  | zero => rfl
  | succ k => exact if_neg h
theorem dvp_s {t : Int → Int} {n p v : Int} (h : p < n) (h2 : 48 ≤ t p ∧ t p ≤ 57) : dvp t n p v = dvp t n (p + 1) (if 201 < v * 10 + t p - 48 then 201 else v * 10 + t p - 48) := by
  unfold dvp
  rw [show (n - p).toNat = (n - (p + 1)).toNat + 1 by omega]
  exact if_pos ⟨h, h2⟩
theorem dvp_e {t : Int → Int} {n p v : Int} (h : ¬ (p < n ∧ 48 ≤ t p ∧ t p ≤ 57)) : dvp t n p v = v := by
  unfold dvp
  cases (n - p).toNat with
  | zero => rfl
  | succ k => exact if_neg h
theorem de_bd (t : Int → Int) (n : Int) : ∀ (k : Nat) (p : Int), p ≤ n → (p ≤ de t n k p ∧ de t n k p ≤ n)
  | 0, p, h => by show p ≤ p ∧ p ≤ n; omega
  | k + 1, p, h => by
    by_cases q : p < n ∧ 48 ≤ t p ∧ t p ≤ 57
    · have e : de t n (k + 1) p = de t n k (p + 1) := if_pos q
      have := de_bd t n k (p + 1) (by omega)
      rw [e]; omega
    · have e : de t n (k + 1) p = p := if_neg q
      rw [e]; omega
theorem dep_bd (t : Int → Int) {n p : Int} (h : p ≤ n) : p ≤ dep t n p ∧ dep t n p ≤ n := de_bd t n _ p h
theorem dep_1 {t : Int → Int} {n p : Int} (h : p < n) (h2 : 48 ≤ t p ∧ t p ≤ 57) : p + 1 ≤ dep t n p ∧ dep t n p ≤ n := by
  rw [dep_s h h2]; exact dep_bd t (by omega)
theorem dv_bd (t : Int → Int) (n : Int) : ∀ (k : Nat) (p v : Int), 0 ≤ v ∧ v ≤ 201 → (0 ≤ dv t n k p v ∧ dv t n k p v ≤ 201)
  | 0, p, v, h => h
  | k + 1, p, v, h => by
    by_cases q : p < n ∧ 48 ≤ t p ∧ t p ≤ 57
    · have e : dv t n (k + 1) p v = dv t n k (p + 1) (if 201 < v * 10 + t p - 48 then 201 else v * 10 + t p - 48) := if_pos q
      rw [e]
      refine dv_bd t n k (p + 1) _ ?_
      split <;> omega
    · have e : dv t n (k + 1) p v = v := if_neg q
      rw [e]; exact h
theorem dvp_bd (t : Int → Int) (n p : Int) : 0 ≤ dvp t n p 0 ∧ dvp t n p 0 ≤ 201 := dv_bd t n _ p 0 (by omega)
/-- the TOKEN that begins at p: its kind (-1: the end, -2: a NUMBER, -3: it can't be one), its value, the place behind it; where the next one begins -/
def kd (t : Int → Int) (n p : Int) : Int := if ¬ p < n then -1 else if 48 ≤ t p ∧ t p ≤ 57 then (if 200 < dvp t n p 0 ∨ (t p = 48 ∧ 1 < dep t n p - p) then -3 else -2) else if t p = 114 ∨ t p = 108 ∨ t p = 116 ∨ t p = 112 ∨ t p = 59 then t p else -3
def vl (t : Int → Int) (n p : Int) : Int := if p < n ∧ 48 ≤ t p ∧ t p ≤ 57 then dvp t n p 0 else 0
def en (t : Int → Int) (n p : Int) : Int := if p < n ∧ 48 ≤ t p ∧ t p ≤ 57 then dep t n p else p + 1
def nx (t : Int → Int) (n p : Int) : Int := skp t n (en t n p)
theorem vl_bd (t : Int → Int) (n p : Int) : 0 ≤ vl t n p ∧ vl t n p ≤ 201 := by
  unfold vl
  split
  · exact dvp_bd t n p
  · omega
theorem en_bd (t : Int → Int) {n p : Int} (h : p < n) : p + 1 ≤ en t n p ∧ en t n p ≤ n := by
  unfold en
  split
  · rename_i q; exact dep_1 h q.2
  · omega
theorem nx_bd (t : Int → Int) {n p : Int} (h : p < n) : p + 1 ≤ nx t n p ∧ nx t n p ≤ n := by
  have h1 := en_bd t h
  have h2 := skp_all t h1.2
  unfold nx
  omega
theorem kd_end {t : Int → Int} {n p : Int} (h : ¬ p < n) : kd t n p = -1 := if_pos h
theorem kd_in {t : Int → Int} {n p : Int} (h : p < n) (ht : 0 ≤ t p) : kd t n p ≠ -1 := by
  unfold kd
  rw [if_neg (by omega)]
  split
  · split <;> omega
  · split <;> omega
theorem kd_lt {t : Int → Int} {n p : Int} (h : kd t n p ≠ -1) : p < n := by
  rcases Int.lt_or_le p n with q | q
  · exact q
  · exact absurd (kd_end (by omega)) h
theorem kd_bd {t : Int → Int} {n p : Int} (ht : p < n → 0 ≤ t p ∧ t p ≤ 255) : -3 ≤ kd t n p ∧ kd t n p ≤ 255 := by
  unfold kd
  split
  · omega
  · rename_i h
    have := ht (by omega)
    split
    · split <;> omega
    · split <;> omega
/-- a NUMBER from lo to hi begins at p -/
abbrev numOK (t : Int → Int) (n p lo hi : Int) : Prop := kd t n p = -2 ∧ lo ≤ vl t n p ∧ vl t n p ≤ hi
/-- one TOKEN more: s: whether there was a fault, and the place -/
def ps (t : Int → Int) (n d : Int) (s : Int × Int) : Int × Int := if s.1 = 0 ∧ kd t n s.2 = d then (0, nx t n s.2) else (1, s.2)
def pn (t : Int → Int) (n lo hi : Int) (s : Int × Int) : Int × Int := if s.1 = 0 ∧ numOK t n s.2 lo hi then (0, nx t n s.2) else (1, s.2)
theorem ps_bad {t : Int → Int} {n d q : Int} : ps t n d (1, q) = (1, q) := if_neg (by simp)
theorem pn_bad {t : Int → Int} {n lo hi q : Int} : pn t n lo hi (1, q) = (1, q) := if_neg (by simp)
theorem ps_ok {t : Int → Int} {n d q : Int} (h : kd t n q = d) : ps t n d (0, q) = (0, nx t n q) := if_pos ⟨rfl, h⟩
theorem ps_no {t : Int → Int} {n d q : Int} (h : ¬ kd t n q = d) : ps t n d (0, q) = (1, q) := if_neg (fun k => h k.2)
theorem pn_ok {t : Int → Int} {n lo hi q : Int} (h : numOK t n q lo hi) : pn t n lo hi (0, q) = (0, nx t n q) := if_pos ⟨rfl, h⟩
theorem pn_no {t : Int → Int} {n lo hi q : Int} (h : ¬ numOK t n q lo hi) : pn t n lo hi (0, q) = (1, q) := if_neg (fun k => h k.2)
/-- an ITEM but for its end: whether there is a fault, and the place. sr, sl, st: whether r, l, t were there; du: how many DUES -/
def itc (t : Int → Int) (n p sr sl st du : Int) : Int × Int :=
  if kd t n p = 114 then pn t n 1 20 (pn t n 1 9 (pn t n 1 99 (ps t n 114 (sr, p))))
  else if kd t n p = 108 then pn t n (vl t n (ps t n 108 (sl, p)).2 + 1) 9 (pn t n 1 8 (ps t n 108 (sl, p)))
  else if kd t n p = 116 then pn t n 0 9 (ps t n 116 (st, p))
  else if kd t n p = 112 then pn t n 1 200 (pn t n 1 120 (ps t n 112 (if du < 6 then 0 else 1, p)))
  else (1, p)
def itf (t : Int → Int) (n p sr sl st du : Int) : Int × Int := ps t n 59 (itc t n p sr sl st du)
/-- what an ITEM tells: WEIGHT, MORE, EACH, A, B, LATER are places 0 .. 5 of rd -/
def itr (t : Int → Int) (n p sr sl st : Int) (rd : Int → Int) : Int → Int :=
  if kd t n p = 114 then zu (zu (zu rd 0 (vl t n (ps t n 114 (sr, p)).2)) 1 (vl t n (pn t n 1 99 (ps t n 114 (sr, p))).2)) 2 (vl t n (pn t n 1 9 (pn t n 1 99 (ps t n 114 (sr, p)))).2)
  else if kd t n p = 108 then zu (zu rd 3 (vl t n (ps t n 108 (sl, p)).2)) 4 (vl t n (pn t n 1 8 (ps t n 108 (sl, p))).2)
  else if kd t n p = 116 then zu rd 5 (vl t n (ps t n 116 (st, p)).2)
  else rd
def itn (t : Int → Int) (n p du : Int) (dn : Int → Int) : Int → Int := if kd t n p = 112 ∧ du < 6 then zu dn du (vl t n (ps t n 112 (0, p)).2) else dn
def itw (t : Int → Int) (n p du : Int) (dw : Int → Int) : Int → Int := if kd t n p = 112 ∧ du < 6 then zu dw du (vl t n (pn t n 1 120 (ps t n 112 (0, p))).2) else dw
def itu (t : Int → Int) (n p du : Int) : Int := if kd t n p = 112 ∧ du < 6 then du + 1 else du
def fl (t : Int → Int) (n p d sr : Int) : Int := if kd t n p = d then 1 else sr
/-- THE TEXT, read from p on: the answer; what it tells: rd; how many DUES; their NIGHTS; their WEIGHTS -/
def PF (t : Int → Int) (n : Int) : Nat → Int → Int → Int → Int → Int → (Int → Int) → Int → (Int → Int) → (Int → Int) → Int × (Int → Int) × Int × (Int → Int) × (Int → Int)
  | 0, _, it, _, _, _, rd, du, dn, dw => (it, rd, du, dn, dw)
  | k + 1, p, it, sr, sl, st, rd, du, dn, dw => if kd t n p = -1 then (it, rd, du, dn, dw) else if (itf t n p sr sl st du).1 = 1 then (-10 - (itf t n p sr sl st du).2, rd, du, dn, dw) else PF t n k (itf t n p sr sl st du).2 (it + 1) (fl t n p 114 sr) (fl t n p 108 sl) (fl t n p 116 st) (itr t n p sr sl st rd) (itu t n p du) (itn t n p du dn) (itw t n p du dw)
theorem PF_e {t : Int → Int} {n : Int} {k : Nat} {p it sr sl st : Int} {rd : Int → Int} {du : Int} {dn dw : Int → Int} (h : kd t n p = -1) : PF t n k p it sr sl st rd du dn dw = (it, rd, du, dn, dw) := by
  cases k with
  | zero => rfl
  | succ k => exact if_pos h
theorem PF_f {t : Int → Int} {n : Int} {k : Nat} {p it sr sl st : Int} {rd : Int → Int} {du : Int} {dn dw : Int → Int} (h : ¬ kd t n p = -1) (h2 : (itf t n p sr sl st du).1 = 1) : PF t n (k + 1) p it sr sl st rd du dn dw = (-10 - (itf t n p sr sl st du).2, rd, du, dn, dw) := (if_neg h).trans (if_pos h2)
theorem PF_s {t : Int → Int} {n : Int} {k : Nat} {p it sr sl st : Int} {rd : Int → Int} {du : Int} {dn dw : Int → Int} (h : ¬ kd t n p = -1) (h2 : ¬ (itf t n p sr sl st du).1 = 1) : PF t n (k + 1) p it sr sl st rd du dn dw = PF t n k (itf t n p sr sl st du).2 (it + 1) (fl t n p 114 sr) (fl t n p 108 sl) (fl t n p 116 st) (itr t n p sr sl st rd) (itu t n p du) (itn t n p du dn) (itw t n p du dw) := (if_neg h).trans (if_neg h2)
/-- WEIGHT, MORE, EACH, A, B, LATER as one row -/
def rdf (x0 x1 x2 x3 x4 x5 : Int) : Int → Int := fun j => if j = 0 then x0 else if j = 1 then x1 else if j = 2 then x2 else if j = 3 then x3 else if j = 4 then x4 else if j = 5 then x5 else 0
/-- THE TEXT as first told, read -/
def rd0 : Int → Int := rdf 81 8 9 1 3 0
def RDok (rd : Int → Int) : Prop := LAWok (rd 0) (rd 1) (rd 2) (rd 5) (rd 3) (rd 4)
theorem itr_rdf (t : Int → Int) (n p sr sl st x0 x1 x2 x3 x4 x5 : Int) : itr t n p sr sl st (rdf x0 x1 x2 x3 x4 x5) = rdf (itr t n p sr sl st (rdf x0 x1 x2 x3 x4 x5) 0) (itr t n p sr sl st (rdf x0 x1 x2 x3 x4 x5) 1) (itr t n p sr sl st (rdf x0 x1 x2 x3 x4 x5) 2) (itr t n p sr sl st (rdf x0 x1 x2 x3 x4 x5) 3) (itr t n p sr sl st (rdf x0 x1 x2 x3 x4 x5) 4) (itr t n p sr sl st (rdf x0 x1 x2 x3 x4 x5) 5) := by
  funext j
  by_cases h : j = 0 ∨ j = 1 ∨ j = 2 ∨ j = 3 ∨ j = 4 ∨ j = 5
  · rcases h with rfl | rfl | rfl | rfl | rfl | rfl <;> rfl
  · have h6 : ∀ a0 a1 a2 a3 a4 a5 : Int, rdf a0 a1 a2 a3 a4 a5 j = 0 := fun a0 a1 a2 a3 a4 a5 => by
      unfold rdf
      rw [if_neg (by omega), if_neg (by omega), if_neg (by omega), if_neg (by omega), if_neg (by omega), if_neg (by omega)]
    rw [h6]
    unfold itr
    split
    · rw [zu_n (by omega), zu_n (by omega), zu_n (by omega)]; exact h6 _ _ _ _ _ _
    · split
      · rw [zu_n (by omega), zu_n (by omega)]; exact h6 _ _ _ _ _ _
      · split
        · rw [zu_n (by omega)]; exact h6 _ _ _ _ _ _
        · exact h6 _ _ _ _ _ _
theorem pn_0 {t : Int → Int} {n lo hi : Int} {s : Int × Int} (h : (pn t n lo hi s).1 = 0) : s.1 = 0 ∧ numOK t n s.2 lo hi := by
  unfold pn at h
  by_cases q : s.1 = 0 ∧ numOK t n s.2 lo hi
  · exact q
  · rw [if_neg q] at h; simp at h
theorem ps_0 {t : Int → Int} {n d : Int} {s : Int × Int} (h : (ps t n d s).1 = 0) : s.1 = 0 ∧ kd t n s.2 = d := by
  unfold ps at h
  by_cases q : s.1 = 0 ∧ kd t n s.2 = d
  · exact q
  · rw [if_neg q] at h; simp at h
theorem ps_01 (t : Int → Int) (n d : Int) (s : Int × Int) : (ps t n d s).1 = 0 ∨ (ps t n d s).1 = 1 := by
  unfold ps
  split <;> simp
theorem itr_ok {t : Int → Int} {n p sr sl st du : Int} {rd : Int → Int} (h : RDok rd) (h2 : (itf t n p sr sl st du).1 = 0) : RDok (itr t n p sr sl st rd) := by
  have h3 := (ps_0 h2).1
  obtain ⟨g1, g2, g3, g4, g5, g6, g7⟩ := h
  unfold itc at h3
  unfold itr RDok
  split
  · rename_i q
    rw [if_pos q] at h3
    obtain ⟨a1, a2⟩ := pn_0 h3
    obtain ⟨b1, b2⟩ := pn_0 a1
    obtain ⟨c1, c2⟩ := pn_0 b1
    exact ⟨c2.2, b2.2, a2.2, g4, g5, g6, g7⟩
  · rename_i q
    rw [if_neg q] at h3
    split
    · rename_i q2
      rw [if_pos q2] at h3
      obtain ⟨a1, a2⟩ := pn_0 h3
      obtain ⟨b1, b2⟩ := pn_0 a1
      refine ⟨g1, g2, g3, g4, b2.2, ?_, a2.2.2⟩
      have := a2.2.1
      show vl t n (ps t n 108 (sl, p)).2 < vl t n (pn t n 1 8 (ps t n 108 (sl, p))).2
      omega
    · rename_i q2
      rw [if_neg q2] at h3
      split
      · rename_i q3
        rw [if_pos q3] at h3
        obtain ⟨a1, a2⟩ := pn_0 h3
        exact ⟨g1, g2, g3, a2.2, g5, g6, g7⟩
      · exact ⟨g1, g2, g3, g4, g5, g6, g7⟩
theorem itd_ok {t : Int → Int} {n p sr sl st du : Int} {dn dw : Int → Int} (h : DUok dn dw du) (h2 : (itf t n p sr sl st du).1 = 0) : DUok (itn t n p du dn) (itw t n p du dw) (itu t n p du) := by
  have h3 := (ps_0 h2).1
  unfold itc at h3
  unfold itn itw itu
  by_cases q : kd t n p = 112 ∧ du < 6
  · rw [if_pos q, if_pos q, if_pos q]
    rw [if_neg (by omega), if_neg (by omega), if_neg (by omega), if_pos q.1, if_pos q.2] at h3
    obtain ⟨a1, a2⟩ := pn_0 h3
    obtain ⟨b1, b2⟩ := pn_0 a1
    refine ⟨by have := h.1; omega, fun i h4 h5 => ?_⟩
    by_cases e : i = du
    · rw [e, zu_s, zu_s]; exact ⟨b2.2, a2.2⟩
    · rw [zu_n e, zu_n e]; exact h.2 i h4 (by omega)
  · rw [if_neg q, if_neg q, if_neg q]; exact h
theorem itf_pos {t : Int → Int} {n p sr sl st du : Int} (h2 : (itf t n p sr sl st du).1 = 0) : (itf t n p sr sl st du).2 = nx t n (itc t n p sr sl st du).2 ∧ kd t n (itc t n p sr sl st du).2 = 59 := by
  obtain ⟨h3, h4⟩ := ps_0 h2
  refine ⟨?_, h4⟩
  unfold itf ps
  rw [if_pos ⟨h3, h4⟩]
/-- the letters are letters -/
def TXok (t : Int → Int) (n : Int) : Prop := (0 ≤ n ∧ n ≤ 200) ∧ ∀ i : Int, 0 ≤ i → i < n → 0 ≤ t i ∧ t i ≤ 255
/-- THE TEXT, cut: kinds, places, values of its m TOKENS, and of its end -/
def TOK (t : Int → Int) (n : Int) (tk st va : Int → Int) (m : Int) : Prop := (0 ≤ m ∧ m ≤ 200) ∧ (∀ k : Int, 0 ≤ k → k ≤ m → 0 ≤ st k ∧ st k ≤ n ∧ tk k = kd t n (st k) ∧ va k = vl t n (st k)) ∧ (∀ k : Int, 0 ≤ k → k < m → st k < n ∧ st (k + 1) = nx t n (st k)) ∧ st m = n ∧ st 0 = skp t n 0
/-- the same while it is cut, up to place a -/
def CUT (t : Int → Int) (n : Int) (tk st va : Int → Int) (m a : Int) : Prop := (0 ≤ m ∧ m ≤ a ∧ a ≤ n) ∧ (∀ k : Int, 0 ≤ k → k < m → 0 ≤ st k ∧ st k < n ∧ tk k = kd t n (st k) ∧ va k = vl t n (st k) ∧ (k + 1 < m → st (k + 1) = nx t n (st k))) ∧ (m = 0 → skp t n a = skp t n 0) ∧ (0 < m → skp t n a = nx t n (st (m - 1)) ∧ st 0 = skp t n 0)
theorem CUT_0 {t tk st va : Int → Int} {n : Int} (h : 0 ≤ n) : CUT t n tk st va 0 0 := ⟨by omega, fun k h1 h2 => by omega, fun _ => rfl, fun h => by omega⟩
theorem CUT_b {t tk st va : Int → Int} {n m a : Int} (h : CUT t n tk st va m a) (ha : a < n) (hb : t a = 32) : CUT t n tk st va m (a + 1) := by
  have e := skp_s ha hb
  obtain ⟨h1, h2, h3, h4⟩ := h
  exact ⟨by omega, h2, fun q => by rw [← e]; exact h3 q, fun q => by rw [← e]; exact h4 q⟩
theorem CUT_t {t tk st va : Int → Int} {n m a : Int} (h : CUT t n tk st va m a) (ha : a < n) (hb : ¬ t a = 32) {x y : Int} (hx : x = kd t n a) (hy : y = vl t n a) : CUT t n (zu tk m x) (zu st m a) (zu va m y) (m + 1) (en t n a) := by
  have e : skp t n a = a := skp_e (fun q => hb q.2)
  obtain ⟨h1, h2, h3, h4⟩ := h
  have he := en_bd t ha
  refine ⟨by omega, fun k k1 k2 => ?_, fun q => by omega, fun _ => ⟨?_, ?_⟩⟩
  · by_cases q : k = m
    · rw [q, zu_s, zu_s, zu_s]
      exact ⟨by omega, ha, hx, hy, fun q2 => by omega⟩
    · rw [zu_n q, zu_n q, zu_n q]
      obtain ⟨g1, g2, g3, g4, g5⟩ := h2 k k1 (by omega)
      refine ⟨g1, g2, g3, g4, fun _ => ?_⟩
      by_cases q2 : k + 1 = m
      · rw [q2, zu_s]
        have := (h4 (by omega)).1
        rw [e, show m - 1 = k by omega] at this
        exact this
      · rw [zu_n q2]; exact g5 (by omega)
  · rw [show m + 1 - 1 = m by omega, zu_s]; rfl
  · by_cases q : m = 0
    · rw [← q, zu_s]
      have := h3 q
      rw [e, ← q] at this
      exact this
    · rw [zu_n (by omega)]; exact (h4 (by omega)).2
theorem CUT_e {t tk st va : Int → Int} {n m a : Int} (h : CUT t n tk st va m a) (hn : n ≤ 200) (ha : ¬ a < n) : TOK t n (zu tk m (-1)) (zu st m n) (zu va m 0) m := by
  obtain ⟨h1, h2, h3, h4⟩ := h
  have ea : a = n := by omega
  have e : skp t n a = n := by rw [ea]; exact skp_e (fun q => by omega)
  refine ⟨by omega, fun k k1 k2 => ?_, fun k k1 k2 => ?_, zu_s, ?_⟩
  · by_cases q : k = m
    · rw [q, zu_s, zu_s, zu_s]
      refine ⟨by omega, Int.le_refl n, (kd_end (by omega)).symm, ?_⟩
      unfold vl
      rw [if_neg (by omega)]
    · rw [zu_n q, zu_n q, zu_n q]
      obtain ⟨g1, g2, g3, g4, g5⟩ := h2 k k1 (by omega)
      exact ⟨g1, by omega, g3, g4⟩
  · obtain ⟨g1, g2, g3, g4, g5⟩ := h2 k k1 (by omega)
    rw [zu_n (show k ≠ m by omega)]
    refine ⟨g2, ?_⟩
    by_cases q : k + 1 = m
    · rw [q, zu_s]
      have := (h4 (by omega)).1
      rw [e, show m - 1 = k by omega] at this
      exact this
    · rw [zu_n q]; exact g5 (by omega)
  · by_cases q : m = 0
    · have := h3 q
      rw [e] at this
      rw [← this, q, zu_s]
    · rw [zu_n (by omega)]; exact (h4 (by omega)).2
theorem zu_self {f : Int → Int} {k x : Int} (h : f k = x) : zu f k x = f := by
  funext j
  by_cases q : j = k
  · rw [q, zu_s, h]
  · rw [zu_n q]
/-- one digit more of the NUMBER at place k: kinds and values behind it -/
def LGN (tk va : Int → Int) (k d : Int) (tk1 va1 : Int → Int) : Prop := ∃ w : Int, ((201 < va k * 10 + d ∧ w = 201) ∨ (va k * 10 + d ≤ 201 ∧ w = va k * 10 + d)) ∧ va1 = zu va k w ∧ ((tk1 = zu tk k (-3) ∧ (va k = 0 ∨ 200 < w)) ∨ (tk1 = tk ∧ ¬ (va k = 0 ∨ 200 < w)))
theorem CUT_x {t tk st va tk2 st2 va2 : Int → Int} {n m a : Int} (h : CUT t n tk st va m a) (h1 : ∀ k : Int, k < m → tk2 k = tk k ∧ st2 k = st k ∧ va2 k = va k) : CUT t n tk2 st2 va2 m a := by
  obtain ⟨g1, g2, g3, g4⟩ := h
  refine ⟨g1, fun k k1 k2 => ?_, g3, fun q => ?_⟩
  · obtain ⟨e1, e2, e3⟩ := h1 k k2
    obtain ⟨p1, p2, p3, p4, p5⟩ := g2 k k1 k2
    rw [e1, e2, e3]
    exact ⟨p1, p2, p3, p4, fun q => by rw [(h1 (k + 1) q).2.1]; exact p5 q⟩
  · rw [(h1 (m - 1) (by omega)).2.1, (h1 0 q).2.1]; exact g4 q
/-- the NUMBER at place k while it is cut, up to place a -/
def NUM (t : Int → Int) (n : Int) (tk st va : Int → Int) (k a : Int) : Prop := ∃ q v : Int, st k = q ∧ va k = v ∧ CUT t n tk st va k q ∧ (q < a ∧ a ≤ n) ∧ (48 ≤ t q ∧ t q ≤ 57) ∧ dep t n q = dep t n a ∧ dvp t n q 0 = dvp t n a v ∧ (0 ≤ v ∧ v ≤ 201) ∧ (v = 0 → t q = 48) ∧ (a = q + 1 → v = t q - 48) ∧ ((tk k = -3 ∧ (200 < v ∨ (t q = 48 ∧ 1 < a - q))) ∨ (tk k = -2 ∧ ¬ (200 < v ∨ (t q = 48 ∧ 1 < a - q))))
theorem NUM_0 {t tk st va : Int → Int} {n m a : Int} (h : CUT t n tk st va m a) (ha : a < n) (hd : 48 ≤ t a ∧ t a ≤ 57) : NUM t n (zu tk m (-2)) (zu st m a) (zu va m (t a - 48)) m (a + 1) := by
  refine ⟨a, t a - 48, zu_s, zu_s, CUT_x h (fun k hk => ⟨zu_n (by omega), zu_n (by omega), zu_n (by omega)⟩), by omega, hd, dep_s ha hd, ?_, by omega, by omega, by omega, Or.inr ⟨zu_s, by omega⟩⟩
  rw [dvp_s ha hd, if_neg (by omega), show (0 : Int) * 10 + t a - 48 = t a - 48 by omega]
theorem NUM_s {t tk st va tk1 va1 : Int → Int} {n k a : Int} (h : NUM t n tk st va k a) (ha : a < n) (hd : 48 ≤ t a ∧ t a ≤ 57) (hL : LGN tk va k (t a - 48) tk1 va1) : NUM t n tk1 st va1 k (a + 1) := by
  obtain ⟨q, v, e1, e2, g1, g2, g3, g4, g5, g6, g7, g8, g9⟩ := h
  obtain ⟨w, w1, w2, w3⟩ := hL
  rw [e2] at w1 w3
  subst w2
  have hw : w = if 201 < v * 10 + t a - 48 then 201 else v * 10 + t a - 48 := by split <;> omega
  refine ⟨q, w, e1, zu_s, CUT_x g1 (fun j hj => ⟨?_, rfl, zu_n (by omega)⟩), by omega, g3, by rw [g4, dep_s ha hd], by rw [g5, dvp_s ha hd, ← hw], by omega, by omega, by omega, ?_⟩
  · rcases w3 with ⟨w4, _⟩ | ⟨w4, _⟩
    · rw [w4, zu_n (by omega)]
    · rw [w4]
  · rcases w3 with ⟨w4, w5⟩ | ⟨w4, w5⟩
    · refine Or.inl ⟨by rw [w4, zu_s], by omega⟩
    · rw [w4]
      rcases g9 with ⟨x1, x2⟩ | ⟨x1, x2⟩
      · exact Or.inl ⟨x1, by omega⟩
      · exact Or.inr ⟨x1, by omega⟩
theorem NUM_e {t tk st va : Int → Int} {n k a : Int} (h : NUM t n tk st va k a) (hd : ¬ (a < n ∧ 48 ≤ t a ∧ t a ≤ 57)) : CUT t n tk st va (k + 1) a := by
  obtain ⟨q, v, e1, e2, g1, g2, g3, g4, g5, g6, g7, g8, g9⟩ := h
  have h1 : a = dep t n q := by rw [g4, dep_e hd]
  have h2 : v = dvp t n q 0 := by rw [g5, dvp_e hd]
  have hq : q < n := by omega
  have hx : tk k = kd t n q := by
    unfold kd
    rw [if_neg (by omega), if_pos g3, ← h2, ← h1]
    rcases g9 with ⟨x1, x2⟩ | ⟨x1, x2⟩
    · rw [if_pos x2]; exact x1
    · rw [if_neg x2]; exact x1
  have hy : va k = vl t n q := by
    unfold vl
    rw [if_pos ⟨hq, g3⟩, ← h2]; exact e2
  have hz : en t n q = a := by
    unfold en
    rw [if_pos ⟨hq, g3⟩]; exact h1.symm
  have h3 := CUT_t g1 hq (show ¬ t q = 32 by omega) hx hy
  rw [zu_self rfl, zu_self e1, zu_self rfl, hz] at h3
  exact h3
/-- the same for both: b: whether the letter before a is a digit -/
def CUN (t : Int → Int) (n : Int) (tk st va : Int → Int) (m a b : Int) : Prop := (0 ≤ m ∧ m ≤ a ∧ a ≤ n) ∧ ((b = 0 ∧ CUT t n tk st va m a) ∨ (b = 1 ∧ 1 ≤ m ∧ NUM t n tk st va (m - 1) a))
theorem CUN_0 {t tk st va : Int → Int} {n : Int} (h : 0 ≤ n) : CUN t n tk st va 0 0 0 := ⟨by omega, Or.inl ⟨rfl, CUT_0 h⟩⟩
theorem CUN_c {t tk st va : Int → Int} {n m a b : Int} (h : CUN t n tk st va m a b) (hd : ¬ (a < n ∧ 48 ≤ t a ∧ t a ≤ 57)) : CUT t n tk st va m a := by
  rcases h.2 with ⟨_, q⟩ | ⟨_, q, r⟩
  · exact q
  · have h1 := NUM_e r hd
    rw [show m - 1 + 1 = m by omega] at h1
    exact h1
theorem CUN_v {t tk st va : Int → Int} {n m a b : Int} (h : CUN t n tk st va m a b) (hb : b = 1) {k : Int} (hk : k = m - 1) : 0 ≤ k ∧ 0 ≤ va k ∧ va k ≤ 201 := by
  rcases h.2 with ⟨q, _⟩ | ⟨_, q, r⟩
  · omega
  · obtain ⟨q, v, e1, e2, g1, g2, g3, g4, g5, g6, g7⟩ := r
    rw [hk, e2]; omega
theorem CUN_b {t tk st va : Int → Int} {n m a b : Int} (h : CUN t n tk st va m a b) (ha : a < n) (hb : t a = 32) {y z : Int} (hy : y = a + 1) (hz : z = 0) : CUN t n tk st va m y z := by
  have h1 := h.1
  refine ⟨by omega, Or.inl ⟨hz, ?_⟩⟩
  rw [hy]; exact CUT_b (CUN_c h (by omega)) ha hb
theorem CUN_t {t tk st va : Int → Int} {n m a b : Int} (h : CUN t n tk st va m a b) (ha : a < n) (hd : ¬ (48 ≤ t a ∧ t a ≤ 57)) (hb : ¬ t a = 32) {x y z m2 : Int} (hx : x = kd t n a) (hm : m2 = m + 1) (hy : y = a + 1) (hz : z = 0) : CUN t n (zu tk m x) (zu st m a) (zu va m 0) m2 y z := by
  have h1 := h.1
  have hv : 0 = vl t n a := by unfold vl; rw [if_neg (by omega)]
  have he : en t n a = a + 1 := by unfold en; rw [if_neg (by omega)]
  have h2 := CUT_t (CUN_c h (by omega)) ha hb hx hv
  rw [he] at h2
  refine ⟨by omega, Or.inl ⟨hz, ?_⟩⟩
  rw [hm, hy]; exact h2
theorem CUN_d {t tk st va : Int → Int} {n m a b : Int} (h : CUN t n tk st va m a b) (hb : b = 0) (ha : a < n) (hd : 48 ≤ t a ∧ t a ≤ 57) {v y z m2 : Int} (hv : v = t a - 48) (hm : m2 = m + 1) (hy : y = a + 1) (hz : z = 1) : CUN t n (zu tk m (-2)) (zu st m a) (zu va m v) m2 y z := by
  have h1 := h.1
  refine ⟨by omega, Or.inr ⟨hz, by omega, ?_⟩⟩
  rw [show m2 - 1 = m by omega, hy, hv]
  rcases h.2 with ⟨_, q⟩ | ⟨q, _⟩
  · exact NUM_0 q ha hd
  · omega
theorem CUN_l {t tk st va tk1 va1 : Int → Int} {n m a b : Int} (h : CUN t n tk st va m a b) (hb : b = 1) (ha : a < n) (hd : 48 ≤ t a ∧ t a ≤ 57) {k d y z : Int} (hk : k = m - 1) (hv : d = t a - 48) (hL : LGN tk va k d tk1 va1) (hy : y = a + 1) (hz : z = 1) : CUN t n tk1 st va1 m y z := by
  have h1 := h.1
  rw [hk, hv] at hL
  rcases h.2 with ⟨q, _⟩ | ⟨_, q, r⟩
  · omega
  · refine ⟨by omega, Or.inr ⟨hz, q, ?_⟩⟩
    rw [hy]; exact NUM_s r ha hd hL
theorem TOK_tk {t tk st va : Int → Int} {n m he : Int} (h : TOK t n tk st va m) (h1 : 0 ≤ he) (h2 : he ≤ m) (hd : tk he ≠ -1) : he < m ∧ st he < n ∧ st (he + 1) = nx t n (st he) := by
  have h3 := h.2.1 he h1 h2
  have h4 := kd_lt (by rw [← h3.2.2.1]; exact hd)
  have h5 : he < m := by
    rcases Int.lt_or_le he m with q | q
    · exact q
    · have e : he = m := by omega
      rw [e, h.2.2.2.1] at h4; omega
  exact ⟨h5, h.2.2.1 he h1 h5⟩
theorem TOK_rng {t tk st va : Int → Int} {n m he : Int} (hT : TXok t n) (h : TOK t n tk st va m) (h1 : 0 ≤ he) (h2 : he ≤ m) : (-3 ≤ tk he ∧ tk he ≤ 255) ∧ (0 ≤ va he ∧ va he ≤ 201) ∧ (0 ≤ st he ∧ st he ≤ 200) := by
  have h3 := h.2.1 he h1 h2
  rw [h3.2.2.1, h3.2.2.2]
  have := hT.1
  exact ⟨kd_bd (fun q => hT.2 _ h3.1 q), vl_bd t n _, by omega⟩
