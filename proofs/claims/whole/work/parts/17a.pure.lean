/-! Pure words of the law: what both keep, as one -/
def SYS (d kp : Int → Int) (un kn nx : Int) (b : Int → Int) (n lm : Int) (pb : Nat → Int → Int) (pn pl : Nat → Int) (ib : Nat → Int → Int) (inn il : Nat → Int) (B : Int) : Prop :=
  GB b n ∧ (0 ≤ lm ∧ lm ≤ B) ∧ AT d 0 b n lm ∧ (0 ≤ nx ∧ nx ≤ 7) ∧ (0 ≤ kn ∧ kn ≤ 8) ∧ un = kn ∧ UND d un nx pb pn pl B ∧ IMG d kp ib inn il B
section SY
variable {d d1 d2 kp b b1 w ea : Int → Int} {un un1 kn kn1 nx nx1 n n1 lm lm1 B B' mo zc zm o x i : Int} {pb pb1 ib ib1 : Nat → Int → Int} {pn pn1 pl pl1 inn inn1 il il1 : Nat → Int}
theorem SYS_up (h : SYS d kp un kn nx b n lm pb pn pl ib inn il B) (hB : B ≤ B') : SYS d kp un kn nx b n lm pb pn pl ib inn il B' := by
  obtain ⟨g1, g2, g3, g4, g5, g6, g7, g8⟩ := h
  exact ⟨g1, by omega, g3, g4, g5, g6, UND_up g7 hB, IMG_up g8 hB⟩
theorem SYS_frm (h : SYS d kp un kn nx b n lm pb pn pl ib inn il B) (hf : FRM d d1 607) (hB : B ≤ B') : SYS d1 kp un kn nx b n lm pb pn pl ib inn il B' := by
  obtain ⟨g1, g2, g3, g4, g5, g6, g7, g8⟩ := h
  exact ⟨g1, by omega, AT_frm g3 hf (by omega), g4, g5, g6, UND_up (UND_ext g7 (by omega) (fun j h1 h2 => hf j (by omega))) hB, IMG_up (IMG_ext g8 (fun j h1 h2 => hf j (by omega))) hB⟩
theorem SYS_act (h : SYS d kp un kn nx b n lm pb pn pl ib inn il B) (hm : MN un un1 d d2) (hr : RM nx kn nx1 kn1 pb pb1 pn pn1 pl pl1 b n lm) (ha : AT d1 0 b1 n1 lm1) (hf : FRM d2 d1 0) (hG : GB b1 n1) (hl : 0 ≤ lm1 ∧ lm1 ≤ B') (hB : B ≤ B') : SYS d1 kp un1 kn1 nx1 b1 n1 lm1 pb1 pn1 pl1 ib inn il B' := by
  obtain ⟨g1, g2, g3, g4, g5, g6, g7, g8⟩ := h
  rw [← g6] at hr g5
  obtain ⟨r1, r2, r3, r4⟩ := UND_rem g7 g5 g4 hm hr g3 g1 g2
  refine ⟨hG, hl, ha, r2, by omega, r1, UND_up (UND_ext r4 r3.2 (fun j h1 h2 => hf j (by omega))) hB, IMG_up (IMG_ext (IMG_ext g8 (fun j h1 h2 => ?_)) (fun j h1 h2 => hf j (by omega))) hB⟩
  rcases hm with ⟨_, _, m3⟩ | ⟨_, _, m3⟩
  · rw [m3, if_neg (by omega)]
  · rw [m3, if_neg (by omega), if_neg (by omega)]
theorem lw_night (h : SYS d kp un kn nx b n lm pb pn pl ib inn il B) (hE : EAok ea) (hM : 1 ≤ mo ∧ mo ≤ 9)
    (qc : (n = 120 ∧ zc = -2 ∧ n1 = n ∧ b1 = b ∧ nx1 = nx ∧ kn1 = kn ∧ pb1 = pb ∧ pn1 = pn ∧ pl1 = pl) ∨ (n < 120 ∧ zc = (gs w ea mo (n + 1) b 4).2 ∧ n1 = n + 1 ∧ b1 = (gs w ea mo (n + 1) b 4).1 ∧ RM nx kn nx1 kn1 pb pb1 pn pn1 pl pl1 b n lm))
    (qm : (n = 120 ∧ zm = -2 ∧ un1 = un ∧ d1 = d) ∨ (n < 120 ∧ zm = (gs w ea mo (n + 1) b 4).2 ∧ ∃ d2 : Int → Int, MN un un1 d d2 ∧ AT d1 0 (gs w ea mo (n + 1) b 4).1 (n + 1) lm ∧ FRM d2 d1 0)) (hB : B ≤ B') :
    zm = zc ∧ SYS d1 kp un1 kn1 nx1 b1 n1 lm pb1 pn1 pl1 ib inn il B' := by
  have hl := h.2.1
  rcases qc with c | c <;> rcases qm with m | m
  · obtain ⟨c0, c1, c2, c3, c4, c5, c6, c7, c8⟩ := c
    obtain ⟨m0, m1, m2, m3⟩ := m
    rw [c1, c2, c3, c4, c5, c6, c7, c8, m1, m2, m3]
    exact ⟨rfl, SYS_up h hB⟩
  · exfalso; omega
  · exfalso; omega
  · obtain ⟨c0, c1, c2, c3, c4⟩ := c
    obtain ⟨m0, m1, d2, m2, m3, m4⟩ := m
    rw [c1, c2, c3, m1]
    exact ⟨rfl, SYS_act h m2 c4 m3 m4 (GB_gs hE hM (GB_up h.1 (by omega)) 4 (by omega)) (by omega) hB⟩
theorem lw_swans (h : SYS d kp un kn nx b n lm pb pn pl ib inn il B)
    (qc : (¬ ((0 ≤ o ∧ o ≤ 4) ∧ 1 ≤ x ∧ x ≤ 1000000) ∧ zc = -1 ∧ b1 = b ∧ nx1 = nx ∧ kn1 = kn ∧ pb1 = pb ∧ pn1 = pn ∧ pl1 = pl) ∨ (((0 ≤ o ∧ o ≤ 4) ∧ 1 ≤ x ∧ x ≤ 1000000) ∧ cnt b n o < x ∧ zc = -2 ∧ b1 = b ∧ nx1 = nx ∧ kn1 = kn ∧ pb1 = pb ∧ pn1 = pn ∧ pl1 = pl) ∨ (((0 ≤ o ∧ o ≤ 4) ∧ 1 ≤ x ∧ x ≤ 1000000) ∧ x ≤ cnt b n o ∧ zc = x * w o ∧ b1 = tk b (121 * o) x ∧ RM nx kn nx1 kn1 pb pb1 pn pn1 pl pl1 b n lm))
    (qm : (¬ ((0 ≤ o ∧ o ≤ 4) ∧ 1 ≤ x ∧ x ≤ 1000000) ∧ zm = -1 ∧ un1 = un ∧ d1 = d) ∨ (((0 ≤ o ∧ o ≤ 4) ∧ 1 ≤ x ∧ x ≤ 1000000) ∧ cnt b n o < x ∧ zm = -2 ∧ un1 = un ∧ d1 = d) ∨ (((0 ≤ o ∧ o ≤ 4) ∧ 1 ≤ x ∧ x ≤ 1000000) ∧ x ≤ cnt b n o ∧ zm = x * w o ∧ ∃ d2 : Int → Int, MN un un1 d d2 ∧ AT d1 0 (tk b (121 * o) x) n lm ∧ FRM d2 d1 0)) (hB : B ≤ B') :
    zm = zc ∧ SYS d1 kp un1 kn1 nx1 b1 n lm pb1 pn1 pl1 ib inn il B' := by
  have hl := h.2.1
  rcases qc with c | c | c
  · obtain ⟨c0, c1, c3, c4, c5, c6, c7, c8⟩ := c
    rcases qm with m | m | m
    · obtain ⟨m0, m1, m2, m3⟩ := m
      rw [c1, c3, c4, c5, c6, c7, c8, m1, m2, m3]
      exact ⟨rfl, SYS_up h hB⟩
    · exact absurd m.1 c0
    · exact absurd m.1 c0
  · obtain ⟨c0, c9, c1, c3, c4, c5, c6, c7, c8⟩ := c
    rcases qm with m | m | m
    · exact absurd c0 m.1
    · obtain ⟨m0, m9, m1, m2, m3⟩ := m
      rw [c1, c3, c4, c5, c6, c7, c8, m1, m2, m3]
      exact ⟨rfl, SYS_up h hB⟩
    · have := m.2.1
      exfalso; omega
  · obtain ⟨c0, c9, c1, c3, c4⟩ := c
    rcases qm with m | m | m
    · exact absurd c0 m.1
    · have := m.2.1
      exfalso; omega
    · obtain ⟨m0, m9, m1, d2, m2, m3, m4⟩ := m
      rw [c1, c3, m1]
      exact ⟨rfl, SYS_act h m2 c4 m3 m4 (GB_tk h.1) (by omega) hB⟩
theorem lw_melts (h : SYS d kp un kn nx b n lm pb pn pl ib inn il B) (hW : GW w)
    (qc : (¬ ((0 ≤ o ∧ o ≤ 4) ∧ 1 ≤ x ∧ x ≤ 1000000) ∧ zc = -1 ∧ b1 = b ∧ lm1 = lm ∧ nx1 = nx ∧ kn1 = kn ∧ pb1 = pb ∧ pn1 = pn ∧ pl1 = pl) ∨ (((0 ≤ o ∧ o ≤ 4) ∧ 1 ≤ x ∧ x ≤ 1000000) ∧ cnt b n o < x ∧ zc = -2 ∧ b1 = b ∧ lm1 = lm ∧ nx1 = nx ∧ kn1 = kn ∧ pb1 = pb ∧ pn1 = pn ∧ pl1 = pl) ∨ (((0 ≤ o ∧ o ≤ 4) ∧ 1 ≤ x ∧ x ≤ 1000000) ∧ x ≤ cnt b n o ∧ zc = lm + x * w o ∧ b1 = tk b (121 * o) x ∧ lm1 = lm + x * w o ∧ RM nx kn nx1 kn1 pb pb1 pn pn1 pl pl1 b n lm))
    (qm : (¬ ((0 ≤ o ∧ o ≤ 4) ∧ 1 ≤ x ∧ x ≤ 1000000) ∧ zm = -1 ∧ un1 = un ∧ d1 = d) ∨ (((0 ≤ o ∧ o ≤ 4) ∧ 1 ≤ x ∧ x ≤ 1000000) ∧ cnt b n o < x ∧ zm = -2 ∧ un1 = un ∧ d1 = d) ∨ (((0 ≤ o ∧ o ≤ 4) ∧ 1 ≤ x ∧ x ≤ 1000000) ∧ x ≤ cnt b n o ∧ zm = lm + x * w o ∧ ∃ d2 : Int → Int, MN un un1 d d2 ∧ AT d1 0 (tk b (121 * o) x) n (lm + x * w o) ∧ FRM d2 d1 0)) (hB : B + 300000000 ≤ B') :
    zm = zc ∧ SYS d1 kp un1 kn1 nx1 b1 n lm1 pb1 pn1 pl1 ib inn il B' := by
  have hl := h.2.1
  rcases qc with c | c | c
  · obtain ⟨c0, c1, c3, c2, c4, c5, c6, c7, c8⟩ := c
    rcases qm with m | m | m
    · obtain ⟨m0, m1, m2, m3⟩ := m
      rw [c1, c2, c3, c4, c5, c6, c7, c8, m1, m2, m3]
      exact ⟨rfl, SYS_up h (by omega)⟩
    · exact absurd m.1 c0
    · exact absurd m.1 c0
  · obtain ⟨c0, c9, c1, c3, c2, c4, c5, c6, c7, c8⟩ := c
    rcases qm with m | m | m
    · exact absurd c0 m.1
    · obtain ⟨m0, m9, m1, m2, m3⟩ := m
      rw [c1, c2, c3, c4, c5, c6, c7, c8, m1, m2, m3]
      exact ⟨rfl, SYS_up h (by omega)⟩
    · have := m.2.1
      exfalso; omega
  · obtain ⟨c0, c9, c1, c3, c2, c4⟩ := c
    rcases qm with m | m | m
    · exact absurd c0 m.1
    · have := m.2.1
      exfalso; omega
    · obtain ⟨m0, m9, m1, d2, m2, m3, m4⟩ := m
      have hw := hW o c0.1.1 c0.1.2
      have hm := mul_rng (a := x) (b := w o) (A := 1000000) (B := 99) (by omega) hw
      rw [c1, c2, c3, m1]
      exact ⟨rfl, SYS_act h m2 c4 m3 m4 (GB_tk h.1) (by omega) (by omega)⟩
theorem lw_pays (h : SYS d kp un kn nx b n lm pb pn pl ib inn il B)
    (qc : (¬ (1 ≤ x ∧ x ≤ 1000000) ∧ zc = -1 ∧ lm1 = lm ∧ nx1 = nx ∧ kn1 = kn ∧ pb1 = pb ∧ pn1 = pn ∧ pl1 = pl) ∨ ((1 ≤ x ∧ x ≤ 1000000) ∧ lm < x ∧ zc = -2 ∧ lm1 = lm ∧ nx1 = nx ∧ kn1 = kn ∧ pb1 = pb ∧ pn1 = pn ∧ pl1 = pl) ∨ ((1 ≤ x ∧ x ≤ 1000000) ∧ x ≤ lm ∧ zc = lm - x ∧ lm1 = lm - x ∧ RM nx kn nx1 kn1 pb pb1 pn pn1 pl pl1 b n lm))
    (qm : (¬ (1 ≤ x ∧ x ≤ 1000000) ∧ zm = -1 ∧ un1 = un ∧ d1 = d) ∨ ((1 ≤ x ∧ x ≤ 1000000) ∧ lm < x ∧ zm = -2 ∧ un1 = un ∧ d1 = d) ∨ ((1 ≤ x ∧ x ≤ 1000000) ∧ x ≤ lm ∧ zm = lm - x ∧ ∃ d2 : Int → Int, MN un un1 d d2 ∧ AT d1 0 b n (lm - x) ∧ FRM d2 d1 0)) (hB : B ≤ B') :
    zm = zc ∧ SYS d1 kp un1 kn1 nx1 b n lm1 pb1 pn1 pl1 ib inn il B' := by
  have hl := h.2.1
  rcases qc with c | c | c
  · obtain ⟨c0, c1, c2, c4, c5, c6, c7, c8⟩ := c
    rcases qm with m | m | m
    · obtain ⟨m0, m1, m2, m3⟩ := m
      rw [c1, c2, c4, c5, c6, c7, c8, m1, m2, m3]
      exact ⟨rfl, SYS_up h hB⟩
    · exact absurd m.1 c0
    · exact absurd m.1 c0
  · obtain ⟨c0, c9, c1, c2, c4, c5, c6, c7, c8⟩ := c
    rcases qm with m | m | m
    · exact absurd c0 m.1
    · obtain ⟨m0, m9, m1, m2, m3⟩ := m
      rw [c1, c2, c4, c5, c6, c7, c8, m1, m2, m3]
      exact ⟨rfl, SYS_up h hB⟩
    · have := m.2.1
      exfalso; omega
  · obtain ⟨c0, c9, c1, c2, c4⟩ := c
    rcases qm with m | m | m
    · exact absurd c0 m.1
    · have := m.2.1
      exfalso; omega
    · obtain ⟨m0, m9, m1, d2, m2, m3, m4⟩ := m
      rw [c1, c2, m1]
      exact ⟨rfl, SYS_act h m2 c4 m3 m4 h.1 (by omega) hB⟩
theorem lw_undo (h : SYS d kp un kn nx b n lm pb pn pl ib inn il B)
    (qc : (kn = 0 ∧ zc = -2 ∧ b1 = b ∧ n1 = n ∧ lm1 = lm ∧ nx1 = nx ∧ kn1 = kn) ∨ (0 < kn ∧ zc = kn - 1 ∧ kn1 = kn - 1 ∧ nx1 = (if 0 < nx then nx - 1 else 7) ∧ b1 = pb nx1.toNat ∧ n1 = pn nx1.toNat ∧ lm1 = pl nx1.toNat))
    (qm : (un = 0 ∧ zm = -2 ∧ un1 = un ∧ d1 = d) ∨ (0 < un ∧ zm = un - 1 ∧ un1 = un - 1 ∧ ∀ j : Int, d1 j = if 0 ≤ j ∧ j < 607 then d (2428 + 607 * (un - 1) + j) else d j)) (hB : B ≤ B') :
    zm = zc ∧ SYS d1 kp un1 kn1 nx1 b1 n1 lm1 pb pn pl ib inn il B' := by
  obtain ⟨g1, g2, g3, g4, g5, g6, g7, g8⟩ := id h
  rcases qc with c | c
  · obtain ⟨c0, c1, c2, c3, c4, c5, c6⟩ := c
    rcases qm with m | m
    · obtain ⟨m0, m1, m2, m3⟩ := m
      rw [c1, c2, c3, c4, c5, c6, m1, m2, m3]
      exact ⟨rfl, SYS_up h hB⟩
    · have := m.1
      exfalso; omega
  · obtain ⟨c0, c1, c2, c3, c4, c5, c6⟩ := c
    rcases qm with m | m
    · have := m.1
      exfalso; omega
    · obtain ⟨m0, m1, m2, m3⟩ := m
      obtain ⟨u1, u2, u3, u4, u5⟩ := UND_undo g7 ⟨m0, by omega⟩ g4 c3 m3
      rw [c4, c5, c6]
      refine ⟨by omega, u3, by omega, u2, u1, by omega, by omega, ?_, IMG_up (IMG_ext g8 (fun j h1 h2 => by rw [m3, if_neg (by omega)])) hB⟩
      rw [m2]
      exact UND_up u5 hB
theorem lw_keep {kpc kpm : Int → Int} (h : SYS d kp un kn nx b n lm pb pn pl ib inn il B)
    (qc : (¬ (0 ≤ i ∧ i ≤ 1) ∧ zc = -1 ∧ ib1 = ib ∧ inn1 = inn ∧ il1 = il ∧ kpc = kp) ∨ ((0 ≤ i ∧ i ≤ 1) ∧ zc = n ∧ kpc = zu kp i 1 ∧ ib1 = pu ib i.toNat b ∧ inn1 = pu inn i.toNat n ∧ il1 = pu il i.toNat lm))
    (qm : (¬ (0 ≤ i ∧ i ≤ 1) ∧ zm = -1 ∧ d1 = d ∧ kpm = kp) ∨ ((0 ≤ i ∧ i ≤ 1) ∧ zm = n ∧ kpm = zu kp i 1 ∧ AT d1 (1214 + 607 * i) b n lm ∧ FRM d d1 (1214 + 607 * i))) (hB : B ≤ B') :
    zm = zc ∧ kpm = kpc ∧ SYS d1 kpc un kn nx b n lm pb pn pl ib1 inn1 il1 B' := by
  obtain ⟨g1, g2, g3, g4, g5, g6, g7, g8⟩ := id h
  rcases qc with c | c
  · obtain ⟨c0, c1, c2, c3, c4, c5⟩ := c
    rcases qm with m | m
    · obtain ⟨m0, m1, m2, m3⟩ := m
      rw [c1, c2, c3, c4, c5, m1, m2, m3]
      exact ⟨rfl, rfl, SYS_up h hB⟩
    · exact absurd m.1 c0
  · obtain ⟨c0, c1, c2, c3, c4, c5⟩ := c
    rcases qm with m | m
    · exact absurd c0 m.1
    · obtain ⟨m0, m1, m2, m3, m4⟩ := m
      rw [c1, c2, c3, c4, c5, m1, m2]
      exact ⟨rfl, rfl, g1, by omega, AT_frm g3 m4 (by omega), g4, g5, g6, UND_up (UND_ext g7 (by omega) (fun j h1 h2 => m4 j (by omega))) hB, IMG_up (IMG_keep g8 c0 m3 m4 g1 g2) hB⟩
theorem lw_kp (h : IMG d kp ib inn il B) : (∀ i : Int, 0 ≤ i → i ≤ 1 → kp i = 0 ∨ kp i = 1) ∧ (∀ i : Int, 0 ≤ i → i ≤ 1 → kp i = 0 ∨ (kp i = 1 ∧ 0 ≤ d (1214 + 607 * i + 606) ∧ d (1214 + 607 * i + 606) ≤ 120)) :=
  ⟨fun i h1 h2 => by
    rcases h i h1 h2 with q | q
    · exact Or.inl q
    · exact Or.inr q.1, fun i h1 h2 => by
    rcases h i h1 h2 with q | ⟨q1, q2, q3, _⟩
    · exact Or.inl q
    · exact Or.inr ⟨q1, by rw [q2.2.2]; exact q3.1⟩⟩
theorem lw_back (h : SYS d kp un kn nx b n lm pb pn pl ib inn il B)
    (qc : (¬ (0 ≤ i ∧ i ≤ 1) ∧ zc = -1 ∧ b1 = b ∧ n1 = n ∧ lm1 = lm ∧ kn1 = kn) ∨ ((0 ≤ i ∧ i ≤ 1) ∧ kp i = 0 ∧ zc = -2 ∧ b1 = b ∧ n1 = n ∧ lm1 = lm ∧ kn1 = kn) ∨ ((0 ≤ i ∧ i ≤ 1) ∧ kp i = 1 ∧ zc = inn i.toNat ∧ b1 = ib i.toNat ∧ n1 = inn i.toNat ∧ lm1 = il i.toNat ∧ kn1 = 0))
    (qm : (¬ (0 ≤ i ∧ i ≤ 1) ∧ zm = -1 ∧ d1 = d ∧ un1 = un) ∨ ((0 ≤ i ∧ i ≤ 1) ∧ kp i = 0 ∧ zm = -2 ∧ d1 = d ∧ un1 = un) ∨ ((0 ≤ i ∧ i ≤ 1) ∧ kp i = 1 ∧ zm = d (1214 + 607 * i + 606) ∧ un1 = 0 ∧ ∀ j : Int, d1 j = if 0 ≤ j ∧ j < 607 then d (1214 + 607 * i + j) else d j)) (hB : B ≤ B') :
    zm = zc ∧ SYS d1 kp un1 kn1 nx b1 n1 lm1 pb pn pl ib inn il B' := by
  obtain ⟨g1, g2, g3, g4, g5, g6, g7, g8⟩ := id h
  rcases qc with c | c | c
  · obtain ⟨c0, c1, c2, c3, c4, c5⟩ := c
    rcases qm with m | m | m
    · obtain ⟨m0, m1, m2, m3⟩ := m
      rw [c1, c2, c3, c4, c5, m1, m2, m3]
      exact ⟨rfl, SYS_up h hB⟩
    · exact absurd m.1 c0
    · exact absurd m.1 c0
  · obtain ⟨c0, c9, c1, c2, c3, c4, c5⟩ := c
    rcases qm with m | m | m
    · exact absurd c0 m.1
    · obtain ⟨m0, m9, m1, m2, m3⟩ := m
      rw [c1, c2, c3, c4, c5, m1, m2, m3]
      exact ⟨rfl, SYS_up h hB⟩
    · have := m.2.1
      exfalso; omega
  · obtain ⟨c0, c9, c1, c2, c3, c4, c5⟩ := c
    rcases qm with m | m | m
    · exact absurd c0 m.1
    · have := m.2.1
      exfalso; omega
    · obtain ⟨m0, m9, m1, m2, m3⟩ := m
      rcases g8 i c0.1 c0.2 with q | ⟨q1, q2, q3, q4, q5⟩
      · exfalso; omega
      · rw [c2, c3, c4, c5, m2]
        exact ⟨by rw [m1, c1]; exact q2.2.2, q3, by omega, AT_back q2 m3, g4, by omega, rfl, fun j h1 h2 => by omega, IMG_up (IMG_ext g8 (fun j h1 h2 => by rw [m3, if_neg (by omega)])) hB⟩
theorem lw_type {t tc tm : Int → Int} {tx txc txm : Int} (hT : TXok t tx)
    (qc : (¬ (0 ≤ x ∧ x ≤ 255) ∧ zc = -1 ∧ txc = tx ∧ tc = t) ∨ ((0 ≤ x ∧ x ≤ 255) ∧ tx = 200 ∧ zc = -3 ∧ txc = tx ∧ tc = t) ∨ ((0 ≤ x ∧ x ≤ 255) ∧ tx < 200 ∧ zc = tx + 1 ∧ txc = tx + 1 ∧ tc = zu t tx x))
    (qm : (¬ (0 ≤ x ∧ x ≤ 255) ∧ zm = -1 ∧ txm = tx ∧ tm = t) ∨ ((0 ≤ x ∧ x ≤ 255) ∧ tx = 200 ∧ zm = -3 ∧ txm = tx ∧ tm = t) ∨ ((0 ≤ x ∧ x ≤ 255) ∧ tx < 200 ∧ zm = tx + 1 ∧ txm = tx + 1 ∧ tm = zu t tx x)) :
    zm = zc ∧ txm = txc ∧ tm = tc ∧ TXok tc txc := by
  rcases qc with c | c | c
  · rcases qm with m | m | m
    · exact ⟨by omega, by omega, by rw [m.2.2.2, c.2.2.2], by rw [c.2.2.1, c.2.2.2]; exact hT⟩
    · exact absurd m.1 c.1
    · exact absurd m.1 c.1
  · rcases qm with m | m | m
    · exact absurd c.1 m.1
    · exact ⟨by omega, by omega, by rw [m.2.2.2.2, c.2.2.2.2], by rw [c.2.2.2.1, c.2.2.2.2]; exact hT⟩
    · exfalso; omega
  · rcases qm with m | m | m
    · exact absurd c.1 m.1
    · exfalso; omega
    · refine ⟨by omega, by omega, by rw [m.2.2.2.2, c.2.2.2.2], ?_⟩
      rw [c.2.2.2.1, c.2.2.2.2]
      refine ⟨by have := hT.1; omega, fun j h1 h2 => ?_⟩
      rw [zu_e]
      split
      · exact c.1
      · exact hT.2 j h1 (by omega)
theorem lw_lay {go gn goc gnc gom gnm : Int → Int} {to toc tom : Int} (hG : GRok go gn to)
    (qc : (¬ ((0 ≤ o ∧ o ≤ 4) ∧ 0 ≤ x ∧ x ≤ 1000000) ∧ zc = -1 ∧ toc = to ∧ goc = go ∧ gnc = gn) ∨ (((0 ≤ o ∧ o ≤ 4) ∧ 0 ≤ x ∧ x ≤ 1000000) ∧ to = 5 ∧ zc = -3 ∧ toc = to ∧ goc = go ∧ gnc = gn) ∨ (((0 ≤ o ∧ o ≤ 4) ∧ 0 ≤ x ∧ x ≤ 1000000) ∧ to < 5 ∧ zc = to + 1 ∧ toc = to + 1 ∧ goc = zu go to o ∧ gnc = zu gn to x))
    (qm : (¬ ((0 ≤ o ∧ o ≤ 4) ∧ 0 ≤ x ∧ x ≤ 1000000) ∧ zm = -1 ∧ tom = to ∧ gom = go ∧ gnm = gn) ∨ (((0 ≤ o ∧ o ≤ 4) ∧ 0 ≤ x ∧ x ≤ 1000000) ∧ to = 5 ∧ zm = -3 ∧ tom = to ∧ gom = go ∧ gnm = gn) ∨ (((0 ≤ o ∧ o ≤ 4) ∧ 0 ≤ x ∧ x ≤ 1000000) ∧ to < 5 ∧ zm = to + 1 ∧ tom = to + 1 ∧ gom = zu go to o ∧ gnm = zu gn to x)) :
    zm = zc ∧ tom = toc ∧ gom = goc ∧ gnm = gnc ∧ GRok goc gnc toc := by
  rcases qc with c | c | c
  · rcases qm with m | m | m
    · exact ⟨by omega, by omega, by rw [m.2.2.2.1, c.2.2.2.1], by rw [m.2.2.2.2, c.2.2.2.2], by rw [c.2.2.1, c.2.2.2.1, c.2.2.2.2]; exact hG⟩
    · exact absurd m.1 c.1
    · exact absurd m.1 c.1
  · rcases qm with m | m | m
    · exact absurd c.1 m.1
    · exact ⟨by omega, by omega, by rw [m.2.2.2.2.1, c.2.2.2.2.1], by rw [m.2.2.2.2.2, c.2.2.2.2.2], by rw [c.2.2.2.1, c.2.2.2.2.1, c.2.2.2.2.2]; exact hG⟩
    · exfalso; omega
  · rcases qm with m | m | m
    · exact absurd c.1 m.1
    · exfalso; omega
    · refine ⟨by omega, by omega, by rw [m.2.2.2.2.1, c.2.2.2.2.1], by rw [m.2.2.2.2.2, c.2.2.2.2.2], ?_⟩
      rw [c.2.2.2.1, c.2.2.2.2.1, c.2.2.2.2.2]
      refine ⟨by have := hG.1; omega, fun j h1 h2 => ?_⟩
      rw [zu_e, zu_e]
      split
      · exact c.1
      · exact hG.2 j h1 (by omega)
theorem SB_0 {f f' : Int → Int} : SB f f' 0 := fun j h1 h2 => by omega
/-- a ring told anew: all begins again -/
theorem SYS_new (h : AT d 0 bg 0 0) (hx : 0 ≤ nx ∧ nx ≤ 7) (hB : 0 ≤ B) : SYS d (fun _ => 0) 0 0 nx bg 0 0 pb pn pl ib inn il B :=
  ⟨GB_bg, by omega, h, hx, by omega, rfl, fun j h1 h2 => by omega, fun j h1 h2 => Or.inl rfl⟩
end SY
