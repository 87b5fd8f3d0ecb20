theorem gt_1 {w ea b : Int → Int} {mo n : Int} : gt w ea mo n b (n + 1 - n).toNat = (gs w ea mo (n + 1) b 4).1 := by
  rw [show n + 1 - n = 0 + 1 by omega, gt_s _ _ _ _ _ (by omega), Int.add_zero]
  rfl
def EUC (u l : Int) (k : Nat) : Prop := u * l * ((2 ^ k : Nat) : Int) ≤ 1000000000000000000000000000000
theorem EUC_0 {u l : Int} (h0 : 0 ≤ l) (h : l ≤ u) (h2 : u ≤ 1000000000000000) : EUC u l (0 : Int).toNat := by
  have h3 := mul_rng (a := u) (b := l) (A := 1000000000000000) (B := 1000000000000000) (by omega) (by omega)
  show u * l * ((1 : Nat) : Int) ≤ _
  omega
theorem EUC_s {u l : Int} {k : Nat} (h0 : 0 < l) (h : l ≤ u) (q : EUC u l k) : EUC l (u % l) (k + 1) := by
  have hr0 := Int.emod_nonneg u (show l ≠ 0 by omega)
  have hr1 := Int.emod_lt_of_pos u h0
  have hq : l * (u / l) + u % l = u := Int.mul_ediv_add_emod u l
  have hd : 1 ≤ u / l := (Int.le_ediv_iff_mul_le h0).mpr (by omega)
  have hm : l * 1 ≤ l * (u / l) := Int.mul_le_mul_of_nonneg_left hd (by omega)
  have h2 : 2 * (u % l) ≤ u := by omega
  have h3 : l * (2 * (u % l)) ≤ l * u := Int.mul_le_mul_of_nonneg_left h2 (by omega)
  have h4 : l * (2 * (u % l)) * ((2 ^ k : Nat) : Int) ≤ l * u * ((2 ^ k : Nat) : Int) := Int.mul_le_mul_of_nonneg_right h3 (Int.natCast_nonneg _)
  unfold EUC at q ⊢
  rw [Nat.pow_succ]
  have e : l * (u % l) * ((2 ^ k * 2 : Nat) : Int) = l * (2 * (u % l)) * ((2 ^ k : Nat) : Int) := by
    rw [Int.natCast_mul]
    rw [show l * (2 * (u % l)) = l * (u % l) * 2 by rw [Int.mul_comm 2, Int.mul_assoc], Int.mul_assoc (l * (u % l)) 2, Int.mul_comm ((2 ^ k : Nat) : Int)]
    rfl
  rw [e]
  rw [Int.mul_comm l u] at h4
  omega
theorem EUC_e {u l : Int} {k : Nat} (h0 : 0 < u) (h : 0 ≤ l) (q : EUC u l k) (hk : 1000 ≤ k) : l = 0 := by
  by_cases hl : l = 0
  · exact hl
  · exfalso
    have h1 : 1 * 1 ≤ u * l := Int.mul_le_mul (by omega) (by omega) (by omega) (by omega)
    have h2 : 2 ^ 1000 ≤ 2 ^ k := Nat.pow_le_pow_right (by omega) hk
    have h3 : (1267650600228229401496703205376 : Nat) ≤ 2 ^ 1000 := by decide +kernel
    have h4 : 1 * ((2 ^ k : Nat) : Int) ≤ u * l * ((2 ^ k : Nat) : Int) := Int.mul_le_mul_of_nonneg_right (by omega) (Int.natCast_nonneg _)
    unfold EUC at q
    omega
set_option maxHeartbeats 4000000 in
set_option maxRecDepth 100000 in
theorem k_X7_all (l : Launch) (g : va_G) (ca : Nat → ClassId) (h7 : Nat) (hd : Nat) (h0 : Nat) (s0 : Nat) (hp : Nat) (hi : Nat) (hc : Nat) (hg : Nat) (hq : Nat) (hz : Nat) (hL : Nat) (hy : Nat) (h1 : Nat) (b : Int → Int) (n : Int) (lm : Int) (s1 : Nat) (sb : Int → Int) (sn : Int) (slm : Int) (hw : Nat) (he : Nat) (hdn : Nat) (hdw : Nat) (w : Int → Int) (ea : Int → Int) (du : Int) (hv : Int) (mo : Int) (oft : Int) (la : Int) (pA : Int) (pB : Int) (t0 : Int) (o : Int) (hB : GB b n) (hLM : LMok lm) (hW : GW w) (hE : EAok ea) (hM : 1 ≤ mo ∧ mo ≤ 9) (hx0 : in32 t0) (hx1 : in32 o) : zJ (S := (Int → Int) × Int × Int) l yX7_all wsX7_all ({ frames := 4, cells := 0, slots := 0, locals := 98 } : Room) g ca [.ref h7, vI t0, vI o] [(h7, oB 7 [.ref hd, .ref h0, .ref s0, .ref hp, .ref hi, .ref hc, .ref hg, .ref hq, .ref hz, .ref hL, .ref hy]), (h0, oB 6 [.ref h1, vI n, vJ lm]), (h1, aJ ca 605 b), (s0, oB 6 [.ref s1, vI sn, vJ slm]), (s1, aJ ca 605 sb), (hL, oB 2 [.ref hw, .ref he, .ref hdn, .ref hdw, vI du, vI hv, vI mo, vI oft, vI la, vI pA, vI pB]), (hw, aI ca 5 w), (he, aI ca 5 ea)] (fun (z : Int) (u : (Int → Int) × Int × Int) => z = alv w ea b mo n lm t0 o) (fun (u : (Int → Int) × Int × Int) => [(h7, oB 7 [.ref hd, .ref h0, .ref s0, .ref hp, .ref hi, .ref hc, .ref hg, .ref hq, .ref hz, .ref hL, .ref hy]), (h0, oB 6 [.ref h1, vI n, vJ lm]), (h1, aJ ca 605 b), (s0, oB 6 [.ref s1, vI u.2.1, vJ u.2.2]), (s1, aJ ca 605 u.1), (hL, oB 2 [.ref hw, .ref he, .ref hdn, .ref hdw, vI du, vI hv, vI mo, vI oft, vI la, vI pA, vI pB]), (hw, aI ca 5 w), (he, aI ca 5 ea)]) 0 0 := by
  refine zm_J (cc := cX7_all) (maxL := 3) (ret := some .long) (by decide) rfl (Nat.le_of_ble_eq_true rfl) ?_
  intro p e s m below meth c A ls R args Q hR hargs hQ hx hb hml hr hts hown hlk hnm hK hP hD hA hS hl
  have hown : s.vm.findClass RX7 = some m.cls := hown
  have hl : lv_has ls 3 [(0, .ref h7), (1, vI t0), (2, vI o)] := hl
  have lk_c143 : (Cond.constantLong RX7 143 (-1)).before args s = true := hts _ (by decide +kernel)
  have lk_f23 : (Cond.fieldLink RX7 23 "DripRings" "scratch" "LDripRings$Rings;").before args s = true := hts _ (by decide +kernel)
  have inF_X7 : ∀ w ∈ wsX70, w ∈ wsX7_all := by decide +kernel
  have lk_f19 : (Cond.fieldLink RX7 19 "DripRings" "rings" "LDripRings$Rings;").before args s = true := hts _ (by decide +kernel)
  have lk_f65 : (Cond.fieldLink RX7 65 "DripRings" "law" "LDripRings$Law;").before args s = true := hts _ (by decide +kernel)
  have hn0 := hB.1
  refine lv_aload_n hx hb dX7_all_0 rfl (lv_at hl 0 rfl) ?_
  refine lv_iload_n hx hb dX7_all_1 rfl (lv_at hl 1 rfl) ?_
  refine zc_VI (As := [vI t0]) (rest := []) (wc := [(h7, oB 7 [.ref hd, .ref h0, .ref s0, .ref hp, .ref hi, .ref hc, .ref hg, .ref hq, .ref hz, .ref hL, .ref hy]), (h0, oB 6 [.ref h1, vI n, vJ lm]), (h1, aJ ca 605 b)]) (wr := [(s0, oB 6 [.ref s1, vI sn, vJ slm]), (s1, aJ ca 605 sb), (hL, oB 2 [.ref hw, .ref he, .ref hdn, .ref hdw, vI du, vI hv, vI mo, vI oft, vI la, vI pA, vI pB]), (hw, aI ca 5 w), (he, aI ca 5 ea)]) (k_X7_isNotToCome l g ca h7 hd h0 s0 hp hi hc hg hq hz hL hy h1 b n lm t0 (by first | assumption | omega) (by exact hx0)) dX7_all_2 (cwV 1 hts gX7_all_X7_isNotToCome rfl rfl rfl (by decide +kernel) (by rw [hR]; exact ⟨Nat.le_of_ble_eq_true rfl, Nat.le_of_ble_eq_true rfl⟩)) ⟨hx, hb, hml, hown, hts⟩ hl.1 hK hP hD hS hA 0 rfl rfl rfl [0, 1, 2] [3, 4, 5, 6, 7] rfl (by decide) rfl (by decide) (by decide) rfl rfl (Nat.le_of_ble_eq_true rfl) (by rw [hR]; exact ⟨Nat.le_of_ble_eq_true rfl, Nat.le_of_ble_eq_true rfl⟩) (fun z2 u H locs q2 hP hD hS => ?_)
  have q2 : (z2 = 1 ∧ ¬ (n ≤ t0 ∧ t0 ≤ 120)) ∨ (z2 = 0 ∧ n ≤ t0 ∧ t0 ≤ 120) := q2
  have hP : va_P g vwCl [(h7, oB 7 [.ref hd, .ref h0, .ref s0, .ref hp, .ref hi, .ref hc, .ref hg, .ref hq, .ref hz, .ref hL, .ref hy]), (h0, oB 6 [.ref h1, vI n, vJ lm]), (h1, aJ ca 605 b), (s0, oB 6 [.ref s1, vI sn, vJ slm]), (s1, aJ ca 605 sb), (hL, oB 2 [.ref hw, .ref he, .ref hdn, .ref hdw, vI du, vI hv, vI mo, vI oft, vI la, vI pA, vI pB]), (hw, aI ca 5 w), (he, aI ca 5 ea)] H := hP.sub [5, 6, 7, 0, 1, 2, 3, 4] rfl
  have hD : va_D A [(h7, oB 7 [.ref hd, .ref h0, .ref s0, .ref hp, .ref hi, .ref hc, .ref hg, .ref hq, .ref hz, .ref hL, .ref hy]), (h0, oB 6 [.ref h1, vI n, vJ lm]), (h1, aJ ca 605 b), (s0, oB 6 [.ref s1, vI sn, vJ slm]), (s1, aJ ca 605 sb), (hL, oB 2 [.ref hw, .ref he, .ref hdn, .ref hdw, vI du, vI hv, vI mo, vI oft, vI la, vI pA, vI pB]), (hw, aI ca 5 w), (he, aI ca 5 ea)] := hD.sub [5, 6, 7, 0, 1, 2, 3, 4] (by decide) rfl
  refine ri_if_ne (tgt := 18) hx hb dX7_all_5 (by decide) ⟨by omega, by omega⟩ (fun c5 => ?_) (fun c5 => ?_)
  · skip
    refine rj_ldc (z := (-1)) hx hb hown lk_c143 dX7_all_18 (by decide) ?_
    refine zr_J hx hb hr hlk hQ (sb, sn, slm) hP hD hS dX7_all_21 (Nat.le_of_ble_eq_true rfl) (Nat.le_of_ble_eq_true rfl) ?_
    show (-1) = alv w ea b mo n lm t0 o
    unfold alv
    first
    | (rw [if_neg (fun q => by omega)])
    | (rw [if_pos (by omega), if_pos (by omega), q59, q42_1, hn42])
    | (rw [if_pos (by omega), if_neg (by omega), if_pos (by omega), q72, q42_1, hn42])
    | (rw [if_pos (by omega), if_neg (by omega), if_neg (by omega), q83, q42_1, hn42])
  · skip
    refine lv_iload_n hx hb dX7_all_8 rfl (lv_at hl 2 rfl) ?_
    refine lv_bipush (v := Int32.ofInt (-2)) hx hb dX7_all_9 (by decide) ?_
    refine lv_iconst (v := Int32.ofInt 4) hx hb dX7_all_11 rfl ?_
    refine zc_SI (As := [vI o, vI (-2), vI 4]) (rest := []) (wc := []) (wr := [(h7, oB 7 [.ref hd, .ref h0, .ref s0, .ref hp, .ref hi, .ref hc, .ref hg, .ref hq, .ref hz, .ref hL, .ref hy]), (h0, oB 6 [.ref h1, vI n, vJ lm]), (h1, aJ ca 605 b), (s0, oB 6 [.ref s1, vI sn, vJ slm]), (s1, aJ ca 605 sb), (hL, oB 2 [.ref hw, .ref he, .ref hdn, .ref hdw, vI du, vI hv, vI mo, vI oft, vI la, vI pA, vI pB]), (hw, aI ca 5 w), (he, aI ca 5 ea)]) (k_X7_isOutside l g ca o (-2) 4 (by exact hx1) (by exact ⟨by omega, by omega⟩) (by exact ⟨by omega, by omega⟩)) dX7_all_12 (va_cwS 3 hts gX7_all_X7_isOutside rfl rfl rfl (by decide +kernel) (by rw [hR]; exact ⟨Nat.le_of_ble_eq_true rfl, Nat.le_of_ble_eq_true rfl⟩)) ⟨hx, hb, hml, hown, hts⟩ hl.1 hK hP hD hS hA [] [0, 1, 2, 3, 4, 5, 6, 7] rfl (by decide) rfl (by decide) (by decide) rfl rfl (Nat.le_of_ble_eq_true rfl) (by rw [hR]; exact ⟨Nat.le_of_ble_eq_true rfl, Nat.le_of_ble_eq_true rfl⟩) (fun z12 u H locs q12 hP hD hS => ?_)
    have q12 : (z12 = 1 ∧ ¬ ((-2) ≤ o ∧ o ≤ 4)) ∨ (z12 = 0 ∧ (-2) ≤ o ∧ o ≤ 4) := q12
    have hP : va_P g vwCl [(h7, oB 7 [.ref hd, .ref h0, .ref s0, .ref hp, .ref hi, .ref hc, .ref hg, .ref hq, .ref hz, .ref hL, .ref hy]), (h0, oB 6 [.ref h1, vI n, vJ lm]), (h1, aJ ca 605 b), (s0, oB 6 [.ref s1, vI sn, vJ slm]), (s1, aJ ca 605 sb), (hL, oB 2 [.ref hw, .ref he, .ref hdn, .ref hdw, vI du, vI hv, vI mo, vI oft, vI la, vI pA, vI pB]), (hw, aI ca 5 w), (he, aI ca 5 ea)] H := hP.sub [0, 1, 2, 3, 4, 5, 6, 7] rfl
    have hD : va_D A [(h7, oB 7 [.ref hd, .ref h0, .ref s0, .ref hp, .ref hi, .ref hc, .ref hg, .ref hq, .ref hz, .ref hL, .ref hy]), (h0, oB 6 [.ref h1, vI n, vJ lm]), (h1, aJ ca 605 b), (s0, oB 6 [.ref s1, vI sn, vJ slm]), (s1, aJ ca 605 sb), (hL, oB 2 [.ref hw, .ref he, .ref hdn, .ref hdw, vI du, vI hv, vI mo, vI oft, vI la, vI pA, vI pB]), (hw, aI ca 5 w), (he, aI ca 5 ea)] := hD.sub [0, 1, 2, 3, 4, 5, 6, 7] (by decide) rfl
    refine ri_if_eq (tgt := 22) hx hb dX7_all_15 (by decide) ⟨by omega, by omega⟩ (fun c15 => ?_) (fun c15 => ?_)
    · skip
      refine lv_aload_n hx hb dX7_all_22 rfl (lv_at hl 0 rfl) ?_
      refine va_get (D := g) (ci := 7) (v := .ref s0) (C := RX7) (T := TX7) (N := 11) hx hb hts inF_X7 hown hK.1 hP 0 rfl rfl 2 (by decide) lk_f23 (fun _ h9 => h9) rfl dX7_all_23 ?_
      refine lv_aload_n hx hb dX7_all_26 rfl (lv_at hl 0 rfl) ?_
      refine va_get (D := g) (ci := 7) (v := .ref h0) (C := RX7) (T := TX7) (N := 11) hx hb hts inF_X7 hown hK.1 hP 0 rfl rfl 1 (by decide) lk_f19 (fun _ h9 => h9) rfl dX7_all_27 ?_
      refine zc_VV (As := [.ref h0]) (rest := []) (wc := [(s0, oB 6 [.ref s1, vI sn, vJ slm]), (s1, aJ ca 605 sb), (h0, oB 6 [.ref h1, vI n, vJ lm]), (h1, aJ ca 605 b)]) (wr := [(h7, oB 7 [.ref hd, .ref h0, .ref s0, .ref hp, .ref hi, .ref hc, .ref hg, .ref hq, .ref hz, .ref hL, .ref hy]), (hL, oB 2 [.ref hw, .ref he, .ref hdn, .ref hdw, vI du, vI hv, vI mo, vI oft, vI la, vI pA, vI pB]), (hw, aI ca 5 w), (he, aI ca 5 ea)]) (k_X6_becomeLike l g ca s0 s1 sb sn slm h0 h1 b n lm ) dX7_all_30 (cwV 1 hts gX7_all_X6_becomeLike rfl rfl rfl (by decide +kernel) (by rw [hR]; exact ⟨Nat.le_of_ble_eq_true rfl, Nat.le_of_ble_eq_true rfl⟩)) ⟨hx, hb, hml, hown, hts⟩ hl.1 hK hP hD hS hA 3 rfl rfl rfl [3, 4, 1, 2] [0, 5, 6, 7] rfl (by decide) rfl (by decide) (by decide) rfl rfl (Nat.le_of_ble_eq_true rfl) (by rw [hR]; exact ⟨Nat.le_of_ble_eq_true rfl, Nat.le_of_ble_eq_true rfl⟩) (fun u H locs q30 hP hD hS => ?_)
      have hP : va_P g vwCl [(h7, oB 7 [.ref hd, .ref h0, .ref s0, .ref hp, .ref hi, .ref hc, .ref hg, .ref hq, .ref hz, .ref hL, .ref hy]), (h0, oB 6 [.ref h1, vI n, vJ lm]), (h1, aJ ca 605 b), (s0, oB 6 [.ref s1, vI n, vJ lm]), (s1, aJ ca 605 b), (hL, oB 2 [.ref hw, .ref he, .ref hdn, .ref hdw, vI du, vI hv, vI mo, vI oft, vI la, vI pA, vI pB]), (hw, aI ca 5 w), (he, aI ca 5 ea)] H := hP.sub [0, 6, 7, 4, 5, 1, 2, 3] rfl
      have hD : va_D A [(h7, oB 7 [.ref hd, .ref h0, .ref s0, .ref hp, .ref hi, .ref hc, .ref hg, .ref hq, .ref hz, .ref hL, .ref hy]), (h0, oB 6 [.ref h1, vI n, vJ lm]), (h1, aJ ca 605 b), (s0, oB 6 [.ref s1, vI n, vJ lm]), (s1, aJ ca 605 b), (hL, oB 2 [.ref hw, .ref he, .ref hdn, .ref hdw, vI du, vI hv, vI mo, vI oft, vI la, vI pA, vI pB]), (hw, aI ca 5 w), (he, aI ca 5 ea)] := hD.sub [0, 6, 7, 4, 5, 1, 2, 3] (by decide) rfl
      refine lv_aload_n hx hb dX7_all_33 rfl (lv_at hl 0 rfl) ?_
      refine va_get (D := g) (ci := 7) (v := .ref s0) (C := RX7) (T := TX7) (N := 11) hx hb hts inF_X7 hown hK.1 hP 0 rfl rfl 2 (by decide) lk_f23 (fun _ h9 => h9) rfl dX7_all_34 ?_
      refine lv_iload_n hx hb dX7_all_37 rfl (lv_at hl 1 rfl) ?_
      refine lv_aload_n hx hb dX7_all_38 rfl (lv_at hl 0 rfl) ?_
      refine va_get (D := g) (ci := 7) (v := .ref hL) (C := RX7) (T := TX7) (N := 11) hx hb hts inF_X7 hown hK.1 hP 0 rfl rfl 9 (by decide) lk_f65 (fun _ h9 => h9) rfl dX7_all_39 ?_
      refine zc_VV (As := [vI t0, .ref hL]) (rest := []) (wc := [(s0, oB 6 [.ref s1, vI n, vJ lm]), (s1, aJ ca 605 b), (hL, oB 2 [.ref hw, .ref he, .ref hdn, .ref hdw, vI du, vI hv, vI mo, vI oft, vI la, vI pA, vI pB]), (hw, aI ca 5 w), (he, aI ca 5 ea)]) (wr := [(h7, oB 7 [.ref hd, .ref h0, .ref s0, .ref hp, .ref hi, .ref hc, .ref hg, .ref hq, .ref hz, .ref hL, .ref hy]), (h0, oB 6 [.ref h1, vI n, vJ lm]), (h1, aJ ca 605 b)]) (k_X6_passTo l g ca s0 s1 b n lm hL hw he hdn hdw w ea du hv mo oft la pA pB t0 (by first | assumption | omega) (by first | assumption | omega) (by first | assumption | omega) (by first | assumption | omega) (by first | assumption | omega)) dX7_all_42 (cwV 2 hts gX7_all_X6_passTo rfl rfl rfl (by decide +kernel) (by rw [hR]; exact ⟨Nat.le_of_ble_eq_true rfl, Nat.le_of_ble_eq_true rfl⟩)) ⟨hx, hb, hml, hown, hts⟩ hl.1 hK hP hD hS hA 3 rfl rfl rfl [3, 4, 5, 6, 7] [0, 1, 2] rfl (by decide) rfl (by decide) (by decide) rfl rfl (Nat.le_of_ble_eq_true rfl) (by rw [hR]; exact ⟨Nat.le_of_ble_eq_true rfl, Nat.le_of_ble_eq_true rfl⟩) (fun u H locs q42 hP hD hS => ?_)
      obtain ⟨n1_42, b1_42⟩ := u
      have q42 : n1_42 = (if n < t0 then t0 else n) ∧ b1_42 = gt w ea mo n b (t0 - n).toNat := q42
      obtain ⟨q42_0, q42_1⟩ := q42
      have hP : va_P g vwCl [(h7, oB 7 [.ref hd, .ref h0, .ref s0, .ref hp, .ref hi, .ref hc, .ref hg, .ref hq, .ref hz, .ref hL, .ref hy]), (h0, oB 6 [.ref h1, vI n, vJ lm]), (h1, aJ ca 605 b), (s0, oB 6 [.ref s1, vI n1_42, vJ lm]), (s1, aJ ca 605 b1_42), (hL, oB 2 [.ref hw, .ref he, .ref hdn, .ref hdw, vI du, vI hv, vI mo, vI oft, vI la, vI pA, vI pB]), (hw, aI ca 5 w), (he, aI ca 5 ea)] H := hP.sub [0, 1, 2, 3, 4, 5, 6, 7] rfl
      have hD : va_D A [(h7, oB 7 [.ref hd, .ref h0, .ref s0, .ref hp, .ref hi, .ref hc, .ref hg, .ref hq, .ref hz, .ref hL, .ref hy]), (h0, oB 6 [.ref h1, vI n, vJ lm]), (h1, aJ ca 605 b), (s0, oB 6 [.ref s1, vI n1_42, vJ lm]), (s1, aJ ca 605 b1_42), (hL, oB 2 [.ref hw, .ref he, .ref hdn, .ref hdw, vI du, vI hv, vI mo, vI oft, vI la, vI pA, vI pB]), (hw, aI ca 5 w), (he, aI ca 5 ea)] := hD.sub [0, 1, 2, 3, 4, 5, 6, 7] (by decide) rfl
      have hn42 : n1_42 = t0 := by rw [q42_0]; split <;> omega
      refine lv_iload_n hx hb dX7_all_45 rfl (lv_at hl 2 rfl) ?_
      refine lv_bipush (v := Int32.ofInt (-2)) hx hb dX7_all_46 (by decide) ?_
      refine ri_icmp_ne (tgt := 63) hx hb dX7_all_48 (by decide) ⟨by omega, by omega⟩ ⟨by omega, by omega⟩ (fun c48 => ?_) (fun c48 => ?_)
      · skip
        refine lv_iload_n hx hb dX7_all_63 rfl (lv_at hl 2 rfl) ?_
        refine lv_iconst (v := Int32.ofInt (-1)) hx hb dX7_all_64 rfl ?_
        refine ri_icmp_ne (tgt := 78) hx hb dX7_all_65 (by decide) ⟨by omega, by omega⟩ ⟨by omega, by omega⟩ (fun c65 => ?_) (fun c65 => ?_)
        · skip
          refine lv_aload_n hx hb dX7_all_78 rfl (lv_at hl 0 rfl) ?_
          refine va_get (D := g) (ci := 7) (v := .ref s0) (C := RX7) (T := TX7) (N := 11) hx hb hts inF_X7 hown hK.1 hP 0 rfl rfl 2 (by decide) lk_f23 (fun _ h9 => h9) rfl dX7_all_79 ?_
          refine lv_iload_n hx hb dX7_all_82 rfl (lv_at hl 2 rfl) ?_
          refine zc_VJ (As := [vI o]) (rest := []) (wc := [(s0, oB 6 [.ref s1, vI n1_42, vJ lm]), (s1, aJ ca 605 b1_42)]) (wr := [(h7, oB 7 [.ref hd, .ref h0, .ref s0, .ref hp, .ref hi, .ref hc, .ref hg, .ref hq, .ref hz, .ref hL, .ref hy]), (h0, oB 6 [.ref h1, vI n, vJ lm]), (h1, aJ ca 605 b), (hL, oB 2 [.ref hw, .ref he, .ref hdn, .ref hdw, vI du, vI hv, vI mo, vI oft, vI la, vI pA, vI pB]), (hw, aI ca 5 w), (he, aI ca 5 ea)]) (k_X6_ofOrder l g ca s0 s1 b1_42 n1_42 lm o (by first | assumption | omega) (by first | assumption | omega)) dX7_all_83 (cwV 1 hts gX7_all_X6_ofOrder rfl rfl rfl (by decide +kernel) (by rw [hR]; exact ⟨Nat.le_of_ble_eq_true rfl, Nat.le_of_ble_eq_true rfl⟩)) ⟨hx, hb, hml, hown, hts⟩ hl.1 hK hP hD hS hA 3 rfl rfl rfl [3, 4] [0, 1, 2, 5, 6, 7] rfl (by decide) rfl (by decide) (by decide) rfl rfl (Nat.le_of_ble_eq_true rfl) (by rw [hR]; exact ⟨Nat.le_of_ble_eq_true rfl, Nat.le_of_ble_eq_true rfl⟩) (fun z83 u H locs q83 hP hD hS => ?_)
          have q83 : z83 = cnt b1_42 n1_42 o := q83
          have hP : va_P g vwCl [(h7, oB 7 [.ref hd, .ref h0, .ref s0, .ref hp, .ref hi, .ref hc, .ref hg, .ref hq, .ref hz, .ref hL, .ref hy]), (h0, oB 6 [.ref h1, vI n, vJ lm]), (h1, aJ ca 605 b), (s0, oB 6 [.ref s1, vI n1_42, vJ lm]), (s1, aJ ca 605 b1_42), (hL, oB 2 [.ref hw, .ref he, .ref hdn, .ref hdw, vI du, vI hv, vI mo, vI oft, vI la, vI pA, vI pB]), (hw, aI ca 5 w), (he, aI ca 5 ea)] H := hP.sub [0, 1, 2, 6, 7, 3, 4, 5] rfl
          have hD : va_D A [(h7, oB 7 [.ref hd, .ref h0, .ref s0, .ref hp, .ref hi, .ref hc, .ref hg, .ref hq, .ref hz, .ref hL, .ref hy]), (h0, oB 6 [.ref h1, vI n, vJ lm]), (h1, aJ ca 605 b), (s0, oB 6 [.ref s1, vI n1_42, vJ lm]), (s1, aJ ca 605 b1_42), (hL, oB 2 [.ref hw, .ref he, .ref hdn, .ref hdw, vI du, vI hv, vI mo, vI oft, vI la, vI pA, vI pB]), (hw, aI ca 5 w), (he, aI ca 5 ea)] := hD.sub [0, 1, 2, 6, 7, 3, 4, 5] (by decide) rfl
          refine zr_J hx hb hr hlk hQ (b1_42, n1_42, lm) hP hD hS dX7_all_86 (Nat.le_of_ble_eq_true rfl) (Nat.le_of_ble_eq_true rfl) ?_
          show z83 = alv w ea b mo n lm t0 o
          unfold alv
          first
          | (rw [if_neg (fun q => by omega)])
          | (rw [if_pos (by omega), if_pos (by omega), q59, q42_1, hn42])
          | (rw [if_pos (by omega), if_neg (by omega), if_pos (by omega), q72, q42_1, hn42])
          | (rw [if_pos (by omega), if_neg (by omega), if_neg (by omega), q83, q42_1, hn42])
        · skip
          refine lv_aload_n hx hb dX7_all_68 rfl (lv_at hl 0 rfl) ?_
          refine va_get (D := g) (ci := 7) (v := .ref s0) (C := RX7) (T := TX7) (N := 11) hx hb hts inF_X7 hown hK.1 hP 0 rfl rfl 2 (by decide) lk_f23 (fun _ h9 => h9) rfl dX7_all_69 ?_
          refine zc_VJ (As := []) (rest := []) (wc := [(s0, oB 6 [.ref s1, vI n1_42, vJ lm]), (s1, aJ ca 605 b1_42)]) (wr := [(h7, oB 7 [.ref hd, .ref h0, .ref s0, .ref hp, .ref hi, .ref hc, .ref hg, .ref hq, .ref hz, .ref hL, .ref hy]), (h0, oB 6 [.ref h1, vI n, vJ lm]), (h1, aJ ca 605 b), (hL, oB 2 [.ref hw, .ref he, .ref hdn, .ref hdw, vI du, vI hv, vI mo, vI oft, vI la, vI pA, vI pB]), (hw, aI ca 5 w), (he, aI ca 5 ea)]) (k_X6_total l g ca s0 s1 b1_42 n1_42 lm (by first | assumption | omega)) dX7_all_72 (cwV 0 hts gX7_all_X6_total rfl rfl rfl (by decide +kernel) (by rw [hR]; exact ⟨Nat.le_of_ble_eq_true rfl, Nat.le_of_ble_eq_true rfl⟩)) ⟨hx, hb, hml, hown, hts⟩ hl.1 hK hP hD hS hA 3 rfl rfl rfl [3, 4] [0, 1, 2, 5, 6, 7] rfl (by decide) rfl (by decide) (by decide) rfl rfl (Nat.le_of_ble_eq_true rfl) (by rw [hR]; exact ⟨Nat.le_of_ble_eq_true rfl, Nat.le_of_ble_eq_true rfl⟩) (fun z72 u H locs q72 hP hD hS => ?_)
          have q72 : z72 = tot b1_42 n1_42 := q72
          have hP : va_P g vwCl [(h7, oB 7 [.ref hd, .ref h0, .ref s0, .ref hp, .ref hi, .ref hc, .ref hg, .ref hq, .ref hz, .ref hL, .ref hy]), (h0, oB 6 [.ref h1, vI n, vJ lm]), (h1, aJ ca 605 b), (s0, oB 6 [.ref s1, vI n1_42, vJ lm]), (s1, aJ ca 605 b1_42), (hL, oB 2 [.ref hw, .ref he, .ref hdn, .ref hdw, vI du, vI hv, vI mo, vI oft, vI la, vI pA, vI pB]), (hw, aI ca 5 w), (he, aI ca 5 ea)] H := hP.sub [0, 1, 2, 6, 7, 3, 4, 5] rfl
          have hD : va_D A [(h7, oB 7 [.ref hd, .ref h0, .ref s0, .ref hp, .ref hi, .ref hc, .ref hg, .ref hq, .ref hz, .ref hL, .ref hy]), (h0, oB 6 [.ref h1, vI n, vJ lm]), (h1, aJ ca 605 b), (s0, oB 6 [.ref s1, vI n1_42, vJ lm]), (s1, aJ ca 605 b1_42), (hL, oB 2 [.ref hw, .ref he, .ref hdn, .ref hdw, vI du, vI hv, vI mo, vI oft, vI la, vI pA, vI pB]), (hw, aI ca 5 w), (he, aI ca 5 ea)] := hD.sub [0, 1, 2, 6, 7, 3, 4, 5] (by decide) rfl
          refine lv_goto (tgt := 86) hx hb dX7_all_75 (by decide) ?_
          refine zr_J hx hb hr hlk hQ (b1_42, n1_42, lm) hP hD hS dX7_all_86 (Nat.le_of_ble_eq_true rfl) (Nat.le_of_ble_eq_true rfl) ?_
          show z72 = alv w ea b mo n lm t0 o
          unfold alv
          first
          | (rw [if_neg (fun q => by omega)])
          | (rw [if_pos (by omega), if_pos (by omega), q59, q42_1, hn42])
          | (rw [if_pos (by omega), if_neg (by omega), if_pos (by omega), q72, q42_1, hn42])
          | (rw [if_pos (by omega), if_neg (by omega), if_neg (by omega), q83, q42_1, hn42])
      · skip
        refine lv_aload_n hx hb dX7_all_51 rfl (lv_at hl 0 rfl) ?_
        refine va_get (D := g) (ci := 7) (v := .ref s0) (C := RX7) (T := TX7) (N := 11) hx hb hts inF_X7 hown hK.1 hP 0 rfl rfl 2 (by decide) lk_f23 (fun _ h9 => h9) rfl dX7_all_52 ?_
        refine lv_aload_n hx hb dX7_all_55 rfl (lv_at hl 0 rfl) ?_
        refine va_get (D := g) (ci := 7) (v := .ref hL) (C := RX7) (T := TX7) (N := 11) hx hb hts inF_X7 hown hK.1 hP 0 rfl rfl 9 (by decide) lk_f65 (fun _ h9 => h9) rfl dX7_all_56 ?_
        refine zc_VJ (As := [.ref hL]) (rest := []) (wc := [(s0, oB 6 [.ref s1, vI n1_42, vJ lm]), (s1, aJ ca 605 b1_42), (hL, oB 2 [.ref hw, .ref he, .ref hdn, .ref hdw, vI du, vI hv, vI mo, vI oft, vI la, vI pA, vI pB]), (hw, aI ca 5 w)]) (wr := [(h7, oB 7 [.ref hd, .ref h0, .ref s0, .ref hp, .ref hi, .ref hc, .ref hg, .ref hq, .ref hz, .ref hL, .ref hy]), (h0, oB 6 [.ref h1, vI n, vJ lm]), (h1, aJ ca 605 b), (he, aI ca 5 ea)]) (k_X6_weightWithLump l g ca s0 s1 b1_42 n1_42 lm hL hw he hdn hdw w du hv mo oft la pA pB (by first | assumption | omega) (by first | assumption | omega)) dX7_all_59 (cwV 1 hts gX7_all_X6_weightWithLump rfl rfl rfl (by decide +kernel) (by rw [hR]; exact ⟨Nat.le_of_ble_eq_true rfl, Nat.le_of_ble_eq_true rfl⟩)) ⟨hx, hb, hml, hown, hts⟩ hl.1 hK hP hD hS hA 3 rfl rfl rfl [3, 4, 5, 6] [0, 1, 2, 7] rfl (by decide) rfl (by decide) (by decide) rfl rfl (Nat.le_of_ble_eq_true rfl) (by rw [hR]; exact ⟨Nat.le_of_ble_eq_true rfl, Nat.le_of_ble_eq_true rfl⟩) (fun z59 u H locs q59 hP hD hS => ?_)
        have q59 : z59 = wgt b1_42 w n1_42 + lm := q59
        have hP : va_P g vwCl [(h7, oB 7 [.ref hd, .ref h0, .ref s0, .ref hp, .ref hi, .ref hc, .ref hg, .ref hq, .ref hz, .ref hL, .ref hy]), (h0, oB 6 [.ref h1, vI n, vJ lm]), (h1, aJ ca 605 b), (s0, oB 6 [.ref s1, vI n1_42, vJ lm]), (s1, aJ ca 605 b1_42), (hL, oB 2 [.ref hw, .ref he, .ref hdn, .ref hdw, vI du, vI hv, vI mo, vI oft, vI la, vI pA, vI pB]), (hw, aI ca 5 w), (he, aI ca 5 ea)] H := hP.sub [0, 1, 2, 4, 5, 6, 7, 3] rfl
        have hD : va_D A [(h7, oB 7 [.ref hd, .ref h0, .ref s0, .ref hp, .ref hi, .ref hc, .ref hg, .ref hq, .ref hz, .ref hL, .ref hy]), (h0, oB 6 [.ref h1, vI n, vJ lm]), (h1, aJ ca 605 b), (s0, oB 6 [.ref s1, vI n1_42, vJ lm]), (s1, aJ ca 605 b1_42), (hL, oB 2 [.ref hw, .ref he, .ref hdn, .ref hdw, vI du, vI hv, vI mo, vI oft, vI la, vI pA, vI pB]), (hw, aI ca 5 w), (he, aI ca 5 ea)] := hD.sub [0, 1, 2, 4, 5, 6, 7, 3] (by decide) rfl
        refine zr_J hx hb hr hlk hQ (b1_42, n1_42, lm) hP hD hS dX7_all_62 (Nat.le_of_ble_eq_true rfl) (Nat.le_of_ble_eq_true rfl) ?_
        show z59 = alv w ea b mo n lm t0 o
        unfold alv
        first
        | (rw [if_neg (fun q => by omega)])
        | (rw [if_pos (by omega), if_pos (by omega), q59, q42_1, hn42])
        | (rw [if_pos (by omega), if_neg (by omega), if_pos (by omega), q72, q42_1, hn42])
        | (rw [if_pos (by omega), if_neg (by omega), if_neg (by omega), q83, q42_1, hn42])
    · skip
      refine rj_ldc (z := (-1)) hx hb hown lk_c143 dX7_all_18 (by decide) ?_
      refine zr_J hx hb hr hlk hQ (sb, sn, slm) hP hD hS dX7_all_21 (Nat.le_of_ble_eq_true rfl) (Nat.le_of_ble_eq_true rfl) ?_
      show (-1) = alv w ea b mo n lm t0 o
      unfold alv
      first
      | (rw [if_neg (fun q => by omega)])
      | (rw [if_pos (by omega), if_pos (by omega), q59, q42_1, hn42])
      | (rw [if_pos (by omega), if_neg (by omega), if_pos (by omega), q72, q42_1, hn42])
      | (rw [if_pos (by omega), if_neg (by omega), if_neg (by omega), q83, q42_1, hn42])
set_option maxHeartbeats 4000000 in
set_option maxRecDepth 100000 in
theorem k_X7_above (l : Launch) (g : va_G) (ca : Nat → ClassId) (h7 : Nat) (hd : Nat) (h0 : Nat) (s0 : Nat) (hp : Nat) (hi : Nat) (hc : Nat) (hg : Nat) (hq : Nat) (hz : Nat) (hL : Nat) (hy : Nat) (h1 : Nat) (b : Int → Int) (n : Int) (lm : Int) (s1 : Nat) (sb : Int → Int) (sn : Int) (slm : Int) (hw : Nat) (he : Nat) (hdn : Nat) (hdw : Nat) (w : Int → Int) (ea : Int → Int) (du : Int) (hv : Int) (mo : Int) (oft : Int) (la : Int) (pA : Int) (pB : Int) (x : Int) (hB : GB b n) (hLM : LMok lm) (hW : GW w) (hE : EAok ea) (hM : 1 ≤ mo ∧ mo ≤ 9) (hx0 : in32 x) : zI (S := (Int → Int) × Int × Int) l yX7_above wsX7_above ({ frames := 4, cells := 0, slots := 0, locals := 98 } : Room) g ca [.ref h7, vI x] [(h7, oB 7 [.ref hd, .ref h0, .ref s0, .ref hp, .ref hi, .ref hc, .ref hg, .ref hq, .ref hz, .ref hL, .ref hy]), (h0, oB 6 [.ref h1, vI n, vJ lm]), (h1, aJ ca 605 b), (s0, oB 6 [.ref s1, vI sn, vJ slm]), (s1, aJ ca 605 sb), (hL, oB 2 [.ref hw, .ref he, .ref hdn, .ref hdw, vI du, vI hv, vI mo, vI oft, vI la, vI pA, vI pB]), (hw, aI ca 5 w), (he, aI ca 5 ea)] (fun (z : Int) (u : (Int → Int) × Int × Int) => z = abv w ea b mo n lm x) (fun (u : (Int → Int) × Int × Int) => [(h7, oB 7 [.ref hd, .ref h0, .ref s0, .ref hp, .ref hi, .ref hc, .ref hg, .ref hq, .ref hz, .ref hL, .ref hy]), (h0, oB 6 [.ref h1, vI n, vJ lm]), (h1, aJ ca 605 b), (s0, oB 6 [.ref s1, vI u.2.1, vJ u.2.2]), (s1, aJ ca 605 u.1), (hL, oB 2 [.ref hw, .ref he, .ref hdn, .ref hdw, vI du, vI hv, vI mo, vI oft, vI la, vI pA, vI pB]), (hw, aI ca 5 w), (he, aI ca 5 ea)]) 0 0 := by
  refine zm_I (cc := cX7_above) (maxL := 3) (ret := some .int) (by decide) rfl (Nat.le_of_ble_eq_true rfl) ?_
  intro p e s m below meth c A ls R args Q hR hargs hQ hx hb hml hr hts hown hlk hnm hK hP hD hA hS hl
  have hown : s.vm.findClass RX7 = some m.cls := hown
  have hl : lv_has ls 3 [(0, .ref h7), (1, vI x)] := hl
  have lk_c177 : (Cond.constant RX7 177 (1000000000)).before args s = true := hts _ (by decide +kernel)
  have lk_f23 : (Cond.fieldLink RX7 23 "DripRings" "scratch" "LDripRings$Rings;").before args s = true := hts _ (by decide +kernel)
  have inF_X7 : ∀ w ∈ wsX70, w ∈ wsX7_above := by decide +kernel
  have lk_f19 : (Cond.fieldLink RX7 19 "DripRings" "rings" "LDripRings$Rings;").before args s = true := hts _ (by decide +kernel)
  have lk_f125 : (Cond.fieldLink RX7 125 "DripRings$Rings" "night" "I").before args s = true := hts _ (by decide +kernel)
  have inF_X6 : ∀ w ∈ wsX60, w ∈ wsX7_above := by decide +kernel
  have lk_f65 : (Cond.fieldLink RX7 65 "DripRings" "law" "LDripRings$Law;").before args s = true := hts _ (by decide +kernel)
  have hn0 := hB.1
  obtain ⟨hlm1, hlm2⟩ := hLM
  refine lv_iload_n hx hb dX7_above_0 rfl (lv_at hl 1 rfl) ?_
  refine lv_iconst (v := Int32.ofInt 0) hx hb dX7_above_1 rfl ?_
  refine ri_ldc (z := 1000000000) hx hb hown lk_c177 dX7_above_2 (by decide) ?_
  refine zc_SI (As := [vI x, vI 0, vI 1000000000]) (rest := []) (wc := []) (wr := [(h7, oB 7 [.ref hd, .ref h0, .ref s0, .ref hp, .ref hi, .ref hc, .ref hg, .ref hq, .ref hz, .ref hL, .ref hy]), (h0, oB 6 [.ref h1, vI n, vJ lm]), (h1, aJ ca 605 b), (s0, oB 6 [.ref s1, vI sn, vJ slm]), (s1, aJ ca 605 sb), (hL, oB 2 [.ref hw, .ref he, .ref hdn, .ref hdw, vI du, vI hv, vI mo, vI oft, vI la, vI pA, vI pB]), (hw, aI ca 5 w), (he, aI ca 5 ea)]) (k_X7_isOutside l g ca x 0 1000000000 (by exact hx0) (by exact ⟨by omega, by omega⟩) (by exact ⟨by omega, by omega⟩)) dX7_above_4 (va_cwS 3 hts gX7_above_X7_isOutside rfl rfl rfl (by decide +kernel) (by rw [hR]; exact ⟨Nat.le_of_ble_eq_true rfl, Nat.le_of_ble_eq_true rfl⟩)) ⟨hx, hb, hml, hown, hts⟩ hl.1 hK hP hD hS hA [] [0, 1, 2, 3, 4, 5, 6, 7] rfl (by decide) rfl (by decide) (by decide) rfl rfl (Nat.le_of_ble_eq_true rfl) (by rw [hR]; exact ⟨Nat.le_of_ble_eq_true rfl, Nat.le_of_ble_eq_true rfl⟩) (fun z4 u H locs q4 hP hD hS => ?_)
  have q4 : (z4 = 1 ∧ ¬ (0 ≤ x ∧ x ≤ 1000000000)) ∨ (z4 = 0 ∧ 0 ≤ x ∧ x ≤ 1000000000) := q4
  have hP : va_P g vwCl [(h7, oB 7 [.ref hd, .ref h0, .ref s0, .ref hp, .ref hi, .ref hc, .ref hg, .ref hq, .ref hz, .ref hL, .ref hy]), (h0, oB 6 [.ref h1, vI n, vJ lm]), (h1, aJ ca 605 b), (s0, oB 6 [.ref s1, vI sn, vJ slm]), (s1, aJ ca 605 sb), (hL, oB 2 [.ref hw, .ref he, .ref hdn, .ref hdw, vI du, vI hv, vI mo, vI oft, vI la, vI pA, vI pB]), (hw, aI ca 5 w), (he, aI ca 5 ea)] H := hP.sub [0, 1, 2, 3, 4, 5, 6, 7] rfl
  have hD : va_D A [(h7, oB 7 [.ref hd, .ref h0, .ref s0, .ref hp, .ref hi, .ref hc, .ref hg, .ref hq, .ref hz, .ref hL, .ref hy]), (h0, oB 6 [.ref h1, vI n, vJ lm]), (h1, aJ ca 605 b), (s0, oB 6 [.ref s1, vI sn, vJ slm]), (s1, aJ ca 605 sb), (hL, oB 2 [.ref hw, .ref he, .ref hdn, .ref hdw, vI du, vI hv, vI mo, vI oft, vI la, vI pA, vI pB]), (hw, aI ca 5 w), (he, aI ca 5 ea)] := hD.sub [0, 1, 2, 3, 4, 5, 6, 7] (by decide) rfl
  refine ri_if_eq (tgt := 12) hx hb dX7_above_7 (by decide) ⟨by omega, by omega⟩ (fun c7 => ?_) (fun c7 => ?_)
  · skip
    refine lv_aload_n hx hb dX7_above_12 rfl (lv_at hl 0 rfl) ?_
    refine va_get (D := g) (ci := 7) (v := .ref s0) (C := RX7) (T := TX7) (N := 11) hx hb hts inF_X7 hown hK.1 hP 0 rfl rfl 2 (by decide) lk_f23 (fun _ h9 => h9) rfl dX7_above_13 ?_
    refine lv_aload_n hx hb dX7_above_16 rfl (lv_at hl 0 rfl) ?_
    refine va_get (D := g) (ci := 7) (v := .ref h0) (C := RX7) (T := TX7) (N := 11) hx hb hts inF_X7 hown hK.1 hP 0 rfl rfl 1 (by decide) lk_f19 (fun _ h9 => h9) rfl dX7_above_17 ?_
    refine zc_VV (As := [.ref h0]) (rest := []) (wc := [(s0, oB 6 [.ref s1, vI sn, vJ slm]), (s1, aJ ca 605 sb), (h0, oB 6 [.ref h1, vI n, vJ lm]), (h1, aJ ca 605 b)]) (wr := [(h7, oB 7 [.ref hd, .ref h0, .ref s0, .ref hp, .ref hi, .ref hc, .ref hg, .ref hq, .ref hz, .ref hL, .ref hy]), (hL, oB 2 [.ref hw, .ref he, .ref hdn, .ref hdw, vI du, vI hv, vI mo, vI oft, vI la, vI pA, vI pB]), (hw, aI ca 5 w), (he, aI ca 5 ea)]) (k_X6_becomeLike l g ca s0 s1 sb sn slm h0 h1 b n lm ) dX7_above_20 (cwV 1 hts gX7_above_X6_becomeLike rfl rfl rfl (by decide +kernel) (by rw [hR]; exact ⟨Nat.le_of_ble_eq_true rfl, Nat.le_of_ble_eq_true rfl⟩)) ⟨hx, hb, hml, hown, hts⟩ hl.1 hK hP hD hS hA 3 rfl rfl rfl [3, 4, 1, 2] [0, 5, 6, 7] rfl (by decide) rfl (by decide) (by decide) rfl rfl (Nat.le_of_ble_eq_true rfl) (by rw [hR]; exact ⟨Nat.le_of_ble_eq_true rfl, Nat.le_of_ble_eq_true rfl⟩) (fun u H locs q20 hP hD hS => ?_)
    have hP : va_P g vwCl [(h7, oB 7 [.ref hd, .ref h0, .ref s0, .ref hp, .ref hi, .ref hc, .ref hg, .ref hq, .ref hz, .ref hL, .ref hy]), (h0, oB 6 [.ref h1, vI n, vJ lm]), (h1, aJ ca 605 b), (s0, oB 6 [.ref s1, vI n, vJ lm]), (s1, aJ ca 605 b), (hL, oB 2 [.ref hw, .ref he, .ref hdn, .ref hdw, vI du, vI hv, vI mo, vI oft, vI la, vI pA, vI pB]), (hw, aI ca 5 w), (he, aI ca 5 ea)] H := hP.sub [0, 6, 7, 4, 5, 1, 2, 3] rfl
    have hD : va_D A [(h7, oB 7 [.ref hd, .ref h0, .ref s0, .ref hp, .ref hi, .ref hc, .ref hg, .ref hq, .ref hz, .ref hL, .ref hy]), (h0, oB 6 [.ref h1, vI n, vJ lm]), (h1, aJ ca 605 b), (s0, oB 6 [.ref s1, vI n, vJ lm]), (s1, aJ ca 605 b), (hL, oB 2 [.ref hw, .ref he, .ref hdn, .ref hdw, vI du, vI hv, vI mo, vI oft, vI la, vI pA, vI pB]), (hw, aI ca 5 w), (he, aI ca 5 ea)] := hD.sub [0, 6, 7, 4, 5, 1, 2, 3] (by decide) rfl
    refine lv_aload_n hx hb dX7_above_23 rfl (lv_at hl 0 rfl) ?_
    refine va_get (D := g) (ci := 7) (v := .ref h0) (C := RX7) (T := TX7) (N := 11) hx hb hts inF_X7 hown hK.1 hP 0 rfl rfl 1 (by decide) lk_f19 (fun _ h9 => h9) rfl dX7_above_24 ?_
    refine va_get (D := g) (ci := 6) (v := vI n) (C := RX6) (T := TX6) (N := 3) hx hb hts inF_X6 hown hK.1 hP 1 rfl rfl 1 (by decide) lk_f125 (fun _ h9 => h9) rfl dX7_above_27 ?_
    refine lv_istore_n (lv' := [(2, vI n), (0, .ref h7), (1, vI x)]) hx hb dX7_above_30 rfl hl (by decide) rfl (fun ls hl => ?_)
    have L31 : ∀ (N31 : Nat) (i : Int) (bi : Int → Int) (f : Int → Int) (sn2 : Int) (k : Nat) (hii : n ≤ i ∧ i + k = 121 ∧ 0 ≤ i) (hs : 0 ≤ sn2 ∧ sn2 ≤ i ∧ sn2 ≤ 120) (hgt : gt w ea mo sn2 f (i - sn2).toNat = bi) (hBi : i ≤ 120 → GB bi i) (hvv : abf w ea mo lm x k i bi = abf w ea mo lm x (121 - n).toNat n b) (hμ : k < N31) (H : Heap) (locs : List Loc) (hP : va_P g vwCl [(h7, oB 7 [.ref hd, .ref h0, .ref s0, .ref hp, .ref hi, .ref hc, .ref hg, .ref hq, .ref hz, .ref hL, .ref hy]), (h0, oB 6 [.ref h1, vI n, vJ lm]), (h1, aJ ca 605 b), (s0, oB 6 [.ref s1, vI sn2, vJ lm]), (s1, aJ ca 605 f), (hL, oB 2 [.ref hw, .ref he, .ref hdn, .ref hdw, vI du, vI hv, vI mo, vI oft, vI la, vI pA, vI pB]), (hw, aI ca 5 w), (he, aI ca 5 ea)] H) (hD : va_D A [(h7, oB 7 [.ref hd, .ref h0, .ref s0, .ref hp, .ref hi, .ref hc, .ref hg, .ref hq, .ref hz, .ref hL, .ref hy]), (h0, oB 6 [.ref h1, vI n, vJ lm]), (h1, aJ ca 605 b), (s0, oB 6 [.ref s1, vI sn2, vJ lm]), (s1, aJ ca 605 f), (hL, oB 2 [.ref hw, .ref he, .ref hdn, .ref hdw, vI du, vI hv, vI mo, vI oft, vI la, vI pA, vI pB]), (hw, aI ca 5 w), (he, aI ca 5 ea)]) (hS : va_S A s.heap H locs) (ls : Array Slot) (hl : lv_has ls 3 [(2, vI i), (0, .ref h7), (1, vI x)]), W p l e R s m args below meth c H locs 0 0 Q (F0 m 31 ls []) := by
      intro N31; induction N31 with
      | zero => intro i bi f sn2 k hii hs hgt hBi hvv hμ; exact absurd hμ (Nat.not_lt_zero _)
      | succ N31 ih31 =>
        intro i bi f sn2 k hii hs hgt hBi hvv hμ H locs hP hD hS ls hl
        refine lv_iload_n hx hb dX7_above_31 rfl (lv_at hl 0 rfl) ?_
        refine lv_bipush (v := Int32.ofInt 120) hx hb dX7_above_32 (by decide) ?_
        refine ri_icmp_gt (tgt := 74) hx hb dX7_above_34 (by decide) ⟨by omega, by omega⟩ ⟨by omega, by omega⟩ (fun c34 => ?_) (fun c34 => ?_)
        · skip
          refine lv_bipush (v := Int32.ofInt (-9)) hx hb dX7_above_74 (by decide) ?_
          refine zr_I hx hb hr hlk hQ (f, sn2, lm) hP hD hS dX7_above_76 (Nat.le_of_ble_eq_true rfl) (Nat.le_of_ble_eq_true rfl) ?_
          show (-9) = abv w ea b mo n lm x
          unfold abv
          first
          | (rw [if_neg (fun q => by omega)])
          | (rw [if_pos (by omega), ← hvv]
             first
             | (rw [abf_y (by omega)]; done)
             | (rw [show k = 0 by omega]; rfl))
        · skip
          have hB2 := hBi (by omega)
          obtain ⟨k1, rfl⟩ : ∃ q, k = q + 1 := ⟨k - 1, by omega⟩
          refine lv_aload_n hx hb dX7_above_37 rfl (lv_at hl 1 rfl) ?_
          refine va_get (D := g) (ci := 7) (v := .ref s0) (C := RX7) (T := TX7) (N := 11) hx hb hts inF_X7 hown hK.1 hP 0 rfl rfl 2 (by decide) lk_f23 (fun _ h9 => h9) rfl dX7_above_38 ?_
          refine lv_iload_n hx hb dX7_above_41 rfl (lv_at hl 0 rfl) ?_
          refine lv_aload_n hx hb dX7_above_42 rfl (lv_at hl 1 rfl) ?_
          refine va_get (D := g) (ci := 7) (v := .ref hL) (C := RX7) (T := TX7) (N := 11) hx hb hts inF_X7 hown hK.1 hP 0 rfl rfl 9 (by decide) lk_f65 (fun _ h9 => h9) rfl dX7_above_43 ?_
          refine zc_VV (As := [vI i, .ref hL]) (rest := []) (wc := [(s0, oB 6 [.ref s1, vI sn2, vJ lm]), (s1, aJ ca 605 f), (hL, oB 2 [.ref hw, .ref he, .ref hdn, .ref hdw, vI du, vI hv, vI mo, vI oft, vI la, vI pA, vI pB]), (hw, aI ca 5 w), (he, aI ca 5 ea)]) (wr := [(h7, oB 7 [.ref hd, .ref h0, .ref s0, .ref hp, .ref hi, .ref hc, .ref hg, .ref hq, .ref hz, .ref hL, .ref hy]), (h0, oB 6 [.ref h1, vI n, vJ lm]), (h1, aJ ca 605 b)]) (k_X6_passTo l g ca s0 s1 f sn2 lm hL hw he hdn hdw w ea du hv mo oft la pA pB i (by first | assumption | omega) (by first | assumption | omega) (by first | assumption | omega) (by first | assumption | omega) (by first | assumption | omega)) dX7_above_46 (cwV 2 hts gX7_above_X6_passTo rfl rfl rfl (by decide +kernel) (by rw [hR]; exact ⟨Nat.le_of_ble_eq_true rfl, Nat.le_of_ble_eq_true rfl⟩)) ⟨hx, hb, hml, hown, hts⟩ hl.1 hK hP hD hS hA 3 rfl rfl rfl [3, 4, 5, 6, 7] [0, 1, 2] rfl (by decide) rfl (by decide) (by decide) rfl rfl (Nat.le_of_ble_eq_true rfl) (by rw [hR]; exact ⟨Nat.le_of_ble_eq_true rfl, Nat.le_of_ble_eq_true rfl⟩) (fun u H locs q46 hP hD hS => ?_)
          obtain ⟨n1_46, b1_46⟩ := u
          have q46 : n1_46 = (if sn2 < i then i else sn2) ∧ b1_46 = gt w ea mo sn2 f (i - sn2).toNat := q46
          obtain ⟨q46_0, q46_1⟩ := q46
          have hP : va_P g vwCl [(h7, oB 7 [.ref hd, .ref h0, .ref s0, .ref hp, .ref hi, .ref hc, .ref hg, .ref hq, .ref hz, .ref hL, .ref hy]), (h0, oB 6 [.ref h1, vI n, vJ lm]), (h1, aJ ca 605 b), (s0, oB 6 [.ref s1, vI n1_46, vJ lm]), (s1, aJ ca 605 b1_46), (hL, oB 2 [.ref hw, .ref he, .ref hdn, .ref hdw, vI du, vI hv, vI mo, vI oft, vI la, vI pA, vI pB]), (hw, aI ca 5 w), (he, aI ca 5 ea)] H := hP.sub [0, 1, 2, 3, 4, 5, 6, 7] rfl
          have hD : va_D A [(h7, oB 7 [.ref hd, .ref h0, .ref s0, .ref hp, .ref hi, .ref hc, .ref hg, .ref hq, .ref hz, .ref hL, .ref hy]), (h0, oB 6 [.ref h1, vI n, vJ lm]), (h1, aJ ca 605 b), (s0, oB 6 [.ref s1, vI n1_46, vJ lm]), (s1, aJ ca 605 b1_46), (hL, oB 2 [.ref hw, .ref he, .ref hdn, .ref hdw, vI du, vI hv, vI mo, vI oft, vI la, vI pA, vI pB]), (hw, aI ca 5 w), (he, aI ca 5 ea)] := hD.sub [0, 1, 2, 3, 4, 5, 6, 7] (by decide) rfl
          have hn9 : n1_46 = i := by rw [q46_0]; split <;> omega
          rw [hgt] at q46_1
          refine lv_aload_n hx hb dX7_above_49 rfl (lv_at hl 1 rfl) ?_
          refine va_get (D := g) (ci := 7) (v := .ref s0) (C := RX7) (T := TX7) (N := 11) hx hb hts inF_X7 hown hK.1 hP 0 rfl rfl 2 (by decide) lk_f23 (fun _ h9 => h9) rfl dX7_above_50 ?_
          refine lv_aload_n hx hb dX7_above_53 rfl (lv_at hl 1 rfl) ?_
          refine va_get (D := g) (ci := 7) (v := .ref hL) (C := RX7) (T := TX7) (N := 11) hx hb hts inF_X7 hown hK.1 hP 0 rfl rfl 9 (by decide) lk_f65 (fun _ h9 => h9) rfl dX7_above_54 ?_
          refine zc_VJ (As := [.ref hL]) (rest := []) (wc := [(s0, oB 6 [.ref s1, vI n1_46, vJ lm]), (s1, aJ ca 605 b1_46), (hL, oB 2 [.ref hw, .ref he, .ref hdn, .ref hdw, vI du, vI hv, vI mo, vI oft, vI la, vI pA, vI pB]), (hw, aI ca 5 w)]) (wr := [(h7, oB 7 [.ref hd, .ref h0, .ref s0, .ref hp, .ref hi, .ref hc, .ref hg, .ref hq, .ref hz, .ref hL, .ref hy]), (h0, oB 6 [.ref h1, vI n, vJ lm]), (h1, aJ ca 605 b), (he, aI ca 5 ea)]) (k_X6_weightWithLump l g ca s0 s1 b1_46 n1_46 lm hL hw he hdn hdw w du hv mo oft la pA pB (by first | assumption | omega) (by first | assumption | omega)) dX7_above_57 (cwV 1 hts gX7_above_X6_weightWithLump rfl rfl rfl (by decide +kernel) (by rw [hR]; exact ⟨Nat.le_of_ble_eq_true rfl, Nat.le_of_ble_eq_true rfl⟩)) ⟨hx, hb, hml, hown, hts⟩ hl.1 hK hP hD hS hA 3 rfl rfl rfl [3, 4, 5, 6] [0, 1, 2, 7] rfl (by decide) rfl (by decide) (by decide) rfl rfl (Nat.le_of_ble_eq_true rfl) (by rw [hR]; exact ⟨Nat.le_of_ble_eq_true rfl, Nat.le_of_ble_eq_true rfl⟩) (fun z57 u H locs q57 hP hD hS => ?_)
          have q57 : z57 = wgt b1_46 w n1_46 + lm := q57
          have hP : va_P g vwCl [(h7, oB 7 [.ref hd, .ref h0, .ref s0, .ref hp, .ref hi, .ref hc, .ref hg, .ref hq, .ref hz, .ref hL, .ref hy]), (h0, oB 6 [.ref h1, vI n, vJ lm]), (h1, aJ ca 605 b), (s0, oB 6 [.ref s1, vI n1_46, vJ lm]), (s1, aJ ca 605 b1_46), (hL, oB 2 [.ref hw, .ref he, .ref hdn, .ref hdw, vI du, vI hv, vI mo, vI oft, vI la, vI pA, vI pB]), (hw, aI ca 5 w), (he, aI ca 5 ea)] H := hP.sub [0, 1, 2, 4, 5, 6, 7, 3] rfl
          have hD : va_D A [(h7, oB 7 [.ref hd, .ref h0, .ref s0, .ref hp, .ref hi, .ref hc, .ref hg, .ref hq, .ref hz, .ref hL, .ref hy]), (h0, oB 6 [.ref h1, vI n, vJ lm]), (h1, aJ ca 605 b), (s0, oB 6 [.ref s1, vI n1_46, vJ lm]), (s1, aJ ca 605 b1_46), (hL, oB 2 [.ref hw, .ref he, .ref hdn, .ref hdw, vI du, vI hv, vI mo, vI oft, vI la, vI pA, vI pB]), (hw, aI ca 5 w), (he, aI ca 5 ea)] := hD.sub [0, 1, 2, 4, 5, 6, 7, 3] (by decide) rfl
          rw [q46_1, hn9] at q57
          have hw60 := wgt_bd hB2 hW
          refine lv_iload_n hx hb dX7_above_60 rfl (lv_at hl 2 rfl) ?_
          refine ri_l hx hb dX7_above_61 hx0 ?_
          refine rj_cmp hx hb dX7_above_62 ⟨by omega, by omega⟩ ⟨by omega, by omega⟩ (fun z62 e62 => ?_)
          refine ri_if_le (tgt := 68) hx hb dX7_above_63 (by decide) ⟨by omega, by omega⟩ (fun c63 => ?_) (fun c63 => ?_)
          · skip
            have c63 : z57 ≤ x := by omega
            clear e62
            obtain ⟨z68, e68⟩ : ∃ q : Int, q = i + 1 := ⟨_, rfl⟩
            refine ri_inc (lv' := [(2, vI z68), (0, .ref h7), (1, vI x)]) hx hb dX7_above_68 hl (k := 0) rfl (by decide) z68 e68 rfl (fun ls hl => ?_)
            refine lv_goto (tgt := 31) hx hb dX7_above_71 (by decide) ?_
            exact ih31 z68 ((gs w ea mo (i + 1) bi 4).1) b1_46 n1_46 k1 (by first | assumption | omega) (by omega) (by rw [q46_1, hn9, e68]; exact gt_1) (by intro h9; rw [e68]; exact GB_gs hE hM (GB_up hB2 (by omega)) 4 (by omega)) (by rw [← hvv, abf_n (by omega), e68]) (by omega) _ _ hP hD hS ls (lv_sub hl [0, 1, 2] rfl)
          · skip
            have c63 : x < z57 := by omega
            clear e62
            refine lv_iload_n hx hb dX7_above_66 rfl (lv_at hl 0 rfl) ?_
            refine zr_I hx hb hr hlk hQ (b1_46, n1_46, lm) hP hD hS dX7_above_67 (Nat.le_of_ble_eq_true rfl) (Nat.le_of_ble_eq_true rfl) ?_
            show i = abv w ea b mo n lm x
            unfold abv
            first
            | (rw [if_neg (fun q => by omega)])
            | (rw [if_pos (by omega), ← hvv]
               first
               | (rw [abf_y (by omega)]; done)
               | (rw [show k = 0 by omega]; rfl))
    exact L31 _ n b b n ((121 - n).toNat) (by first | assumption | omega) (by first | assumption | omega) (by rw [show n - n = 0 by omega]; rfl) (by intro _; exact hB) (by rfl) (Nat.lt_succ_self _) _ _ hP hD hS ls (lv_sub hl [0, 1, 2] rfl)
  · skip
    refine lv_iconst (v := Int32.ofInt (-1)) hx hb dX7_above_10 rfl ?_
    refine zr_I hx hb hr hlk hQ (sb, sn, slm) hP hD hS dX7_above_11 (Nat.le_of_ble_eq_true rfl) (Nat.le_of_ble_eq_true rfl) ?_
    show (-1) = abv w ea b mo n lm x
    unfold abv
    first
    | (rw [if_neg (fun q => by omega)])
    | (rw [if_pos (by omega), ← hvv]
       first
       | (rw [abf_y (by omega)]; done)
       | (rw [show k = 0 by omega]; rfl))
set_option maxHeartbeats 4000000 in
set_option maxRecDepth 100000 in
theorem k_X7_first (l : Launch) (g : va_G) (ca : Nat → ClassId) (h7 : Nat) (hd : Nat) (h0 : Nat) (s0 : Nat) (hp : Nat) (hi : Nat) (hc : Nat) (hg : Nat) (hq : Nat) (hz : Nat) (hL : Nat) (hy : Nat) (s1 : Nat) (sb : Int → Int) (sn : Int) (slm : Int) (hw : Nat) (he : Nat) (hdn : Nat) (hdw : Nat) (w : Int → Int) (ea : Int → Int) (du : Int) (hv : Int) (mo : Int) (oft : Int) (la : Int) (pA : Int) (pB : Int) (o : Int) (x : Int) (hW : GW w) (hE : EAok ea) (hM : 1 ≤ mo ∧ mo ≤ 9) (hx0 : in32 o) (hx1 : in32 x) : zI (S := (Int → Int) × Int × Int) l yX7_first wsX7_first ({ frames := 4, cells := 0, slots := 0, locals := 98 } : Room) g ca [.ref h7, vI o, vI x] [(h7, oB 7 [.ref hd, .ref h0, .ref s0, .ref hp, .ref hi, .ref hc, .ref hg, .ref hq, .ref hz, .ref hL, .ref hy]), (s0, oB 6 [.ref s1, vI sn, vJ slm]), (s1, aJ ca 605 sb), (hL, oB 2 [.ref hw, .ref he, .ref hdn, .ref hdw, vI du, vI hv, vI mo, vI oft, vI la, vI pA, vI pB]), (hw, aI ca 5 w), (he, aI ca 5 ea)] (fun (z : Int) (u : (Int → Int) × Int × Int) => z = fsv w ea mo o x) (fun (u : (Int → Int) × Int × Int) => [(h7, oB 7 [.ref hd, .ref h0, .ref s0, .ref hp, .ref hi, .ref hc, .ref hg, .ref hq, .ref hz, .ref hL, .ref hy]), (s0, oB 6 [.ref s1, vI u.2.1, vJ u.2.2]), (s1, aJ ca 605 u.1), (hL, oB 2 [.ref hw, .ref he, .ref hdn, .ref hdw, vI du, vI hv, vI mo, vI oft, vI la, vI pA, vI pB]), (hw, aI ca 5 w), (he, aI ca 5 ea)]) 0 0 := by
  refine zm_I (cc := cX7_first) (maxL := 4) (ret := some .int) (by decide) rfl (Nat.le_of_ble_eq_true rfl) ?_
  intro p e s m below meth c A ls R args Q hR hargs hQ hx hb hml hr hts hown hlk hnm hK hP hD hA hS hl
  have hown : s.vm.findClass RX7 = some m.cls := hown
  have hl : lv_has ls 4 [(0, .ref h7), (1, vI o), (2, vI x)] := hl
  have lk_c154 : (Cond.constant RX7 154 (1000000)).before args s = true := hts _ (by decide +kernel)
  have lk_f23 : (Cond.fieldLink RX7 23 "DripRings" "scratch" "LDripRings$Rings;").before args s = true := hts _ (by decide +kernel)
  have inF_X7 : ∀ w ∈ wsX70, w ∈ wsX7_first := by decide +kernel
  have lk_f65 : (Cond.fieldLink RX7 65 "DripRings" "law" "LDripRings$Law;").before args s = true := hts _ (by decide +kernel)
  refine lv_iload_n hx hb dX7_first_0 rfl (lv_at hl 1 rfl) ?_
  refine zc_SI (As := [vI o]) (rest := []) (wc := []) (wr := [(h7, oB 7 [.ref hd, .ref h0, .ref s0, .ref hp, .ref hi, .ref hc, .ref hg, .ref hq, .ref hz, .ref hL, .ref hy]), (s0, oB 6 [.ref s1, vI sn, vJ slm]), (s1, aJ ca 605 sb), (hL, oB 2 [.ref hw, .ref he, .ref hdn, .ref hdw, vI du, vI hv, vI mo, vI oft, vI la, vI pA, vI pB]), (hw, aI ca 5 w), (he, aI ca 5 ea)]) (k_X7_isNoOrder l g ca o (by exact hx0)) dX7_first_1 (va_cwS 1 hts gX7_first_X7_isNoOrder rfl rfl rfl (by decide +kernel) (by rw [hR]; exact ⟨Nat.le_of_ble_eq_true rfl, Nat.le_of_ble_eq_true rfl⟩)) ⟨hx, hb, hml, hown, hts⟩ hl.1 hK hP hD hS hA [] [0, 1, 2, 3, 4, 5] rfl (by decide) rfl (by decide) (by decide) rfl rfl (Nat.le_of_ble_eq_true rfl) (by rw [hR]; exact ⟨Nat.le_of_ble_eq_true rfl, Nat.le_of_ble_eq_true rfl⟩) (fun z1 u H locs q1 hP hD hS => ?_)
  have q1 : (z1 = 1 ∧ ¬ (0 ≤ o ∧ o ≤ 4)) ∨ (z1 = 0 ∧ 0 ≤ o ∧ o ≤ 4) := q1
  have hP : va_P g vwCl [(h7, oB 7 [.ref hd, .ref h0, .ref s0, .ref hp, .ref hi, .ref hc, .ref hg, .ref hq, .ref hz, .ref hL, .ref hy]), (s0, oB 6 [.ref s1, vI sn, vJ slm]), (s1, aJ ca 605 sb), (hL, oB 2 [.ref hw, .ref he, .ref hdn, .ref hdw, vI du, vI hv, vI mo, vI oft, vI la, vI pA, vI pB]), (hw, aI ca 5 w), (he, aI ca 5 ea)] H := hP.sub [0, 1, 2, 3, 4, 5] rfl
  have hD : va_D A [(h7, oB 7 [.ref hd, .ref h0, .ref s0, .ref hp, .ref hi, .ref hc, .ref hg, .ref hq, .ref hz, .ref hL, .ref hy]), (s0, oB 6 [.ref s1, vI sn, vJ slm]), (s1, aJ ca 605 sb), (hL, oB 2 [.ref hw, .ref he, .ref hdn, .ref hdw, vI du, vI hv, vI mo, vI oft, vI la, vI pA, vI pB]), (hw, aI ca 5 w), (he, aI ca 5 ea)] := hD.sub [0, 1, 2, 3, 4, 5] (by decide) rfl
  refine ri_if_ne (tgt := 17) hx hb dX7_first_4 (by decide) ⟨by omega, by omega⟩ (fun c4 => ?_) (fun c4 => ?_)
  · skip
    refine lv_iconst (v := Int32.ofInt (-1)) hx hb dX7_first_17 rfl ?_
    refine zr_I hx hb hr hlk hQ (sb, sn, slm) hP hD hS dX7_first_18 (Nat.le_of_ble_eq_true rfl) (Nat.le_of_ble_eq_true rfl) ?_
    show (-1) = fsv w ea mo o x
    unfold fsv
    first
    | (rw [if_neg (fun q => by omega)])
    | (rw [if_pos (by omega), ← hvv]
       first
       | (rw [fsf_y (by omega)]; done)
       | (rw [show k = 0 by omega]; rfl))
  · skip
    refine lv_iload_n hx hb dX7_first_7 rfl (lv_at hl 2 rfl) ?_
    refine lv_iconst (v := Int32.ofInt 1) hx hb dX7_first_8 rfl ?_
    refine ri_ldc (z := 1000000) hx hb hown lk_c154 dX7_first_9 (by decide) ?_
    refine zc_SI (As := [vI x, vI 1, vI 1000000]) (rest := []) (wc := []) (wr := [(h7, oB 7 [.ref hd, .ref h0, .ref s0, .ref hp, .ref hi, .ref hc, .ref hg, .ref hq, .ref hz, .ref hL, .ref hy]), (s0, oB 6 [.ref s1, vI sn, vJ slm]), (s1, aJ ca 605 sb), (hL, oB 2 [.ref hw, .ref he, .ref hdn, .ref hdw, vI du, vI hv, vI mo, vI oft, vI la, vI pA, vI pB]), (hw, aI ca 5 w), (he, aI ca 5 ea)]) (k_X7_isOutside l g ca x 1 1000000 (by exact hx1) (by exact ⟨by omega, by omega⟩) (by exact ⟨by omega, by omega⟩)) dX7_first_11 (va_cwS 3 hts gX7_first_X7_isOutside rfl rfl rfl (by decide +kernel) (by rw [hR]; exact ⟨Nat.le_of_ble_eq_true rfl, Nat.le_of_ble_eq_true rfl⟩)) ⟨hx, hb, hml, hown, hts⟩ hl.1 hK hP hD hS hA [] [0, 1, 2, 3, 4, 5] rfl (by decide) rfl (by decide) (by decide) rfl rfl (Nat.le_of_ble_eq_true rfl) (by rw [hR]; exact ⟨Nat.le_of_ble_eq_true rfl, Nat.le_of_ble_eq_true rfl⟩) (fun z11 u H locs q11 hP hD hS => ?_)
    have q11 : (z11 = 1 ∧ ¬ (1 ≤ x ∧ x ≤ 1000000)) ∨ (z11 = 0 ∧ 1 ≤ x ∧ x ≤ 1000000) := q11
    have hP : va_P g vwCl [(h7, oB 7 [.ref hd, .ref h0, .ref s0, .ref hp, .ref hi, .ref hc, .ref hg, .ref hq, .ref hz, .ref hL, .ref hy]), (s0, oB 6 [.ref s1, vI sn, vJ slm]), (s1, aJ ca 605 sb), (hL, oB 2 [.ref hw, .ref he, .ref hdn, .ref hdw, vI du, vI hv, vI mo, vI oft, vI la, vI pA, vI pB]), (hw, aI ca 5 w), (he, aI ca 5 ea)] H := hP.sub [0, 1, 2, 3, 4, 5] rfl
    have hD : va_D A [(h7, oB 7 [.ref hd, .ref h0, .ref s0, .ref hp, .ref hi, .ref hc, .ref hg, .ref hq, .ref hz, .ref hL, .ref hy]), (s0, oB 6 [.ref s1, vI sn, vJ slm]), (s1, aJ ca 605 sb), (hL, oB 2 [.ref hw, .ref he, .ref hdn, .ref hdw, vI du, vI hv, vI mo, vI oft, vI la, vI pA, vI pB]), (hw, aI ca 5 w), (he, aI ca 5 ea)] := hD.sub [0, 1, 2, 3, 4, 5] (by decide) rfl
    refine ri_if_eq (tgt := 19) hx hb dX7_first_14 (by decide) ⟨by omega, by omega⟩ (fun c14 => ?_) (fun c14 => ?_)
    · skip
      refine lv_aload_n hx hb dX7_first_19 rfl (lv_at hl 0 rfl) ?_
      refine va_get (D := g) (ci := 7) (v := .ref s0) (C := RX7) (T := TX7) (N := 11) hx hb hts inF_X7 hown hK.1 hP 0 rfl rfl 2 (by decide) lk_f23 (fun _ h9 => h9) rfl dX7_first_20 ?_
      refine zc_VV (As := []) (rest := []) (wc := [(s0, oB 6 [.ref s1, vI sn, vJ slm]), (s1, aJ ca 605 sb)]) (wr := [(h7, oB 7 [.ref hd, .ref h0, .ref s0, .ref hp, .ref hi, .ref hc, .ref hg, .ref hq, .ref hz, .ref hL, .ref hy]), (hL, oB 2 [.ref hw, .ref he, .ref hdn, .ref hdw, vI du, vI hv, vI mo, vI oft, vI la, vI pA, vI pB]), (hw, aI ca 5 w), (he, aI ca 5 ea)]) (k_X6_startAnew l g ca s0 s1 sb sn slm ) dX7_first_23 (cwV 0 hts gX7_first_X6_startAnew rfl rfl rfl (by decide +kernel) (by rw [hR]; exact ⟨Nat.le_of_ble_eq_true rfl, Nat.le_of_ble_eq_true rfl⟩)) ⟨hx, hb, hml, hown, hts⟩ hl.1 hK hP hD hS hA 1 rfl rfl rfl [1, 2] [0, 3, 4, 5] rfl (by decide) rfl (by decide) (by decide) rfl rfl (Nat.le_of_ble_eq_true rfl) (by rw [hR]; exact ⟨Nat.le_of_ble_eq_true rfl, Nat.le_of_ble_eq_true rfl⟩) (fun u H locs q23 hP hD hS => ?_)
      have hP : va_P g vwCl [(h7, oB 7 [.ref hd, .ref h0, .ref s0, .ref hp, .ref hi, .ref hc, .ref hg, .ref hq, .ref hz, .ref hL, .ref hy]), (s0, oB 6 [.ref s1, vI 0, vJ 0]), (s1, aJ ca 605 (zu (fun _ => 0) 0 1)), (hL, oB 2 [.ref hw, .ref he, .ref hdn, .ref hdw, vI du, vI hv, vI mo, vI oft, vI la, vI pA, vI pB]), (hw, aI ca 5 w), (he, aI ca 5 ea)] H := hP.sub [0, 4, 5, 1, 2, 3] rfl
      have hD : va_D A [(h7, oB 7 [.ref hd, .ref h0, .ref s0, .ref hp, .ref hi, .ref hc, .ref hg, .ref hq, .ref hz, .ref hL, .ref hy]), (s0, oB 6 [.ref s1, vI 0, vJ 0]), (s1, aJ ca 605 (zu (fun _ => 0) 0 1)), (hL, oB 2 [.ref hw, .ref he, .ref hdn, .ref hdw, vI du, vI hv, vI mo, vI oft, vI la, vI pA, vI pB]), (hw, aI ca 5 w), (he, aI ca 5 ea)] := hD.sub [0, 4, 5, 1, 2, 3] (by decide) rfl
      refine lv_iconst (v := Int32.ofInt 0) hx hb dX7_first_26 rfl ?_
      refine lv_istore_n (lv' := [(3, vI 0), (0, .ref h7), (1, vI o), (2, vI x)]) hx hb dX7_first_27 rfl hl (by decide) rfl (fun ls hl => ?_)
      have L28 : ∀ (N28 : Nat) (i : Int) (bi : Int → Int) (f : Int → Int) (sn2 : Int) (k : Nat) (hii : 0 ≤ i ∧ i + k = 121) (hs : 0 ≤ sn2 ∧ sn2 ≤ i ∧ sn2 ≤ 120) (hgt : gt w ea mo sn2 f (i - sn2).toNat = bi) (hBi : i ≤ 120 → GB bi i) (hvv : fsf w ea mo o x k i bi = fsf w ea mo o x 121 0 bg) (hμ : k < N28) (H : Heap) (locs : List Loc) (hP : va_P g vwCl [(h7, oB 7 [.ref hd, .ref h0, .ref s0, .ref hp, .ref hi, .ref hc, .ref hg, .ref hq, .ref hz, .ref hL, .ref hy]), (s0, oB 6 [.ref s1, vI sn2, vJ 0]), (s1, aJ ca 605 f), (hL, oB 2 [.ref hw, .ref he, .ref hdn, .ref hdw, vI du, vI hv, vI mo, vI oft, vI la, vI pA, vI pB]), (hw, aI ca 5 w), (he, aI ca 5 ea)] H) (hD : va_D A [(h7, oB 7 [.ref hd, .ref h0, .ref s0, .ref hp, .ref hi, .ref hc, .ref hg, .ref hq, .ref hz, .ref hL, .ref hy]), (s0, oB 6 [.ref s1, vI sn2, vJ 0]), (s1, aJ ca 605 f), (hL, oB 2 [.ref hw, .ref he, .ref hdn, .ref hdw, vI du, vI hv, vI mo, vI oft, vI la, vI pA, vI pB]), (hw, aI ca 5 w), (he, aI ca 5 ea)]) (hS : va_S A s.heap H locs) (ls : Array Slot) (hl : lv_has ls 4 [(3, vI i), (0, .ref h7), (1, vI o), (2, vI x)]), W p l e R s m args below meth c H locs 0 0 Q (F0 m 28 ls []) := by
        intro N28; induction N28 with
        | zero => intro i bi f sn2 k hii hs hgt hBi hvv hμ; exact absurd hμ (Nat.not_lt_zero _)
        | succ N28 ih28 =>
          intro i bi f sn2 k hii hs hgt hBi hvv hμ H locs hP hD hS ls hl
          refine lv_iload_n hx hb dX7_first_28 rfl (lv_at hl 0 rfl) ?_
          refine lv_bipush (v := Int32.ofInt 120) hx hb dX7_first_29 (by decide) ?_
          refine ri_icmp_gt (tgt := 68) hx hb dX7_first_31 (by decide) ⟨by omega, by omega⟩ ⟨by omega, by omega⟩ (fun c31 => ?_) (fun c31 => ?_)
          · skip
            refine lv_bipush (v := Int32.ofInt (-9)) hx hb dX7_first_68 (by decide) ?_
            refine zr_I hx hb hr hlk hQ (f, sn2, 0) hP hD hS dX7_first_70 (Nat.le_of_ble_eq_true rfl) (Nat.le_of_ble_eq_true rfl) ?_
            show (-9) = fsv w ea mo o x
            unfold fsv
            first
            | (rw [if_neg (fun q => by omega)])
            | (rw [if_pos (by omega), ← hvv]
               first
               | (rw [fsf_y (by omega)]; done)
               | (rw [show k = 0 by omega]; rfl))
          · skip
            have hB2 := hBi (by omega)
            obtain ⟨k1, rfl⟩ : ∃ q, k = q + 1 := ⟨k - 1, by omega⟩
            refine lv_aload_n hx hb dX7_first_34 rfl (lv_at hl 1 rfl) ?_
            refine va_get (D := g) (ci := 7) (v := .ref s0) (C := RX7) (T := TX7) (N := 11) hx hb hts inF_X7 hown hK.1 hP 0 rfl rfl 2 (by decide) lk_f23 (fun _ h9 => h9) rfl dX7_first_35 ?_
            refine lv_iload_n hx hb dX7_first_38 rfl (lv_at hl 0 rfl) ?_
            refine lv_aload_n hx hb dX7_first_39 rfl (lv_at hl 1 rfl) ?_
            refine va_get (D := g) (ci := 7) (v := .ref hL) (C := RX7) (T := TX7) (N := 11) hx hb hts inF_X7 hown hK.1 hP 0 rfl rfl 9 (by decide) lk_f65 (fun _ h9 => h9) rfl dX7_first_40 ?_
            refine zc_VV (As := [vI i, .ref hL]) (rest := []) (wc := [(s0, oB 6 [.ref s1, vI sn2, vJ 0]), (s1, aJ ca 605 f), (hL, oB 2 [.ref hw, .ref he, .ref hdn, .ref hdw, vI du, vI hv, vI mo, vI oft, vI la, vI pA, vI pB]), (hw, aI ca 5 w), (he, aI ca 5 ea)]) (wr := [(h7, oB 7 [.ref hd, .ref h0, .ref s0, .ref hp, .ref hi, .ref hc, .ref hg, .ref hq, .ref hz, .ref hL, .ref hy])]) (k_X6_passTo l g ca s0 s1 f sn2 0 hL hw he hdn hdw w ea du hv mo oft la pA pB i (by first | assumption | omega) (by first | assumption | omega) (by first | assumption | omega) (by first | assumption | omega) (by first | assumption | omega)) dX7_first_43 (cwV 2 hts gX7_first_X6_passTo rfl rfl rfl (by decide +kernel) (by rw [hR]; exact ⟨Nat.le_of_ble_eq_true rfl, Nat.le_of_ble_eq_true rfl⟩)) ⟨hx, hb, hml, hown, hts⟩ hl.1 hK hP hD hS hA 1 rfl rfl rfl [1, 2, 3, 4, 5] [0] rfl (by decide) rfl (by decide) (by decide) rfl rfl (Nat.le_of_ble_eq_true rfl) (by rw [hR]; exact ⟨Nat.le_of_ble_eq_true rfl, Nat.le_of_ble_eq_true rfl⟩) (fun u H locs q43 hP hD hS => ?_)
            obtain ⟨n1_43, b1_43⟩ := u
            have q43 : n1_43 = (if sn2 < i then i else sn2) ∧ b1_43 = gt w ea mo sn2 f (i - sn2).toNat := q43
            obtain ⟨q43_0, q43_1⟩ := q43
            have hP : va_P g vwCl [(h7, oB 7 [.ref hd, .ref h0, .ref s0, .ref hp, .ref hi, .ref hc, .ref hg, .ref hq, .ref hz, .ref hL, .ref hy]), (s0, oB 6 [.ref s1, vI n1_43, vJ 0]), (s1, aJ ca 605 b1_43), (hL, oB 2 [.ref hw, .ref he, .ref hdn, .ref hdw, vI du, vI hv, vI mo, vI oft, vI la, vI pA, vI pB]), (hw, aI ca 5 w), (he, aI ca 5 ea)] H := hP.sub [0, 1, 2, 3, 4, 5] rfl
            have hD : va_D A [(h7, oB 7 [.ref hd, .ref h0, .ref s0, .ref hp, .ref hi, .ref hc, .ref hg, .ref hq, .ref hz, .ref hL, .ref hy]), (s0, oB 6 [.ref s1, vI n1_43, vJ 0]), (s1, aJ ca 605 b1_43), (hL, oB 2 [.ref hw, .ref he, .ref hdn, .ref hdw, vI du, vI hv, vI mo, vI oft, vI la, vI pA, vI pB]), (hw, aI ca 5 w), (he, aI ca 5 ea)] := hD.sub [0, 1, 2, 3, 4, 5] (by decide) rfl
            have hn9 : n1_43 = i := by rw [q43_0]; split <;> omega
            rw [hgt] at q43_1
            refine lv_aload_n hx hb dX7_first_46 rfl (lv_at hl 1 rfl) ?_
            refine va_get (D := g) (ci := 7) (v := .ref s0) (C := RX7) (T := TX7) (N := 11) hx hb hts inF_X7 hown hK.1 hP 0 rfl rfl 2 (by decide) lk_f23 (fun _ h9 => h9) rfl dX7_first_47 ?_
            refine lv_iload_n hx hb dX7_first_50 rfl (lv_at hl 2 rfl) ?_
            refine zc_VJ (As := [vI o]) (rest := []) (wc := [(s0, oB 6 [.ref s1, vI n1_43, vJ 0]), (s1, aJ ca 605 b1_43)]) (wr := [(h7, oB 7 [.ref hd, .ref h0, .ref s0, .ref hp, .ref hi, .ref hc, .ref hg, .ref hq, .ref hz, .ref hL, .ref hy]), (hL, oB 2 [.ref hw, .ref he, .ref hdn, .ref hdw, vI du, vI hv, vI mo, vI oft, vI la, vI pA, vI pB]), (hw, aI ca 5 w), (he, aI ca 5 ea)]) (k_X6_ofOrder l g ca s0 s1 b1_43 n1_43 0 o (by first | assumption | omega) (by first | assumption | omega)) dX7_first_51 (cwV 1 hts gX7_first_X6_ofOrder rfl rfl rfl (by decide +kernel) (by rw [hR]; exact ⟨Nat.le_of_ble_eq_true rfl, Nat.le_of_ble_eq_true rfl⟩)) ⟨hx, hb, hml, hown, hts⟩ hl.1 hK hP hD hS hA 1 rfl rfl rfl [1, 2] [0, 3, 4, 5] rfl (by decide) rfl (by decide) (by decide) rfl rfl (Nat.le_of_ble_eq_true rfl) (by rw [hR]; exact ⟨Nat.le_of_ble_eq_true rfl, Nat.le_of_ble_eq_true rfl⟩) (fun z51 u H locs q51 hP hD hS => ?_)
            have q51 : z51 = cnt b1_43 n1_43 o := q51
            have hP : va_P g vwCl [(h7, oB 7 [.ref hd, .ref h0, .ref s0, .ref hp, .ref hi, .ref hc, .ref hg, .ref hq, .ref hz, .ref hL, .ref hy]), (s0, oB 6 [.ref s1, vI n1_43, vJ 0]), (s1, aJ ca 605 b1_43), (hL, oB 2 [.ref hw, .ref he, .ref hdn, .ref hdw, vI du, vI hv, vI mo, vI oft, vI la, vI pA, vI pB]), (hw, aI ca 5 w), (he, aI ca 5 ea)] H := hP.sub [0, 4, 5, 1, 2, 3] rfl
            have hD : va_D A [(h7, oB 7 [.ref hd, .ref h0, .ref s0, .ref hp, .ref hi, .ref hc, .ref hg, .ref hq, .ref hz, .ref hL, .ref hy]), (s0, oB 6 [.ref s1, vI n1_43, vJ 0]), (s1, aJ ca 605 b1_43), (hL, oB 2 [.ref hw, .ref he, .ref hdn, .ref hdw, vI du, vI hv, vI mo, vI oft, vI la, vI pA, vI pB]), (hw, aI ca 5 w), (he, aI ca 5 ea)] := hD.sub [0, 4, 5, 1, 2, 3] (by decide) rfl
            rw [q43_1, hn9] at q51
            have hc54 := cnt_bd hB2 (o := o) (by omega) (by omega)
            refine lv_iload_n hx hb dX7_first_54 rfl (lv_at hl 3 rfl) ?_
            refine ri_l hx hb dX7_first_55 ⟨by omega, by omega⟩ ?_
            refine rj_cmp hx hb dX7_first_56 ⟨by omega, by omega⟩ ⟨by omega, by omega⟩ (fun z56 e56 => ?_)
            refine ri_if_lt (tgt := 62) hx hb dX7_first_57 (by decide) ⟨by omega, by omega⟩ (fun c57 => ?_) (fun c57 => ?_)
            · skip
              have c57 : z51 < x := by omega
              clear e56
              obtain ⟨z62, e62⟩ : ∃ q : Int, q = i + 1 := ⟨_, rfl⟩
              refine ri_inc (lv' := [(3, vI z62), (0, .ref h7), (1, vI o), (2, vI x)]) hx hb dX7_first_62 hl (k := 0) rfl (by decide) z62 e62 rfl (fun ls hl => ?_)
              refine lv_goto (tgt := 28) hx hb dX7_first_65 (by decide) ?_
              exact ih28 z62 ((gs w ea mo (i + 1) bi 4).1) b1_43 n1_43 k1 (by first | assumption | omega) (by omega) (by rw [q43_1, hn9, e62]; exact gt_1) (by intro h9; rw [e62]; exact GB_gs hE hM (GB_up hB2 (by omega)) 4 (by omega)) (by rw [← hvv, fsf_n (by omega), e62]) (by omega) _ _ hP hD hS ls (lv_sub hl [0, 1, 2, 3] rfl)
            · skip
              have c57 : x ≤ z51 := by omega
              clear e56
              refine lv_iload_n hx hb dX7_first_60 rfl (lv_at hl 0 rfl) ?_
              refine zr_I hx hb hr hlk hQ (b1_43, n1_43, 0) hP hD hS dX7_first_61 (Nat.le_of_ble_eq_true rfl) (Nat.le_of_ble_eq_true rfl) ?_
              show i = fsv w ea mo o x
              unfold fsv
              first
              | (rw [if_neg (fun q => by omega)])
              | (rw [if_pos (by omega), ← hvv]
                 first
                 | (rw [fsf_y (by omega)]; done)
                 | (rw [show k = 0 by omega]; rfl))
      exact L28 _ 0 bg (zu (fun _ => 0) 0 1) 0 121 (by first | assumption | omega) (by first | assumption | omega) (by rfl) (by intro _; exact GB_bg) (by rfl) (Nat.lt_succ_self _) _ _ hP hD hS ls (lv_sub hl [0, 1, 2, 3] rfl)
    · skip
      refine lv_iconst (v := Int32.ofInt (-1)) hx hb dX7_first_17 rfl ?_
      refine zr_I hx hb hr hlk hQ (sb, sn, slm) hP hD hS dX7_first_18 (Nat.le_of_ble_eq_true rfl) (Nat.le_of_ble_eq_true rfl) ?_
      show (-1) = fsv w ea mo o x
      unfold fsv
      first
      | (rw [if_neg (fun q => by omega)])
      | (rw [if_pos (by omega), ← hvv]
         first
         | (rw [fsf_y (by omega)]; done)
         | (rw [show k = 0 by omega]; rfl))
set_option maxHeartbeats 4000000 in
set_option maxRecDepth 100000 in
theorem k_X7_mayBe (l : Launch) (g : va_G) (ca : Nat → ClassId) (h7 : Nat) (hd : Nat) (h0 : Nat) (s0 : Nat) (hp : Nat) (hi : Nat) (hc : Nat) (hg : Nat) (hq : Nat) (hz : Nat) (hL : Nat) (hy : Nat) (s1 : Nat) (sb : Int → Int) (sn : Int) (slm : Int) (hw : Nat) (he : Nat) (hdn : Nat) (hdw : Nat) (w : Int → Int) (ea : Int → Int) (du : Int) (hv : Int) (mo : Int) (oft : Int) (la : Int) (pA : Int) (pB : Int) (hgo : Nat) (hgn : Nat) (go : Int → Int) (gn : Int → Int) (to : Int) (x : Int) (hW : GW w) (hE : EAok ea) (hM : 1 ≤ mo ∧ mo ≤ 9) (hG : GRok go gn to) (hx0 : in32 x) : zI (S := (Int → Int) × Int × Int) l yX7_mayBe wsX7_mayBe ({ frames := 4, cells := 0, slots := 0, locals := 98 } : Room) g ca [.ref h7, vI x] [(h7, oB 7 [.ref hd, .ref h0, .ref s0, .ref hp, .ref hi, .ref hc, .ref hg, .ref hq, .ref hz, .ref hL, .ref hy]), (s0, oB 6 [.ref s1, vI sn, vJ slm]), (s1, aJ ca 605 sb), (hL, oB 2 [.ref hw, .ref he, .ref hdn, .ref hdw, vI du, vI hv, vI mo, vI oft, vI la, vI pA, vI pB]), (hw, aI ca 5 w), (he, aI ca 5 ea), (hg, oB 0 [.ref hgo, .ref hgn, vI to]), (hgo, aI ca 5 go), (hgn, aI ca 5 gn)] (fun (z : Int) (u : (Int → Int) × Int × Int) => z = mbv w ea mo go gn to x) (fun (u : (Int → Int) × Int × Int) => [(h7, oB 7 [.ref hd, .ref h0, .ref s0, .ref hp, .ref hi, .ref hc, .ref hg, .ref hq, .ref hz, .ref hL, .ref hy]), (s0, oB 6 [.ref s1, vI u.2.1, vJ u.2.2]), (s1, aJ ca 605 u.1), (hL, oB 2 [.ref hw, .ref he, .ref hdn, .ref hdw, vI du, vI hv, vI mo, vI oft, vI la, vI pA, vI pB]), (hw, aI ca 5 w), (he, aI ca 5 ea), (hg, oB 0 [.ref hgo, .ref hgn, vI to]), (hgo, aI ca 5 go), (hgn, aI ca 5 gn)]) 0 0 := by
  refine zm_I (cc := cX7_mayBe) (maxL := 6) (ret := some .int) (by decide) rfl (Nat.le_of_ble_eq_true rfl) ?_
  intro p e s m below meth c A ls R args Q hR hargs hQ hx hb hml hr hts hown hlk hnm hK hP hD hA hS hl
  have hown : s.vm.findClass RX7 = some m.cls := hown
  have hl : lv_has ls 6 [(0, .ref h7), (1, vI x)] := hl
  have lk_f23 : (Cond.fieldLink RX7 23 "DripRings" "scratch" "LDripRings$Rings;").before args s = true := hts _ (by decide +kernel)
  have inF_X7 : ∀ w ∈ wsX70, w ∈ wsX7_mayBe := by decide +kernel
  have lk_f65 : (Cond.fieldLink RX7 65 "DripRings" "law" "LDripRings$Law;").before args s = true := hts _ (by decide +kernel)
  have lk_f44 : (Cond.fieldLink RX7 44 "DripRings" "grave" "LDripRings$Grave;").before args s = true := hts _ (by decide +kernel)
  refine lv_iload_n hx hb dX7_mayBe_0 rfl (lv_at hl 1 rfl) ?_
  refine lv_iconst (v := Int32.ofInt 0) hx hb dX7_mayBe_1 rfl ?_
  refine lv_iconst (v := Int32.ofInt 2) hx hb dX7_mayBe_2 rfl ?_
  refine zc_SI (As := [vI x, vI 0, vI 2]) (rest := []) (wc := []) (wr := [(h7, oB 7 [.ref hd, .ref h0, .ref s0, .ref hp, .ref hi, .ref hc, .ref hg, .ref hq, .ref hz, .ref hL, .ref hy]), (s0, oB 6 [.ref s1, vI sn, vJ slm]), (s1, aJ ca 605 sb), (hL, oB 2 [.ref hw, .ref he, .ref hdn, .ref hdw, vI du, vI hv, vI mo, vI oft, vI la, vI pA, vI pB]), (hw, aI ca 5 w), (he, aI ca 5 ea), (hg, oB 0 [.ref hgo, .ref hgn, vI to]), (hgo, aI ca 5 go), (hgn, aI ca 5 gn)]) (k_X7_isOutside l g ca x 0 2 (by exact hx0) (by exact ⟨by omega, by omega⟩) (by exact ⟨by omega, by omega⟩)) dX7_mayBe_3 (va_cwS 3 hts gX7_mayBe_X7_isOutside rfl rfl rfl (by decide +kernel) (by rw [hR]; exact ⟨Nat.le_of_ble_eq_true rfl, Nat.le_of_ble_eq_true rfl⟩)) ⟨hx, hb, hml, hown, hts⟩ hl.1 hK hP hD hS hA [] [0, 1, 2, 3, 4, 5, 6, 7, 8] rfl (by decide) rfl (by decide) (by decide) rfl rfl (Nat.le_of_ble_eq_true rfl) (by rw [hR]; exact ⟨Nat.le_of_ble_eq_true rfl, Nat.le_of_ble_eq_true rfl⟩) (fun z3 u H locs q3 hP hD hS => ?_)
  have q3 : (z3 = 1 ∧ ¬ (0 ≤ x ∧ x ≤ 2)) ∨ (z3 = 0 ∧ 0 ≤ x ∧ x ≤ 2) := q3
  have hP : va_P g vwCl [(h7, oB 7 [.ref hd, .ref h0, .ref s0, .ref hp, .ref hi, .ref hc, .ref hg, .ref hq, .ref hz, .ref hL, .ref hy]), (s0, oB 6 [.ref s1, vI sn, vJ slm]), (s1, aJ ca 605 sb), (hL, oB 2 [.ref hw, .ref he, .ref hdn, .ref hdw, vI du, vI hv, vI mo, vI oft, vI la, vI pA, vI pB]), (hw, aI ca 5 w), (he, aI ca 5 ea), (hg, oB 0 [.ref hgo, .ref hgn, vI to]), (hgo, aI ca 5 go), (hgn, aI ca 5 gn)] H := hP.sub [0, 1, 2, 3, 4, 5, 6, 7, 8] rfl
  have hD : va_D A [(h7, oB 7 [.ref hd, .ref h0, .ref s0, .ref hp, .ref hi, .ref hc, .ref hg, .ref hq, .ref hz, .ref hL, .ref hy]), (s0, oB 6 [.ref s1, vI sn, vJ slm]), (s1, aJ ca 605 sb), (hL, oB 2 [.ref hw, .ref he, .ref hdn, .ref hdw, vI du, vI hv, vI mo, vI oft, vI la, vI pA, vI pB]), (hw, aI ca 5 w), (he, aI ca 5 ea), (hg, oB 0 [.ref hgo, .ref hgn, vI to]), (hgo, aI ca 5 go), (hgn, aI ca 5 gn)] := hD.sub [0, 1, 2, 3, 4, 5, 6, 7, 8] (by decide) rfl
  refine ri_if_eq (tgt := 11) hx hb dX7_mayBe_6 (by decide) ⟨by omega, by omega⟩ (fun c6 => ?_) (fun c6 => ?_)
  · skip
    refine lv_iconst (v := Int32.ofInt 0) hx hb dX7_mayBe_11 rfl ?_
    refine lv_istore_n (lv' := [(2, vI 0), (0, .ref h7), (1, vI x)]) hx hb dX7_mayBe_12 rfl hl (by decide) rfl (fun ls hl => ?_)
    refine lv_bipush (v := Int32.ofInt (-9)) hx hb dX7_mayBe_13 (by decide) ?_
    refine lv_istore_n (lv' := [(3, vI (-9)), (2, vI 0), (0, .ref h7), (1, vI x)]) hx hb dX7_mayBe_15 rfl hl (by decide) rfl (fun ls hl => ?_)
    refine lv_bipush (v := Int32.ofInt (-9)) hx hb dX7_mayBe_16 (by decide) ?_
    refine lv_istore (lv' := [(4, vI (-9)), (3, vI (-9)), (2, vI 0), (0, .ref h7), (1, vI x)]) hx hb dX7_mayBe_18 hl (by decide) rfl (fun ls hl => ?_)
    refine lv_aload_n hx hb dX7_mayBe_20 rfl (lv_at hl 3 rfl) ?_
    refine va_get (D := g) (ci := 7) (v := .ref s0) (C := RX7) (T := TX7) (N := 11) hx hb hts inF_X7 hown hK.1 hP 0 rfl rfl 2 (by decide) lk_f23 (fun _ h9 => h9) rfl dX7_mayBe_21 ?_
    refine zc_VV (As := []) (rest := []) (wc := [(s0, oB 6 [.ref s1, vI sn, vJ slm]), (s1, aJ ca 605 sb)]) (wr := [(h7, oB 7 [.ref hd, .ref h0, .ref s0, .ref hp, .ref hi, .ref hc, .ref hg, .ref hq, .ref hz, .ref hL, .ref hy]), (hL, oB 2 [.ref hw, .ref he, .ref hdn, .ref hdw, vI du, vI hv, vI mo, vI oft, vI la, vI pA, vI pB]), (hw, aI ca 5 w), (he, aI ca 5 ea), (hg, oB 0 [.ref hgo, .ref hgn, vI to]), (hgo, aI ca 5 go), (hgn, aI ca 5 gn)]) (k_X6_startAnew l g ca s0 s1 sb sn slm ) dX7_mayBe_24 (cwV 0 hts gX7_mayBe_X6_startAnew rfl rfl rfl (by decide +kernel) (by rw [hR]; exact ⟨Nat.le_of_ble_eq_true rfl, Nat.le_of_ble_eq_true rfl⟩)) ⟨hx, hb, hml, hown, hts⟩ hl.1 hK hP hD hS hA 1 rfl rfl rfl [1, 2] [0, 3, 4, 5, 6, 7, 8] rfl (by decide) rfl (by decide) (by decide) rfl rfl (Nat.le_of_ble_eq_true rfl) (by rw [hR]; exact ⟨Nat.le_of_ble_eq_true rfl, Nat.le_of_ble_eq_true rfl⟩) (fun u H locs q24 hP hD hS => ?_)
    have hP : va_P g vwCl [(h7, oB 7 [.ref hd, .ref h0, .ref s0, .ref hp, .ref hi, .ref hc, .ref hg, .ref hq, .ref hz, .ref hL, .ref hy]), (s0, oB 6 [.ref s1, vI 0, vJ 0]), (s1, aJ ca 605 (zu (fun _ => 0) 0 1)), (hL, oB 2 [.ref hw, .ref he, .ref hdn, .ref hdw, vI du, vI hv, vI mo, vI oft, vI la, vI pA, vI pB]), (hw, aI ca 5 w), (he, aI ca 5 ea), (hg, oB 0 [.ref hgo, .ref hgn, vI to]), (hgo, aI ca 5 go), (hgn, aI ca 5 gn)] H := hP.sub [0, 7, 8, 1, 2, 3, 4, 5, 6] rfl
    have hD : va_D A [(h7, oB 7 [.ref hd, .ref h0, .ref s0, .ref hp, .ref hi, .ref hc, .ref hg, .ref hq, .ref hz, .ref hL, .ref hy]), (s0, oB 6 [.ref s1, vI 0, vJ 0]), (s1, aJ ca 605 (zu (fun _ => 0) 0 1)), (hL, oB 2 [.ref hw, .ref he, .ref hdn, .ref hdw, vI du, vI hv, vI mo, vI oft, vI la, vI pA, vI pB]), (hw, aI ca 5 w), (he, aI ca 5 ea), (hg, oB 0 [.ref hgo, .ref hgn, vI to]), (hgo, aI ca 5 go), (hgn, aI ca 5 gn)] := hD.sub [0, 7, 8, 1, 2, 3, 4, 5, 6] (by decide) rfl
    refine lv_iconst (v := Int32.ofInt 0) hx hb dX7_mayBe_27 rfl ?_
    refine lv_istore (lv' := [(5, vI 0), (4, vI (-9)), (3, vI (-9)), (2, vI 0), (0, .ref h7), (1, vI x)]) hx hb dX7_mayBe_28 hl (by decide) rfl (fun ls hl => ?_)
    have L30 : ∀ (N30 : Nat) (i : Int) (y : Int) (y1 : Int) (y2 : Int) (f : Int → Int) (sn2 : Int) (hii : 0 ≤ i ∧ i ≤ 121) (hs : 0 ≤ sn2 ∧ sn2 ≤ i ∧ sn2 ≤ 120) (hgt : gt w ea mo sn2 f (i - sn2).toNat = gt w ea mo 0 bg i.toNat) (hm3 : mbf w ea mo go gn to i.toNat = (y, y1, y2)) (hyb : 0 ≤ y ∧ y ≤ i ∧ -9 ≤ y1 ∧ y1 ≤ 120 ∧ -9 ≤ y2 ∧ y2 ≤ 120) (hμ : (121 - i).toNat < N30) (H : Heap) (locs : List Loc) (hP : va_P g vwCl [(h7, oB 7 [.ref hd, .ref h0, .ref s0, .ref hp, .ref hi, .ref hc, .ref hg, .ref hq, .ref hz, .ref hL, .ref hy]), (s0, oB 6 [.ref s1, vI sn2, vJ 0]), (s1, aJ ca 605 f), (hL, oB 2 [.ref hw, .ref he, .ref hdn, .ref hdw, vI du, vI hv, vI mo, vI oft, vI la, vI pA, vI pB]), (hw, aI ca 5 w), (he, aI ca 5 ea), (hg, oB 0 [.ref hgo, .ref hgn, vI to]), (hgo, aI ca 5 go), (hgn, aI ca 5 gn)] H) (hD : va_D A [(h7, oB 7 [.ref hd, .ref h0, .ref s0, .ref hp, .ref hi, .ref hc, .ref hg, .ref hq, .ref hz, .ref hL, .ref hy]), (s0, oB 6 [.ref s1, vI sn2, vJ 0]), (s1, aJ ca 605 f), (hL, oB 2 [.ref hw, .ref he, .ref hdn, .ref hdw, vI du, vI hv, vI mo, vI oft, vI la, vI pA, vI pB]), (hw, aI ca 5 w), (he, aI ca 5 ea), (hg, oB 0 [.ref hgo, .ref hgn, vI to]), (hgo, aI ca 5 go), (hgn, aI ca 5 gn)]) (hS : va_S A s.heap H locs) (ls : Array Slot) (hl : lv_has ls 6 [(5, vI i), (4, vI y2), (3, vI y1), (2, vI y), (0, .ref h7), (1, vI x)]), W p l e R s m args below meth c H locs 0 0 Q (F0 m 30 ls []) := by
      intro N30; induction N30 with
      | zero => intro i y y1 y2 f sn2 hii hs hgt hm3 hyb hμ; exact absurd hμ (Nat.not_lt_zero _)
      | succ N30 ih30 =>
        intro i y y1 y2 f sn2 hii hs hgt hm3 hyb hμ H locs hP hD hS ls hl
        refine lv_iload hx hb dX7_mayBe_30 (lv_at hl 0 rfl) ?_
        refine lv_bipush (v := Int32.ofInt 120) hx hb dX7_mayBe_32 (by decide) ?_
        refine ri_icmp_gt (tgt := 88) hx hb dX7_mayBe_34 (by decide) ⟨by omega, by omega⟩ ⟨by omega, by omega⟩ (fun c34 => ?_) (fun c34 => ?_)
        · skip
          refine lv_iload_n hx hb dX7_mayBe_88 rfl (lv_at hl 5 rfl) ?_
          refine ri_if_ne (tgt := 94) hx hb dX7_mayBe_89 (by decide) hx0 (fun c89 => ?_) (fun c89 => ?_)
          · skip
            refine lv_iload_n hx hb dX7_mayBe_94 rfl (lv_at hl 5 rfl) ?_
            refine lv_iconst (v := Int32.ofInt 1) hx hb dX7_mayBe_95 rfl ?_
            refine ri_icmp_ne (tgt := 103) hx hb dX7_mayBe_96 (by decide) hx0 ⟨by omega, by omega⟩ (fun c96 => ?_) (fun c96 => ?_)
            · skip
              refine lv_iload hx hb dX7_mayBe_103 (lv_at hl 1 rfl) ?_
              refine zr_I hx hb hr hlk hQ (f, sn2, 0) hP hD hS dX7_mayBe_105 (Nat.le_of_ble_eq_true rfl) (Nat.le_of_ble_eq_true rfl) ?_
              show y2 = mbv w ea mo go gn to x
              unfold mbv
              first
              | (rw [if_neg (by omega), if_neg (by omega), if_neg (by omega)])
              | (rw [show i = 121 by omega] at hm3
                 have hm4 : mbf w ea mo go gn to 121 = (y, y1, y2) := hm3
                 rw [hm4]
                 first
                 | exact (if_pos (by omega)).symm
                 | exact ((if_neg (by omega)).trans (if_pos (by omega))).symm
                 | exact ((if_neg (by omega)).trans ((if_neg (by omega)).trans (if_pos (by omega)))).symm)
            · skip
              refine lv_iload_n hx hb dX7_mayBe_99 rfl (lv_at hl 2 rfl) ?_
              refine lv_goto (tgt := 105) hx hb dX7_mayBe_100 (by decide) ?_
              refine zr_I hx hb hr hlk hQ (f, sn2, 0) hP hD hS dX7_mayBe_105 (Nat.le_of_ble_eq_true rfl) (Nat.le_of_ble_eq_true rfl) ?_
              show y1 = mbv w ea mo go gn to x
              unfold mbv
              first
              | (rw [if_neg (by omega), if_neg (by omega), if_neg (by omega)])
              | (rw [show i = 121 by omega] at hm3
                 have hm4 : mbf w ea mo go gn to 121 = (y, y1, y2) := hm3
                 rw [hm4]
                 first
                 | exact (if_pos (by omega)).symm
                 | exact ((if_neg (by omega)).trans (if_pos (by omega))).symm
                 | exact ((if_neg (by omega)).trans ((if_neg (by omega)).trans (if_pos (by omega)))).symm)
          · skip
            refine lv_iload_n hx hb dX7_mayBe_92 rfl (lv_at hl 3 rfl) ?_
            refine zr_I hx hb hr hlk hQ (f, sn2, 0) hP hD hS dX7_mayBe_93 (Nat.le_of_ble_eq_true rfl) (Nat.le_of_ble_eq_true rfl) ?_
            show y = mbv w ea mo go gn to x
            unfold mbv
            first
            | (rw [if_neg (by omega), if_neg (by omega), if_neg (by omega)])
            | (rw [show i = 121 by omega] at hm3
               have hm4 : mbf w ea mo go gn to 121 = (y, y1, y2) := hm3
               rw [hm4]
               first
               | exact (if_pos (by omega)).symm
               | exact ((if_neg (by omega)).trans (if_pos (by omega))).symm
               | exact ((if_neg (by omega)).trans ((if_neg (by omega)).trans (if_pos (by omega)))).symm)
        · skip
          have hGB2 := GB_gt (w := w) hE hM GB_bg i.toNat (by omega)
          rw [show (0 : Int) + (i.toNat : Int) = i by omega] at hGB2
          refine lv_aload_n hx hb dX7_mayBe_37 rfl (lv_at hl 4 rfl) ?_
          refine va_get (D := g) (ci := 7) (v := .ref s0) (C := RX7) (T := TX7) (N := 11) hx hb hts inF_X7 hown hK.1 hP 0 rfl rfl 2 (by decide) lk_f23 (fun _ h9 => h9) rfl dX7_mayBe_38 ?_
          refine lv_iload hx hb dX7_mayBe_41 (lv_at hl 0 rfl) ?_
          refine lv_aload_n hx hb dX7_mayBe_43 rfl (lv_at hl 4 rfl) ?_
          refine va_get (D := g) (ci := 7) (v := .ref hL) (C := RX7) (T := TX7) (N := 11) hx hb hts inF_X7 hown hK.1 hP 0 rfl rfl 9 (by decide) lk_f65 (fun _ h9 => h9) rfl dX7_mayBe_44 ?_
          refine zc_VV (As := [vI i, .ref hL]) (rest := []) (wc := [(s0, oB 6 [.ref s1, vI sn2, vJ 0]), (s1, aJ ca 605 f), (hL, oB 2 [.ref hw, .ref he, .ref hdn, .ref hdw, vI du, vI hv, vI mo, vI oft, vI la, vI pA, vI pB]), (hw, aI ca 5 w), (he, aI ca 5 ea)]) (wr := [(h7, oB 7 [.ref hd, .ref h0, .ref s0, .ref hp, .ref hi, .ref hc, .ref hg, .ref hq, .ref hz, .ref hL, .ref hy]), (hg, oB 0 [.ref hgo, .ref hgn, vI to]), (hgo, aI ca 5 go), (hgn, aI ca 5 gn)]) (k_X6_passTo l g ca s0 s1 f sn2 0 hL hw he hdn hdw w ea du hv mo oft la pA pB i (by first | assumption | omega) (by first | assumption | omega) (by first | assumption | omega) (by first | assumption | omega) (by first | assumption | omega)) dX7_mayBe_47 (cwV 2 hts gX7_mayBe_X6_passTo rfl rfl rfl (by decide +kernel) (by rw [hR]; exact ⟨Nat.le_of_ble_eq_true rfl, Nat.le_of_ble_eq_true rfl⟩)) ⟨hx, hb, hml, hown, hts⟩ hl.1 hK hP hD hS hA 1 rfl rfl rfl [1, 2, 3, 4, 5] [0, 6, 7, 8] rfl (by decide) rfl (by decide) (by decide) rfl rfl (Nat.le_of_ble_eq_true rfl) (by rw [hR]; exact ⟨Nat.le_of_ble_eq_true rfl, Nat.le_of_ble_eq_true rfl⟩) (fun u H locs q47 hP hD hS => ?_)
          obtain ⟨n1_47, b1_47⟩ := u
          have q47 : n1_47 = (if sn2 < i then i else sn2) ∧ b1_47 = gt w ea mo sn2 f (i - sn2).toNat := q47
          obtain ⟨q47_0, q47_1⟩ := q47
          have hP : va_P g vwCl [(h7, oB 7 [.ref hd, .ref h0, .ref s0, .ref hp, .ref hi, .ref hc, .ref hg, .ref hq, .ref hz, .ref hL, .ref hy]), (s0, oB 6 [.ref s1, vI n1_47, vJ 0]), (s1, aJ ca 605 b1_47), (hL, oB 2 [.ref hw, .ref he, .ref hdn, .ref hdw, vI du, vI hv, vI mo, vI oft, vI la, vI pA, vI pB]), (hw, aI ca 5 w), (he, aI ca 5 ea), (hg, oB 0 [.ref hgo, .ref hgn, vI to]), (hgo, aI ca 5 go), (hgn, aI ca 5 gn)] H := hP.sub [0, 4, 5, 6, 7, 8, 1, 2, 3] rfl
          have hD : va_D A [(h7, oB 7 [.ref hd, .ref h0, .ref s0, .ref hp, .ref hi, .ref hc, .ref hg, .ref hq, .ref hz, .ref hL, .ref hy]), (s0, oB 6 [.ref s1, vI n1_47, vJ 0]), (s1, aJ ca 605 b1_47), (hL, oB 2 [.ref hw, .ref he, .ref hdn, .ref hdw, vI du, vI hv, vI mo, vI oft, vI la, vI pA, vI pB]), (hw, aI ca 5 w), (he, aI ca 5 ea), (hg, oB 0 [.ref hgo, .ref hgn, vI to]), (hgo, aI ca 5 go), (hgn, aI ca 5 gn)] := hD.sub [0, 4, 5, 6, 7, 8, 1, 2, 3] (by decide) rfl
          have hn9 : n1_47 = i := by rw [q47_0]; split <;> omega
          rw [hgt] at q47_1
          refine lv_aload_n hx hb dX7_mayBe_50 rfl (lv_at hl 4 rfl) ?_
          refine va_get (D := g) (ci := 7) (v := .ref hg) (C := RX7) (T := TX7) (N := 11) hx hb hts inF_X7 hown hK.1 hP 0 rfl rfl 6 (by decide) lk_f44 (fun _ h9 => h9) rfl dX7_mayBe_51 ?_
          refine lv_aload_n hx hb dX7_mayBe_54 rfl (lv_at hl 4 rfl) ?_
          refine va_get (D := g) (ci := 7) (v := .ref s0) (C := RX7) (T := TX7) (N := 11) hx hb hts inF_X7 hown hK.1 hP 0 rfl rfl 2 (by decide) lk_f23 (fun _ h9 => h9) rfl dX7_mayBe_55 ?_
          refine zc_VI (As := [.ref s0]) (rest := []) (wc := [(hg, oB 0 [.ref hgo, .ref hgn, vI to]), (hgo, aI ca 5 go), (hgn, aI ca 5 gn), (s0, oB 6 [.ref s1, vI n1_47, vJ 0]), (s1, aJ ca 605 b1_47)]) (wr := [(h7, oB 7 [.ref hd, .ref h0, .ref s0, .ref hp, .ref hi, .ref hc, .ref hg, .ref hq, .ref hz, .ref hL, .ref hy]), (hL, oB 2 [.ref hw, .ref he, .ref hdn, .ref hdw, vI du, vI hv, vI mo, vI oft, vI la, vI pA, vI pB]), (hw, aI ca 5 w), (he, aI ca 5 ea)]) (k_X0_fits l g ca hg hgo hgn go gn to s0 s1 b1_47 n1_47 0 (by first | assumption | omega) (by rw [q47_1, hn9]; exact hGB2)) dX7_mayBe_58 (cwV 1 hts gX7_mayBe_X0_fits rfl rfl rfl (by decide +kernel) (by rw [hR]; exact ⟨Nat.le_of_ble_eq_true rfl, Nat.le_of_ble_eq_true rfl⟩)) ⟨hx, hb, hml, hown, hts⟩ hl.1 hK hP hD hS hA 6 rfl rfl rfl [6, 7, 8, 1, 2] [0, 3, 4, 5] rfl (by decide) rfl (by decide) (by decide) rfl rfl (Nat.le_of_ble_eq_true rfl) (by rw [hR]; exact ⟨Nat.le_of_ble_eq_true rfl, Nat.le_of_ble_eq_true rfl⟩) (fun z58 u H locs q58 hP hD hS => ?_)
          have q58 : (z58 = 1 ∧ grk b1_47 n1_47 go gn to) ∨ (z58 = 0 ∧ ¬ grk b1_47 n1_47 go gn to) := q58
          have hP : va_P g vwCl [(h7, oB 7 [.ref hd, .ref h0, .ref s0, .ref hp, .ref hi, .ref hc, .ref hg, .ref hq, .ref hz, .ref hL, .ref hy]), (s0, oB 6 [.ref s1, vI n1_47, vJ 0]), (s1, aJ ca 605 b1_47), (hL, oB 2 [.ref hw, .ref he, .ref hdn, .ref hdw, vI du, vI hv, vI mo, vI oft, vI la, vI pA, vI pB]), (hw, aI ca 5 w), (he, aI ca 5 ea), (hg, oB 0 [.ref hgo, .ref hgn, vI to]), (hgo, aI ca 5 go), (hgn, aI ca 5 gn)] H := hP.sub [0, 7, 8, 1, 2, 3, 4, 5, 6] rfl
          have hD : va_D A [(h7, oB 7 [.ref hd, .ref h0, .ref s0, .ref hp, .ref hi, .ref hc, .ref hg, .ref hq, .ref hz, .ref hL, .ref hy]), (s0, oB 6 [.ref s1, vI n1_47, vJ 0]), (s1, aJ ca 605 b1_47), (hL, oB 2 [.ref hw, .ref he, .ref hdn, .ref hdw, vI du, vI hv, vI mo, vI oft, vI la, vI pA, vI pB]), (hw, aI ca 5 w), (he, aI ca 5 ea), (hg, oB 0 [.ref hgo, .ref hgn, vI to]), (hgo, aI ca 5 go), (hgn, aI ca 5 gn)] := hD.sub [0, 7, 8, 1, 2, 3, 4, 5, 6] (by decide) rfl
          rw [q47_1, hn9] at q58
          refine ri_if_eq (tgt := 82) hx hb dX7_mayBe_61 (by decide) ⟨by omega, by omega⟩ (fun c61 => ?_) (fun c61 => ?_)
          · skip
            obtain ⟨z82, e82⟩ : ∃ q : Int, q = i + 1 := ⟨_, rfl⟩
            refine ri_inc (lv' := [(5, vI z82), (4, vI y2), (3, vI y1), (2, vI y), (0, .ref h7), (1, vI x)]) hx hb dX7_mayBe_82 hl (k := 0) rfl (by decide) z82 e82 rfl (fun ls hl => ?_)
            refine lv_goto (tgt := 30) hx hb dX7_mayBe_85 (by decide) ?_
            exact ih30 z82 y y1 y2 b1_47 n1_47 (by first | assumption | omega) (by omega) (by rw [q47_1, hn9, e82, gt_1, gt_s _ _ _ _ _ (by omega), Int.zero_add]) (by
                  rw [e82]
                  first
                  | (rw [mbf_y hii.1 hg0, hm3, e79]
                     first
                     | (rw [if_pos (by omega)]; done)
                     | (rw [if_neg (by omega)]; done))
                  | (rw [mbf_n hii.1 (by rcases q58 with q9 | q9; omega; exact q9.2)]; exact hm3)) (by first | assumption | omega) (by omega) _ _ hP hD hS ls (lv_sub hl [0, 1, 2, 3, 4, 5] rfl)
          · skip
            have hg0 : grk (gt w ea mo 0 bg i.toNat) i go gn to := by
              rcases q58 with q9 | q9
              · exact q9.2
              · omega
            refine lv_iload_n hx hb dX7_mayBe_64 rfl (lv_at hl 3 rfl) ?_
            refine ri_if_ne (tgt := 73) hx hb dX7_mayBe_65 (by decide) ⟨by omega, by omega⟩ (fun c65 => ?_) (fun c65 => ?_)
            · skip
              refine lv_iload_n hx hb dX7_mayBe_73 rfl (lv_at hl 2 rfl) ?_
              refine lv_istore_n (lv' := [(3, vI y1), (5, vI i), (4, vI y2), (2, vI y), (0, .ref h7), (1, vI x)]) hx hb dX7_mayBe_74 rfl hl (by decide) rfl (fun ls hl => ?_)
              refine lv_iload hx hb dX7_mayBe_75 (lv_at hl 1 rfl) ?_
              refine lv_istore (lv' := [(4, vI i), (3, vI y1), (5, vI i), (2, vI y), (0, .ref h7), (1, vI x)]) hx hb dX7_mayBe_77 hl (by decide) rfl (fun ls hl => ?_)
              obtain ⟨z79, e79⟩ : ∃ q : Int, q = y + 1 := ⟨_, rfl⟩
              refine ri_inc (lv' := [(2, vI z79), (4, vI i), (3, vI y1), (5, vI i), (0, .ref h7), (1, vI x)]) hx hb dX7_mayBe_79 hl (k := 3) rfl (by decide) z79 e79 rfl (fun ls hl => ?_)
              obtain ⟨z82, e82⟩ : ∃ q : Int, q = i + 1 := ⟨_, rfl⟩
              refine ri_inc (lv' := [(5, vI z82), (2, vI z79), (4, vI i), (3, vI y1), (0, .ref h7), (1, vI x)]) hx hb dX7_mayBe_82 hl (k := 3) rfl (by decide) z82 e82 rfl (fun ls hl => ?_)
              refine lv_goto (tgt := 30) hx hb dX7_mayBe_85 (by decide) ?_
              exact ih30 z82 z79 y1 i b1_47 n1_47 (by first | assumption | omega) (by omega) (by rw [q47_1, hn9, e82, gt_1, gt_s _ _ _ _ _ (by omega), Int.zero_add]) (by
                    rw [e82]
                    first
                    | (rw [mbf_y hii.1 hg0, hm3, e79]
                       first
                       | (rw [if_pos (by omega)]; done)
                       | (rw [if_neg (by omega)]; done))
                    | (rw [mbf_n hii.1 (by rcases q58 with q9 | q9; omega; exact q9.2)]; exact hm3)) (by first | assumption | omega) (by omega) _ _ hP hD hS ls (lv_sub hl [0, 2, 3, 1, 4, 5] rfl)
            · skip
              refine lv_iload hx hb dX7_mayBe_68 (lv_at hl 0 rfl) ?_
              refine lv_goto (tgt := 74) hx hb dX7_mayBe_70 (by decide) ?_
              refine lv_istore_n (lv' := [(3, vI i), (5, vI i), (4, vI y2), (2, vI y), (0, .ref h7), (1, vI x)]) hx hb dX7_mayBe_74 rfl hl (by decide) rfl (fun ls hl => ?_)
              refine lv_iload hx hb dX7_mayBe_75 (lv_at hl 1 rfl) ?_
              refine lv_istore (lv' := [(4, vI i), (3, vI i), (5, vI i), (2, vI y), (0, .ref h7), (1, vI x)]) hx hb dX7_mayBe_77 hl (by decide) rfl (fun ls hl => ?_)
              obtain ⟨z79, e79⟩ : ∃ q : Int, q = y + 1 := ⟨_, rfl⟩
              refine ri_inc (lv' := [(2, vI z79), (4, vI i), (3, vI i), (5, vI i), (0, .ref h7), (1, vI x)]) hx hb dX7_mayBe_79 hl (k := 3) rfl (by decide) z79 e79 rfl (fun ls hl => ?_)
              obtain ⟨z82, e82⟩ : ∃ q : Int, q = i + 1 := ⟨_, rfl⟩
              refine ri_inc (lv' := [(5, vI z82), (2, vI z79), (4, vI i), (3, vI i), (0, .ref h7), (1, vI x)]) hx hb dX7_mayBe_82 hl (k := 3) rfl (by decide) z82 e82 rfl (fun ls hl => ?_)
              refine lv_goto (tgt := 30) hx hb dX7_mayBe_85 (by decide) ?_
              exact ih30 z82 z79 i i b1_47 n1_47 (by first | assumption | omega) (by omega) (by rw [q47_1, hn9, e82, gt_1, gt_s _ _ _ _ _ (by omega), Int.zero_add]) (by
                    rw [e82]
                    first
                    | (rw [mbf_y hii.1 hg0, hm3, e79]
                       first
                       | (rw [if_pos (by omega)]; done)
                       | (rw [if_neg (by omega)]; done))
                    | (rw [mbf_n hii.1 (by rcases q58 with q9 | q9; omega; exact q9.2)]; exact hm3)) (by first | assumption | omega) (by omega) _ _ hP hD hS ls (lv_sub hl [0, 2, 3, 1, 4, 5] rfl)
    exact L30 _ 0 0 (-9) (-9) (zu (fun _ => 0) 0 1) 0 (by first | assumption | omega) (by first | assumption | omega) (by rfl) (by rfl) (by first | assumption | omega) (Nat.lt_succ_self _) _ _ hP hD hS ls (lv_sub hl [0, 1, 2, 3, 4, 5] rfl)
  · skip
    refine lv_iconst (v := Int32.ofInt (-1)) hx hb dX7_mayBe_9 rfl ?_
    refine zr_I hx hb hr hlk hQ (sb, sn, slm) hP hD hS dX7_mayBe_10 (Nat.le_of_ble_eq_true rfl) (Nat.le_of_ble_eq_true rfl) ?_
    show (-1) = mbv w ea mo go gn to x
    unfold mbv
    first
    | (rw [if_neg (by omega), if_neg (by omega), if_neg (by omega)])
    | (rw [show i = 121 by omega] at hm3
       have hm4 : mbf w ea mo go gn to 121 = (y, y1, y2) := hm3
       rw [hm4]
       first
       | exact (if_pos (by omega)).symm
       | exact ((if_neg (by omega)).trans (if_pos (by omega))).symm
       | exact ((if_neg (by omega)).trans ((if_neg (by omega)).trans (if_pos (by omega)))).symm)
set_option maxHeartbeats 4000000 in
set_option maxRecDepth 100000 in
theorem k_X7_smelt (l : Launch) (g : va_G) (ca : Nat → ClassId) (h7 : Nat) (hd : Nat) (h0 : Nat) (s0 : Nat) (hp : Nat) (hi : Nat) (hc : Nat) (hg : Nat) (hq : Nat) (hz : Nat) (hL : Nat) (hy : Nat) (h1 : Nat) (b : Int → Int) (n : Int) (lm : Int) (s1 : Nat) (sb : Int → Int) (sn : Int) (slm : Int) (hw : Nat) (he : Nat) (hdn : Nat) (hdw : Nat) (w : Int → Int) (ea : Int → Int) (du : Int) (hv : Int) (mo : Int) (oft : Int) (la : Int) (pA : Int) (pB : Int) (t0 : Int) (x : Int) (hB : GB b n) (hLM : LMok lm) (hW : GW w) (hE : EAok ea) (hM : 1 ≤ mo ∧ mo ≤ 9) (hx0 : in32 t0) (hx1 : in32 x) : zI (S := (Int → Int) × Int × Int) l yX7_smelt wsX7_smelt ({ frames := 4, cells := 0, slots := 0, locals := 98 } : Room) g ca [.ref h7, vI t0, vI x] [(h7, oB 7 [.ref hd, .ref h0, .ref s0, .ref hp, .ref hi, .ref hc, .ref hg, .ref hq, .ref hz, .ref hL, .ref hy]), (h0, oB 6 [.ref h1, vI n, vJ lm]), (h1, aJ ca 605 b), (s0, oB 6 [.ref s1, vI sn, vJ slm]), (s1, aJ ca 605 sb), (hL, oB 2 [.ref hw, .ref he, .ref hdn, .ref hdw, vI du, vI hv, vI mo, vI oft, vI la, vI pA, vI pB]), (hw, aI ca 5 w), (he, aI ca 5 ea)] (fun (z : Int) (u : (Int → Int) × Int × Int) => z = smv w ea b mo n lm t0 x) (fun (u : (Int → Int) × Int × Int) => [(h7, oB 7 [.ref hd, .ref h0, .ref s0, .ref hp, .ref hi, .ref hc, .ref hg, .ref hq, .ref hz, .ref hL, .ref hy]), (h0, oB 6 [.ref h1, vI n, vJ lm]), (h1, aJ ca 605 b), (s0, oB 6 [.ref s1, vI u.2.1, vJ u.2.2]), (s1, aJ ca 605 u.1), (hL, oB 2 [.ref hw, .ref he, .ref hdn, .ref hdw, vI du, vI hv, vI mo, vI oft, vI la, vI pA, vI pB]), (hw, aI ca 5 w), (he, aI ca 5 ea)]) 0 0 := by
  refine zm_I (cc := cX7_smelt) (maxL := 4) (ret := some .int) (by decide) rfl (Nat.le_of_ble_eq_true rfl) ?_
  intro p e s m below meth c A ls R args Q hR hargs hQ hx hb hml hr hts hown hlk hnm hK hP hD hA hS hl
  have hown : s.vm.findClass RX7 = some m.cls := hown
  have hl : lv_has ls 4 [(0, .ref h7), (1, vI t0), (2, vI x)] := hl
  have lk_c177 : (Cond.constant RX7 177 (1000000000)).before args s = true := hts _ (by decide +kernel)
  have lk_f23 : (Cond.fieldLink RX7 23 "DripRings" "scratch" "LDripRings$Rings;").before args s = true := hts _ (by decide +kernel)
  have inF_X7 : ∀ w ∈ wsX70, w ∈ wsX7_smelt := by decide +kernel
  have lk_f19 : (Cond.fieldLink RX7 19 "DripRings" "rings" "LDripRings$Rings;").before args s = true := hts _ (by decide +kernel)
  have lk_f65 : (Cond.fieldLink RX7 65 "DripRings" "law" "LDripRings$Law;").before args s = true := hts _ (by decide +kernel)
  have hn0 := hB.1
  obtain ⟨hlm1, hlm2⟩ := hLM
  refine lv_aload_n hx hb dX7_smelt_0 rfl (lv_at hl 0 rfl) ?_
  refine lv_iload_n hx hb dX7_smelt_1 rfl (lv_at hl 1 rfl) ?_
  refine zc_VI (As := [vI t0]) (rest := []) (wc := [(h7, oB 7 [.ref hd, .ref h0, .ref s0, .ref hp, .ref hi, .ref hc, .ref hg, .ref hq, .ref hz, .ref hL, .ref hy]), (h0, oB 6 [.ref h1, vI n, vJ lm]), (h1, aJ ca 605 b)]) (wr := [(s0, oB 6 [.ref s1, vI sn, vJ slm]), (s1, aJ ca 605 sb), (hL, oB 2 [.ref hw, .ref he, .ref hdn, .ref hdw, vI du, vI hv, vI mo, vI oft, vI la, vI pA, vI pB]), (hw, aI ca 5 w), (he, aI ca 5 ea)]) (k_X7_isNotToCome l g ca h7 hd h0 s0 hp hi hc hg hq hz hL hy h1 b n lm t0 (by first | assumption | omega) (by exact hx0)) dX7_smelt_2 (cwV 1 hts gX7_smelt_X7_isNotToCome rfl rfl rfl (by decide +kernel) (by rw [hR]; exact ⟨Nat.le_of_ble_eq_true rfl, Nat.le_of_ble_eq_true rfl⟩)) ⟨hx, hb, hml, hown, hts⟩ hl.1 hK hP hD hS hA 0 rfl rfl rfl [0, 1, 2] [3, 4, 5, 6, 7] rfl (by decide) rfl (by decide) (by decide) rfl rfl (Nat.le_of_ble_eq_true rfl) (by rw [hR]; exact ⟨Nat.le_of_ble_eq_true rfl, Nat.le_of_ble_eq_true rfl⟩) (fun z2 u H locs q2 hP hD hS => ?_)
  have q2 : (z2 = 1 ∧ ¬ (n ≤ t0 ∧ t0 ≤ 120)) ∨ (z2 = 0 ∧ n ≤ t0 ∧ t0 ≤ 120) := q2
  have hP : va_P g vwCl [(h7, oB 7 [.ref hd, .ref h0, .ref s0, .ref hp, .ref hi, .ref hc, .ref hg, .ref hq, .ref hz, .ref hL, .ref hy]), (h0, oB 6 [.ref h1, vI n, vJ lm]), (h1, aJ ca 605 b), (s0, oB 6 [.ref s1, vI sn, vJ slm]), (s1, aJ ca 605 sb), (hL, oB 2 [.ref hw, .ref he, .ref hdn, .ref hdw, vI du, vI hv, vI mo, vI oft, vI la, vI pA, vI pB]), (hw, aI ca 5 w), (he, aI ca 5 ea)] H := hP.sub [5, 6, 7, 0, 1, 2, 3, 4] rfl
  have hD : va_D A [(h7, oB 7 [.ref hd, .ref h0, .ref s0, .ref hp, .ref hi, .ref hc, .ref hg, .ref hq, .ref hz, .ref hL, .ref hy]), (h0, oB 6 [.ref h1, vI n, vJ lm]), (h1, aJ ca 605 b), (s0, oB 6 [.ref s1, vI sn, vJ slm]), (s1, aJ ca 605 sb), (hL, oB 2 [.ref hw, .ref he, .ref hdn, .ref hdw, vI du, vI hv, vI mo, vI oft, vI la, vI pA, vI pB]), (hw, aI ca 5 w), (he, aI ca 5 ea)] := hD.sub [5, 6, 7, 0, 1, 2, 3, 4] (by decide) rfl
  refine ri_if_ne (tgt := 18) hx hb dX7_smelt_5 (by decide) ⟨by omega, by omega⟩ (fun c5 => ?_) (fun c5 => ?_)
  · skip
    refine lv_iconst (v := Int32.ofInt (-1)) hx hb dX7_smelt_18 rfl ?_
    refine zr_I hx hb hr hlk hQ (sb, sn, slm) hP hD hS dX7_smelt_19 (Nat.le_of_ble_eq_true rfl) (Nat.le_of_ble_eq_true rfl) ?_
    show (-1) = smv w ea b mo n lm t0 x
    unfold smv
    first
    | (rw [if_neg (fun q => by omega)])
    | (rw [if_pos (by omega), if_pos (by omega)])
    | (rw [if_pos (by omega), if_neg (by omega), ← hvv]
       first
       | (rw [smf_y (by omega)]; done)
       | (rw [show k = 0 by omega]; rfl))
  · skip
    refine lv_iload_n hx hb dX7_smelt_8 rfl (lv_at hl 2 rfl) ?_
    refine lv_iconst (v := Int32.ofInt 1) hx hb dX7_smelt_9 rfl ?_
    refine ri_ldc (z := 1000000000) hx hb hown lk_c177 dX7_smelt_10 (by decide) ?_
    refine zc_SI (As := [vI x, vI 1, vI 1000000000]) (rest := []) (wc := []) (wr := [(h7, oB 7 [.ref hd, .ref h0, .ref s0, .ref hp, .ref hi, .ref hc, .ref hg, .ref hq, .ref hz, .ref hL, .ref hy]), (h0, oB 6 [.ref h1, vI n, vJ lm]), (h1, aJ ca 605 b), (s0, oB 6 [.ref s1, vI sn, vJ slm]), (s1, aJ ca 605 sb), (hL, oB 2 [.ref hw, .ref he, .ref hdn, .ref hdw, vI du, vI hv, vI mo, vI oft, vI la, vI pA, vI pB]), (hw, aI ca 5 w), (he, aI ca 5 ea)]) (k_X7_isOutside l g ca x 1 1000000000 (by exact hx1) (by exact ⟨by omega, by omega⟩) (by exact ⟨by omega, by omega⟩)) dX7_smelt_12 (va_cwS 3 hts gX7_smelt_X7_isOutside rfl rfl rfl (by decide +kernel) (by rw [hR]; exact ⟨Nat.le_of_ble_eq_true rfl, Nat.le_of_ble_eq_true rfl⟩)) ⟨hx, hb, hml, hown, hts⟩ hl.1 hK hP hD hS hA [] [0, 1, 2, 3, 4, 5, 6, 7] rfl (by decide) rfl (by decide) (by decide) rfl rfl (Nat.le_of_ble_eq_true rfl) (by rw [hR]; exact ⟨Nat.le_of_ble_eq_true rfl, Nat.le_of_ble_eq_true rfl⟩) (fun z12 u H locs q12 hP hD hS => ?_)
    have q12 : (z12 = 1 ∧ ¬ (1 ≤ x ∧ x ≤ 1000000000)) ∨ (z12 = 0 ∧ 1 ≤ x ∧ x ≤ 1000000000) := q12
    have hP : va_P g vwCl [(h7, oB 7 [.ref hd, .ref h0, .ref s0, .ref hp, .ref hi, .ref hc, .ref hg, .ref hq, .ref hz, .ref hL, .ref hy]), (h0, oB 6 [.ref h1, vI n, vJ lm]), (h1, aJ ca 605 b), (s0, oB 6 [.ref s1, vI sn, vJ slm]), (s1, aJ ca 605 sb), (hL, oB 2 [.ref hw, .ref he, .ref hdn, .ref hdw, vI du, vI hv, vI mo, vI oft, vI la, vI pA, vI pB]), (hw, aI ca 5 w), (he, aI ca 5 ea)] H := hP.sub [0, 1, 2, 3, 4, 5, 6, 7] rfl
    have hD : va_D A [(h7, oB 7 [.ref hd, .ref h0, .ref s0, .ref hp, .ref hi, .ref hc, .ref hg, .ref hq, .ref hz, .ref hL, .ref hy]), (h0, oB 6 [.ref h1, vI n, vJ lm]), (h1, aJ ca 605 b), (s0, oB 6 [.ref s1, vI sn, vJ slm]), (s1, aJ ca 605 sb), (hL, oB 2 [.ref hw, .ref he, .ref hdn, .ref hdw, vI du, vI hv, vI mo, vI oft, vI la, vI pA, vI pB]), (hw, aI ca 5 w), (he, aI ca 5 ea)] := hD.sub [0, 1, 2, 3, 4, 5, 6, 7] (by decide) rfl
    refine ri_if_eq (tgt := 20) hx hb dX7_smelt_15 (by decide) ⟨by omega, by omega⟩ (fun c15 => ?_) (fun c15 => ?_)
    · skip
      refine lv_aload_n hx hb dX7_smelt_20 rfl (lv_at hl 0 rfl) ?_
      refine va_get (D := g) (ci := 7) (v := .ref s0) (C := RX7) (T := TX7) (N := 11) hx hb hts inF_X7 hown hK.1 hP 0 rfl rfl 2 (by decide) lk_f23 (fun _ h9 => h9) rfl dX7_smelt_21 ?_
      refine lv_aload_n hx hb dX7_smelt_24 rfl (lv_at hl 0 rfl) ?_
      refine va_get (D := g) (ci := 7) (v := .ref h0) (C := RX7) (T := TX7) (N := 11) hx hb hts inF_X7 hown hK.1 hP 0 rfl rfl 1 (by decide) lk_f19 (fun _ h9 => h9) rfl dX7_smelt_25 ?_
      refine zc_VV (As := [.ref h0]) (rest := []) (wc := [(s0, oB 6 [.ref s1, vI sn, vJ slm]), (s1, aJ ca 605 sb), (h0, oB 6 [.ref h1, vI n, vJ lm]), (h1, aJ ca 605 b)]) (wr := [(h7, oB 7 [.ref hd, .ref h0, .ref s0, .ref hp, .ref hi, .ref hc, .ref hg, .ref hq, .ref hz, .ref hL, .ref hy]), (hL, oB 2 [.ref hw, .ref he, .ref hdn, .ref hdw, vI du, vI hv, vI mo, vI oft, vI la, vI pA, vI pB]), (hw, aI ca 5 w), (he, aI ca 5 ea)]) (k_X6_becomeLike l g ca s0 s1 sb sn slm h0 h1 b n lm ) dX7_smelt_28 (cwV 1 hts gX7_smelt_X6_becomeLike rfl rfl rfl (by decide +kernel) (by rw [hR]; exact ⟨Nat.le_of_ble_eq_true rfl, Nat.le_of_ble_eq_true rfl⟩)) ⟨hx, hb, hml, hown, hts⟩ hl.1 hK hP hD hS hA 3 rfl rfl rfl [3, 4, 1, 2] [0, 5, 6, 7] rfl (by decide) rfl (by decide) (by decide) rfl rfl (Nat.le_of_ble_eq_true rfl) (by rw [hR]; exact ⟨Nat.le_of_ble_eq_true rfl, Nat.le_of_ble_eq_true rfl⟩) (fun u H locs q28 hP hD hS => ?_)
      have hP : va_P g vwCl [(h7, oB 7 [.ref hd, .ref h0, .ref s0, .ref hp, .ref hi, .ref hc, .ref hg, .ref hq, .ref hz, .ref hL, .ref hy]), (h0, oB 6 [.ref h1, vI n, vJ lm]), (h1, aJ ca 605 b), (s0, oB 6 [.ref s1, vI n, vJ lm]), (s1, aJ ca 605 b), (hL, oB 2 [.ref hw, .ref he, .ref hdn, .ref hdw, vI du, vI hv, vI mo, vI oft, vI la, vI pA, vI pB]), (hw, aI ca 5 w), (he, aI ca 5 ea)] H := hP.sub [0, 6, 7, 4, 5, 1, 2, 3] rfl
      have hD : va_D A [(h7, oB 7 [.ref hd, .ref h0, .ref s0, .ref hp, .ref hi, .ref hc, .ref hg, .ref hq, .ref hz, .ref hL, .ref hy]), (h0, oB 6 [.ref h1, vI n, vJ lm]), (h1, aJ ca 605 b), (s0, oB 6 [.ref s1, vI n, vJ lm]), (s1, aJ ca 605 b), (hL, oB 2 [.ref hw, .ref he, .ref hdn, .ref hdw, vI du, vI hv, vI mo, vI oft, vI la, vI pA, vI pB]), (hw, aI ca 5 w), (he, aI ca 5 ea)] := hD.sub [0, 6, 7, 4, 5, 1, 2, 3] (by decide) rfl
      refine lv_aload_n hx hb dX7_smelt_31 rfl (lv_at hl 0 rfl) ?_
      refine va_get (D := g) (ci := 7) (v := .ref s0) (C := RX7) (T := TX7) (N := 11) hx hb hts inF_X7 hown hK.1 hP 0 rfl rfl 2 (by decide) lk_f23 (fun _ h9 => h9) rfl dX7_smelt_32 ?_
      refine lv_iload_n hx hb dX7_smelt_35 rfl (lv_at hl 1 rfl) ?_
      refine lv_aload_n hx hb dX7_smelt_36 rfl (lv_at hl 0 rfl) ?_
      refine va_get (D := g) (ci := 7) (v := .ref hL) (C := RX7) (T := TX7) (N := 11) hx hb hts inF_X7 hown hK.1 hP 0 rfl rfl 9 (by decide) lk_f65 (fun _ h9 => h9) rfl dX7_smelt_37 ?_
      refine zc_VV (As := [vI t0, .ref hL]) (rest := []) (wc := [(s0, oB 6 [.ref s1, vI n, vJ lm]), (s1, aJ ca 605 b), (hL, oB 2 [.ref hw, .ref he, .ref hdn, .ref hdw, vI du, vI hv, vI mo, vI oft, vI la, vI pA, vI pB]), (hw, aI ca 5 w), (he, aI ca 5 ea)]) (wr := [(h7, oB 7 [.ref hd, .ref h0, .ref s0, .ref hp, .ref hi, .ref hc, .ref hg, .ref hq, .ref hz, .ref hL, .ref hy]), (h0, oB 6 [.ref h1, vI n, vJ lm]), (h1, aJ ca 605 b)]) (k_X6_passTo l g ca s0 s1 b n lm hL hw he hdn hdw w ea du hv mo oft la pA pB t0 (by first | assumption | omega) (by first | assumption | omega) (by first | assumption | omega) (by first | assumption | omega) (by first | assumption | omega)) dX7_smelt_40 (cwV 2 hts gX7_smelt_X6_passTo rfl rfl rfl (by decide +kernel) (by rw [hR]; exact ⟨Nat.le_of_ble_eq_true rfl, Nat.le_of_ble_eq_true rfl⟩)) ⟨hx, hb, hml, hown, hts⟩ hl.1 hK hP hD hS hA 3 rfl rfl rfl [3, 4, 5, 6, 7] [0, 1, 2] rfl (by decide) rfl (by decide) (by decide) rfl rfl (Nat.le_of_ble_eq_true rfl) (by rw [hR]; exact ⟨Nat.le_of_ble_eq_true rfl, Nat.le_of_ble_eq_true rfl⟩) (fun u H locs q40 hP hD hS => ?_)
      obtain ⟨n1_40, b1_40⟩ := u
      have q40 : n1_40 = (if n < t0 then t0 else n) ∧ b1_40 = gt w ea mo n b (t0 - n).toNat := q40
      obtain ⟨q40_0, q40_1⟩ := q40
      have hP : va_P g vwCl [(h7, oB 7 [.ref hd, .ref h0, .ref s0, .ref hp, .ref hi, .ref hc, .ref hg, .ref hq, .ref hz, .ref hL, .ref hy]), (h0, oB 6 [.ref h1, vI n, vJ lm]), (h1, aJ ca 605 b), (s0, oB 6 [.ref s1, vI n1_40, vJ lm]), (s1, aJ ca 605 b1_40), (hL, oB 2 [.ref hw, .ref he, .ref hdn, .ref hdw, vI du, vI hv, vI mo, vI oft, vI la, vI pA, vI pB]), (hw, aI ca 5 w), (he, aI ca 5 ea)] H := hP.sub [0, 1, 2, 3, 4, 5, 6, 7] rfl
      have hD : va_D A [(h7, oB 7 [.ref hd, .ref h0, .ref s0, .ref hp, .ref hi, .ref hc, .ref hg, .ref hq, .ref hz, .ref hL, .ref hy]), (h0, oB 6 [.ref h1, vI n, vJ lm]), (h1, aJ ca 605 b), (s0, oB 6 [.ref s1, vI n1_40, vJ lm]), (s1, aJ ca 605 b1_40), (hL, oB 2 [.ref hw, .ref he, .ref hdn, .ref hdw, vI du, vI hv, vI mo, vI oft, vI la, vI pA, vI pB]), (hw, aI ca 5 w), (he, aI ca 5 ea)] := hD.sub [0, 1, 2, 3, 4, 5, 6, 7] (by decide) rfl
      have hn40 : n1_40 = t0 := by rw [q40_0]; split <;> omega
      have hGT := GB_gt (w := w) hE hM hB (t0 - n).toNat (by omega)
      rw [show n + ((t0 - n).toNat : Int) = t0 by omega] at hGT
      refine lv_aload_n hx hb dX7_smelt_43 rfl (lv_at hl 0 rfl) ?_
      refine va_get (D := g) (ci := 7) (v := .ref s0) (C := RX7) (T := TX7) (N := 11) hx hb hts inF_X7 hown hK.1 hP 0 rfl rfl 2 (by decide) lk_f23 (fun _ h9 => h9) rfl dX7_smelt_44 ?_
      refine lv_aload_n hx hb dX7_smelt_47 rfl (lv_at hl 0 rfl) ?_
      refine va_get (D := g) (ci := 7) (v := .ref hL) (C := RX7) (T := TX7) (N := 11) hx hb hts inF_X7 hown hK.1 hP 0 rfl rfl 9 (by decide) lk_f65 (fun _ h9 => h9) rfl dX7_smelt_48 ?_
      refine zc_VJ (As := [.ref hL]) (rest := []) (wc := [(s0, oB 6 [.ref s1, vI n1_40, vJ lm]), (s1, aJ ca 605 b1_40), (hL, oB 2 [.ref hw, .ref he, .ref hdn, .ref hdw, vI du, vI hv, vI mo, vI oft, vI la, vI pA, vI pB]), (hw, aI ca 5 w)]) (wr := [(h7, oB 7 [.ref hd, .ref h0, .ref s0, .ref hp, .ref hi, .ref hc, .ref hg, .ref hq, .ref hz, .ref hL, .ref hy]), (h0, oB 6 [.ref h1, vI n, vJ lm]), (h1, aJ ca 605 b), (he, aI ca 5 ea)]) (k_X6_weightWithLump l g ca s0 s1 b1_40 n1_40 lm hL hw he hdn hdw w du hv mo oft la pA pB (by first | assumption | omega) (by first | assumption | omega)) dX7_smelt_51 (cwV 1 hts gX7_smelt_X6_weightWithLump rfl rfl rfl (by decide +kernel) (by rw [hR]; exact ⟨Nat.le_of_ble_eq_true rfl, Nat.le_of_ble_eq_true rfl⟩)) ⟨hx, hb, hml, hown, hts⟩ hl.1 hK hP hD hS hA 3 rfl rfl rfl [3, 4, 5, 6] [0, 1, 2, 7] rfl (by decide) rfl (by decide) (by decide) rfl rfl (Nat.le_of_ble_eq_true rfl) (by rw [hR]; exact ⟨Nat.le_of_ble_eq_true rfl, Nat.le_of_ble_eq_true rfl⟩) (fun z51 u H locs q51 hP hD hS => ?_)
      have q51 : z51 = wgt b1_40 w n1_40 + lm := q51
      have hP : va_P g vwCl [(h7, oB 7 [.ref hd, .ref h0, .ref s0, .ref hp, .ref hi, .ref hc, .ref hg, .ref hq, .ref hz, .ref hL, .ref hy]), (h0, oB 6 [.ref h1, vI n, vJ lm]), (h1, aJ ca 605 b), (s0, oB 6 [.ref s1, vI n1_40, vJ lm]), (s1, aJ ca 605 b1_40), (hL, oB 2 [.ref hw, .ref he, .ref hdn, .ref hdw, vI du, vI hv, vI mo, vI oft, vI la, vI pA, vI pB]), (hw, aI ca 5 w), (he, aI ca 5 ea)] H := hP.sub [0, 1, 2, 4, 5, 6, 7, 3] rfl
      have hD : va_D A [(h7, oB 7 [.ref hd, .ref h0, .ref s0, .ref hp, .ref hi, .ref hc, .ref hg, .ref hq, .ref hz, .ref hL, .ref hy]), (h0, oB 6 [.ref h1, vI n, vJ lm]), (h1, aJ ca 605 b), (s0, oB 6 [.ref s1, vI n1_40, vJ lm]), (s1, aJ ca 605 b1_40), (hL, oB 2 [.ref hw, .ref he, .ref hdn, .ref hdw, vI du, vI hv, vI mo, vI oft, vI la, vI pA, vI pB]), (hw, aI ca 5 w), (he, aI ca 5 ea)] := hD.sub [0, 1, 2, 4, 5, 6, 7, 3] (by decide) rfl
      rw [q40_1, hn40] at q51
      have hw54 := wgt_bd hGT hW
      refine lv_iload_n hx hb dX7_smelt_54 rfl (lv_at hl 2 rfl) ?_
      refine ri_l hx hb dX7_smelt_55 ⟨by omega, by omega⟩ ?_
      refine rj_cmp hx hb dX7_smelt_56 ⟨by omega, by omega⟩ ⟨by omega, by omega⟩ (fun z56 e56 => ?_)
      refine ri_if_gt (tgt := 62) hx hb dX7_smelt_57 (by decide) ⟨by omega, by omega⟩ (fun c57 => ?_) (fun c57 => ?_)
      · skip
        have c57 : x < z51 := by omega
        clear e56
        refine lv_iconst (v := Int32.ofInt 0) hx hb dX7_smelt_62 rfl ?_
        refine lv_istore_n (lv' := [(3, vI 0), (0, .ref h7), (1, vI t0), (2, vI x)]) hx hb dX7_smelt_63 rfl hl (by decide) rfl (fun ls hl => ?_)
        have L64 : ∀ (N64 : Nat) (o : Int) (f : Int → Int) (sn2 : Int) (k : Nat) (ho : 0 ≤ o ∧ o + k = 5 ∧ o ≤ 5) (hvv : smf w ea b mo n lm t0 x k o = smf w ea b mo n lm t0 x 5 0) (hμ : k < N64) (H : Heap) (locs : List Loc) (hP : va_P g vwCl [(h7, oB 7 [.ref hd, .ref h0, .ref s0, .ref hp, .ref hi, .ref hc, .ref hg, .ref hq, .ref hz, .ref hL, .ref hy]), (h0, oB 6 [.ref h1, vI n, vJ lm]), (h1, aJ ca 605 b), (s0, oB 6 [.ref s1, vI sn2, vJ lm]), (s1, aJ ca 605 f), (hL, oB 2 [.ref hw, .ref he, .ref hdn, .ref hdw, vI du, vI hv, vI mo, vI oft, vI la, vI pA, vI pB]), (hw, aI ca 5 w), (he, aI ca 5 ea)] H) (hD : va_D A [(h7, oB 7 [.ref hd, .ref h0, .ref s0, .ref hp, .ref hi, .ref hc, .ref hg, .ref hq, .ref hz, .ref hL, .ref hy]), (h0, oB 6 [.ref h1, vI n, vJ lm]), (h1, aJ ca 605 b), (s0, oB 6 [.ref s1, vI sn2, vJ lm]), (s1, aJ ca 605 f), (hL, oB 2 [.ref hw, .ref he, .ref hdn, .ref hdw, vI du, vI hv, vI mo, vI oft, vI la, vI pA, vI pB]), (hw, aI ca 5 w), (he, aI ca 5 ea)]) (hS : va_S A s.heap H locs) (ls : Array Slot) (hl : lv_has ls 4 [(3, vI o), (0, .ref h7), (1, vI t0), (2, vI x)]), W p l e R s m args below meth c H locs 0 0 Q (F0 m 64 ls []) := by
          intro N64; induction N64 with
          | zero => intro o f sn2 k ho hvv hμ; exact absurd hμ (Nat.not_lt_zero _)
          | succ N64 ih64 =>
            intro o f sn2 k ho hvv hμ H locs hP hD hS ls hl
            refine lv_iload_n hx hb dX7_smelt_64 rfl (lv_at hl 0 rfl) ?_
            refine lv_iconst (v := Int32.ofInt 5) hx hb dX7_smelt_65 rfl ?_
            refine ri_icmp_ge (tgt := 125) hx hb dX7_smelt_66 (by decide) ⟨by omega, by omega⟩ ⟨by omega, by omega⟩ (fun c66 => ?_) (fun c66 => ?_)
            · skip
              refine lv_bipush (v := Int32.ofInt (-9)) hx hb dX7_smelt_125 (by decide) ?_
              refine zr_I hx hb hr hlk hQ (f, sn2, lm) hP hD hS dX7_smelt_127 (Nat.le_of_ble_eq_true rfl) (Nat.le_of_ble_eq_true rfl) ?_
              show (-9) = smv w ea b mo n lm t0 x
              unfold smv
              first
              | (rw [if_neg (fun q => by omega)])
              | (rw [if_pos (by omega), if_pos (by omega)])
              | (rw [if_pos (by omega), if_neg (by omega), ← hvv]
                 first
                 | (rw [smf_y (by omega)]; done)
                 | (rw [show k = 0 by omega]; rfl))
            · skip
              obtain ⟨k1, rfl⟩ : ∃ q, k = q + 1 := ⟨k - 1, by omega⟩
              refine lv_aload_n hx hb dX7_smelt_69 rfl (lv_at hl 1 rfl) ?_
              refine va_get (D := g) (ci := 7) (v := .ref s0) (C := RX7) (T := TX7) (N := 11) hx hb hts inF_X7 hown hK.1 hP 0 rfl rfl 2 (by decide) lk_f23 (fun _ h9 => h9) rfl dX7_smelt_70 ?_
              refine lv_aload_n hx hb dX7_smelt_73 rfl (lv_at hl 1 rfl) ?_
              refine va_get (D := g) (ci := 7) (v := .ref h0) (C := RX7) (T := TX7) (N := 11) hx hb hts inF_X7 hown hK.1 hP 0 rfl rfl 1 (by decide) lk_f19 (fun _ h9 => h9) rfl dX7_smelt_74 ?_
              refine zc_VV (As := [.ref h0]) (rest := []) (wc := [(s0, oB 6 [.ref s1, vI sn2, vJ lm]), (s1, aJ ca 605 f), (h0, oB 6 [.ref h1, vI n, vJ lm]), (h1, aJ ca 605 b)]) (wr := [(h7, oB 7 [.ref hd, .ref h0, .ref s0, .ref hp, .ref hi, .ref hc, .ref hg, .ref hq, .ref hz, .ref hL, .ref hy]), (hL, oB 2 [.ref hw, .ref he, .ref hdn, .ref hdw, vI du, vI hv, vI mo, vI oft, vI la, vI pA, vI pB]), (hw, aI ca 5 w), (he, aI ca 5 ea)]) (k_X6_becomeLike l g ca s0 s1 f sn2 lm h0 h1 b n lm ) dX7_smelt_77 (cwV 1 hts gX7_smelt_X6_becomeLike rfl rfl rfl (by decide +kernel) (by rw [hR]; exact ⟨Nat.le_of_ble_eq_true rfl, Nat.le_of_ble_eq_true rfl⟩)) ⟨hx, hb, hml, hown, hts⟩ hl.1 hK hP hD hS hA 3 rfl rfl rfl [3, 4, 1, 2] [0, 5, 6, 7] rfl (by decide) rfl (by decide) (by decide) rfl rfl (Nat.le_of_ble_eq_true rfl) (by rw [hR]; exact ⟨Nat.le_of_ble_eq_true rfl, Nat.le_of_ble_eq_true rfl⟩) (fun u H locs q77 hP hD hS => ?_)
              have hP : va_P g vwCl [(h7, oB 7 [.ref hd, .ref h0, .ref s0, .ref hp, .ref hi, .ref hc, .ref hg, .ref hq, .ref hz, .ref hL, .ref hy]), (h0, oB 6 [.ref h1, vI n, vJ lm]), (h1, aJ ca 605 b), (s0, oB 6 [.ref s1, vI n, vJ lm]), (s1, aJ ca 605 b), (hL, oB 2 [.ref hw, .ref he, .ref hdn, .ref hdw, vI du, vI hv, vI mo, vI oft, vI la, vI pA, vI pB]), (hw, aI ca 5 w), (he, aI ca 5 ea)] H := hP.sub [0, 6, 7, 4, 5, 1, 2, 3] rfl
              have hD : va_D A [(h7, oB 7 [.ref hd, .ref h0, .ref s0, .ref hp, .ref hi, .ref hc, .ref hg, .ref hq, .ref hz, .ref hL, .ref hy]), (h0, oB 6 [.ref h1, vI n, vJ lm]), (h1, aJ ca 605 b), (s0, oB 6 [.ref s1, vI n, vJ lm]), (s1, aJ ca 605 b), (hL, oB 2 [.ref hw, .ref he, .ref hdn, .ref hdw, vI du, vI hv, vI mo, vI oft, vI la, vI pA, vI pB]), (hw, aI ca 5 w), (he, aI ca 5 ea)] := hD.sub [0, 6, 7, 4, 5, 1, 2, 3] (by decide) rfl
              refine lv_aload_n hx hb dX7_smelt_80 rfl (lv_at hl 1 rfl) ?_
              refine va_get (D := g) (ci := 7) (v := .ref s0) (C := RX7) (T := TX7) (N := 11) hx hb hts inF_X7 hown hK.1 hP 0 rfl rfl 2 (by decide) lk_f23 (fun _ h9 => h9) rfl dX7_smelt_81 ?_
              refine lv_iload_n hx hb dX7_smelt_84 rfl (lv_at hl 0 rfl) ?_
              refine zc_VV (As := [vI o]) (rest := []) (wc := [(s0, oB 6 [.ref s1, vI n, vJ lm]), (s1, aJ ca 605 b)]) (wr := [(h7, oB 7 [.ref hd, .ref h0, .ref s0, .ref hp, .ref hi, .ref hc, .ref hg, .ref hq, .ref hz, .ref hL, .ref hy]), (h0, oB 6 [.ref h1, vI n, vJ lm]), (h1, aJ ca 605 b), (hL, oB 2 [.ref hw, .ref he, .ref hdn, .ref hdw, vI du, vI hv, vI mo, vI oft, vI la, vI pA, vI pB]), (hw, aI ca 5 w), (he, aI ca 5 ea)]) (k_X6_takeAll l g ca s0 s1 b n lm o (by first | assumption | omega)) dX7_smelt_85 (cwV 1 hts gX7_smelt_X6_takeAll rfl rfl rfl (by decide +kernel) (by rw [hR]; exact ⟨Nat.le_of_ble_eq_true rfl, Nat.le_of_ble_eq_true rfl⟩)) ⟨hx, hb, hml, hown, hts⟩ hl.1 hK hP hD hS hA 3 rfl rfl rfl [3, 4] [0, 1, 2, 5, 6, 7] rfl (by decide) rfl (by decide) (by decide) rfl rfl (Nat.le_of_ble_eq_true rfl) (by rw [hR]; exact ⟨Nat.le_of_ble_eq_true rfl, Nat.le_of_ble_eq_true rfl⟩) (fun u H locs q85 hP hD hS => ?_)
              have hP : va_P g vwCl [(h7, oB 7 [.ref hd, .ref h0, .ref s0, .ref hp, .ref hi, .ref hc, .ref hg, .ref hq, .ref hz, .ref hL, .ref hy]), (h0, oB 6 [.ref h1, vI n, vJ lm]), (h1, aJ ca 605 b), (s0, oB 6 [.ref s1, vI n, vJ lm]), (s1, aJ ca 605 (fun j => if 121 * o ≤ j ∧ j < 121 * o + 121 then 0 else b j)), (hL, oB 2 [.ref hw, .ref he, .ref hdn, .ref hdw, vI du, vI hv, vI mo, vI oft, vI la, vI pA, vI pB]), (hw, aI ca 5 w), (he, aI ca 5 ea)] H := hP.sub [0, 1, 2, 6, 7, 3, 4, 5] rfl
              have hD : va_D A [(h7, oB 7 [.ref hd, .ref h0, .ref s0, .ref hp, .ref hi, .ref hc, .ref hg, .ref hq, .ref hz, .ref hL, .ref hy]), (h0, oB 6 [.ref h1, vI n, vJ lm]), (h1, aJ ca 605 b), (s0, oB 6 [.ref s1, vI n, vJ lm]), (s1, aJ ca 605 (fun j => if 121 * o ≤ j ∧ j < 121 * o + 121 then 0 else b j)), (hL, oB 2 [.ref hw, .ref he, .ref hdn, .ref hdw, vI du, vI hv, vI mo, vI oft, vI la, vI pA, vI pB]), (hw, aI ca 5 w), (he, aI ca 5 ea)] := hD.sub [0, 1, 2, 6, 7, 3, 4, 5] (by decide) rfl
              refine lv_aload_n hx hb dX7_smelt_88 rfl (lv_at hl 1 rfl) ?_
              refine va_get (D := g) (ci := 7) (v := .ref s0) (C := RX7) (T := TX7) (N := 11) hx hb hts inF_X7 hown hK.1 hP 0 rfl rfl 2 (by decide) lk_f23 (fun _ h9 => h9) rfl dX7_smelt_89 ?_
              refine lv_iload_n hx hb dX7_smelt_92 rfl (lv_at hl 2 rfl) ?_
              refine lv_aload_n hx hb dX7_smelt_93 rfl (lv_at hl 1 rfl) ?_
              refine va_get (D := g) (ci := 7) (v := .ref hL) (C := RX7) (T := TX7) (N := 11) hx hb hts inF_X7 hown hK.1 hP 0 rfl rfl 9 (by decide) lk_f65 (fun _ h9 => h9) rfl dX7_smelt_94 ?_
              refine zc_VV (As := [vI t0, .ref hL]) (rest := []) (wc := [(s0, oB 6 [.ref s1, vI n, vJ lm]), (s1, aJ ca 605 (fun j => if 121 * o ≤ j ∧ j < 121 * o + 121 then 0 else b j)), (hL, oB 2 [.ref hw, .ref he, .ref hdn, .ref hdw, vI du, vI hv, vI mo, vI oft, vI la, vI pA, vI pB]), (hw, aI ca 5 w), (he, aI ca 5 ea)]) (wr := [(h7, oB 7 [.ref hd, .ref h0, .ref s0, .ref hp, .ref hi, .ref hc, .ref hg, .ref hq, .ref hz, .ref hL, .ref hy]), (h0, oB 6 [.ref h1, vI n, vJ lm]), (h1, aJ ca 605 b)]) (k_X6_passTo l g ca s0 s1 (fun j => if 121 * o ≤ j ∧ j < 121 * o + 121 then 0 else b j) n lm hL hw he hdn hdw w ea du hv mo oft la pA pB t0 (by first | assumption | omega) (by first | assumption | omega) (by first | assumption | omega) (by first | assumption | omega) (by first | assumption | omega)) dX7_smelt_97 (cwV 2 hts gX7_smelt_X6_passTo rfl rfl rfl (by decide +kernel) (by rw [hR]; exact ⟨Nat.le_of_ble_eq_true rfl, Nat.le_of_ble_eq_true rfl⟩)) ⟨hx, hb, hml, hown, hts⟩ hl.1 hK hP hD hS hA 3 rfl rfl rfl [3, 4, 5, 6, 7] [0, 1, 2] rfl (by decide) rfl (by decide) (by decide) rfl rfl (Nat.le_of_ble_eq_true rfl) (by rw [hR]; exact ⟨Nat.le_of_ble_eq_true rfl, Nat.le_of_ble_eq_true rfl⟩) (fun u H locs q97 hP hD hS => ?_)
              obtain ⟨n1_97, b1_97⟩ := u
              have q97 : n1_97 = (if n < t0 then t0 else n) ∧ b1_97 = gt w ea mo n (fun j => if 121 * o ≤ j ∧ j < 121 * o + 121 then 0 else b j) (t0 - n).toNat := q97
              obtain ⟨q97_0, q97_1⟩ := q97
              have hP : va_P g vwCl [(h7, oB 7 [.ref hd, .ref h0, .ref s0, .ref hp, .ref hi, .ref hc, .ref hg, .ref hq, .ref hz, .ref hL, .ref hy]), (h0, oB 6 [.ref h1, vI n, vJ lm]), (h1, aJ ca 605 b), (s0, oB 6 [.ref s1, vI n1_97, vJ lm]), (s1, aJ ca 605 b1_97), (hL, oB 2 [.ref hw, .ref he, .ref hdn, .ref hdw, vI du, vI hv, vI mo, vI oft, vI la, vI pA, vI pB]), (hw, aI ca 5 w), (he, aI ca 5 ea)] H := hP.sub [0, 1, 2, 3, 4, 5, 6, 7] rfl
              have hD : va_D A [(h7, oB 7 [.ref hd, .ref h0, .ref s0, .ref hp, .ref hi, .ref hc, .ref hg, .ref hq, .ref hz, .ref hL, .ref hy]), (h0, oB 6 [.ref h1, vI n, vJ lm]), (h1, aJ ca 605 b), (s0, oB 6 [.ref s1, vI n1_97, vJ lm]), (s1, aJ ca 605 b1_97), (hL, oB 2 [.ref hw, .ref he, .ref hdn, .ref hdw, vI du, vI hv, vI mo, vI oft, vI la, vI pA, vI pB]), (hw, aI ca 5 w), (he, aI ca 5 ea)] := hD.sub [0, 1, 2, 3, 4, 5, 6, 7] (by decide) rfl
              have hn97 : n1_97 = t0 := by rw [q97_0]; split <;> omega
              have hb97 : b1_97 = gt w ea mo n (zr b o) (t0 - n).toNat := q97_1
              have hGT2 := GB_gt (w := w) hE hM (GB_zr (o := o) hB) (t0 - n).toNat (by omega)
              rw [show n + ((t0 - n).toNat : Int) = t0 by omega] at hGT2
              refine lv_aload_n hx hb dX7_smelt_100 rfl (lv_at hl 1 rfl) ?_
              refine va_get (D := g) (ci := 7) (v := .ref s0) (C := RX7) (T := TX7) (N := 11) hx hb hts inF_X7 hown hK.1 hP 0 rfl rfl 2 (by decide) lk_f23 (fun _ h9 => h9) rfl dX7_smelt_101 ?_
              refine lv_aload_n hx hb dX7_smelt_104 rfl (lv_at hl 1 rfl) ?_
              refine va_get (D := g) (ci := 7) (v := .ref hL) (C := RX7) (T := TX7) (N := 11) hx hb hts inF_X7 hown hK.1 hP 0 rfl rfl 9 (by decide) lk_f65 (fun _ h9 => h9) rfl dX7_smelt_105 ?_
              refine zc_VJ (As := [.ref hL]) (rest := []) (wc := [(s0, oB 6 [.ref s1, vI n1_97, vJ lm]), (s1, aJ ca 605 b1_97), (hL, oB 2 [.ref hw, .ref he, .ref hdn, .ref hdw, vI du, vI hv, vI mo, vI oft, vI la, vI pA, vI pB]), (hw, aI ca 5 w)]) (wr := [(h7, oB 7 [.ref hd, .ref h0, .ref s0, .ref hp, .ref hi, .ref hc, .ref hg, .ref hq, .ref hz, .ref hL, .ref hy]), (h0, oB 6 [.ref h1, vI n, vJ lm]), (h1, aJ ca 605 b), (he, aI ca 5 ea)]) (k_X6_weightWithLump l g ca s0 s1 b1_97 n1_97 lm hL hw he hdn hdw w du hv mo oft la pA pB (by first | assumption | omega) (by first | assumption | omega)) dX7_smelt_108 (cwV 1 hts gX7_smelt_X6_weightWithLump rfl rfl rfl (by decide +kernel) (by rw [hR]; exact ⟨Nat.le_of_ble_eq_true rfl, Nat.le_of_ble_eq_true rfl⟩)) ⟨hx, hb, hml, hown, hts⟩ hl.1 hK hP hD hS hA 3 rfl rfl rfl [3, 4, 5, 6] [0, 1, 2, 7] rfl (by decide) rfl (by decide) (by decide) rfl rfl (Nat.le_of_ble_eq_true rfl) (by rw [hR]; exact ⟨Nat.le_of_ble_eq_true rfl, Nat.le_of_ble_eq_true rfl⟩) (fun z108 u H locs q108 hP hD hS => ?_)
              have q108 : z108 = wgt b1_97 w n1_97 + lm := q108
              have hP : va_P g vwCl [(h7, oB 7 [.ref hd, .ref h0, .ref s0, .ref hp, .ref hi, .ref hc, .ref hg, .ref hq, .ref hz, .ref hL, .ref hy]), (h0, oB 6 [.ref h1, vI n, vJ lm]), (h1, aJ ca 605 b), (s0, oB 6 [.ref s1, vI n1_97, vJ lm]), (s1, aJ ca 605 b1_97), (hL, oB 2 [.ref hw, .ref he, .ref hdn, .ref hdw, vI du, vI hv, vI mo, vI oft, vI la, vI pA, vI pB]), (hw, aI ca 5 w), (he, aI ca 5 ea)] H := hP.sub [0, 1, 2, 4, 5, 6, 7, 3] rfl
              have hD : va_D A [(h7, oB 7 [.ref hd, .ref h0, .ref s0, .ref hp, .ref hi, .ref hc, .ref hg, .ref hq, .ref hz, .ref hL, .ref hy]), (h0, oB 6 [.ref h1, vI n, vJ lm]), (h1, aJ ca 605 b), (s0, oB 6 [.ref s1, vI n1_97, vJ lm]), (s1, aJ ca 605 b1_97), (hL, oB 2 [.ref hw, .ref he, .ref hdn, .ref hdw, vI du, vI hv, vI mo, vI oft, vI la, vI pA, vI pB]), (hw, aI ca 5 w), (he, aI ca 5 ea)] := hD.sub [0, 1, 2, 4, 5, 6, 7, 3] (by decide) rfl
              rw [hb97, hn97] at q108
              have hw111 := wgt_bd hGT2 hW
              refine lv_iload_n hx hb dX7_smelt_111 rfl (lv_at hl 3 rfl) ?_
              refine ri_l hx hb dX7_smelt_112 ⟨by omega, by omega⟩ ?_
              refine rj_cmp hx hb dX7_smelt_113 ⟨by omega, by omega⟩ ⟨by omega, by omega⟩ (fun z113 e113 => ?_)
              refine ri_if_gt (tgt := 119) hx hb dX7_smelt_114 (by decide) ⟨by omega, by omega⟩ (fun c114 => ?_) (fun c114 => ?_)
              · skip
                have c114 : x < z108 := by omega
                clear e113
                obtain ⟨z119, e119⟩ : ∃ q : Int, q = o + 1 := ⟨_, rfl⟩
                refine ri_inc (lv' := [(3, vI z119), (0, .ref h7), (1, vI t0), (2, vI x)]) hx hb dX7_smelt_119 hl (k := 0) rfl (by decide) z119 e119 rfl (fun ls hl => ?_)
                refine lv_goto (tgt := 64) hx hb dX7_smelt_122 (by decide) ?_
                exact ih64 z119 b1_97 n1_97 k1 (by first | assumption | omega) (by rw [← hvv, smf_n (by omega), e119]) (by omega) _ _ hP hD hS ls (lv_sub hl [0, 1, 2, 3] rfl)
              · skip
                have c114 : z108 ≤ x := by omega
                clear e113
                refine lv_iload_n hx hb dX7_smelt_117 rfl (lv_at hl 0 rfl) ?_
                refine zr_I hx hb hr hlk hQ (b1_97, n1_97, lm) hP hD hS dX7_smelt_118 (Nat.le_of_ble_eq_true rfl) (Nat.le_of_ble_eq_true rfl) ?_
                show o = smv w ea b mo n lm t0 x
                unfold smv
                first
                | (rw [if_neg (fun q => by omega)])
                | (rw [if_pos (by omega), if_pos (by omega)])
                | (rw [if_pos (by omega), if_neg (by omega), ← hvv]
                   first
                   | (rw [smf_y (by omega)]; done)
                   | (rw [show k = 0 by omega]; rfl))
        exact L64 _ 0 b1_40 n1_40 5 (by first | assumption | omega) (by rfl) (Nat.lt_succ_self _) _ _ hP hD hS ls (lv_sub hl [0, 1, 2, 3] rfl)
      · skip
        have c57 : z51 ≤ x := by omega
        clear e56
        refine lv_iconst (v := Int32.ofInt 5) hx hb dX7_smelt_60 rfl ?_
        refine zr_I hx hb hr hlk hQ (b1_40, n1_40, lm) hP hD hS dX7_smelt_61 (Nat.le_of_ble_eq_true rfl) (Nat.le_of_ble_eq_true rfl) ?_
        show 5 = smv w ea b mo n lm t0 x
        unfold smv
        first
        | (rw [if_neg (fun q => by omega)])
        | (rw [if_pos (by omega), if_pos (by omega)])
        | (rw [if_pos (by omega), if_neg (by omega), ← hvv]
           first
           | (rw [smf_y (by omega)]; done)
           | (rw [show k = 0 by omega]; rfl))
    · skip
      refine lv_iconst (v := Int32.ofInt (-1)) hx hb dX7_smelt_18 rfl ?_
      refine zr_I hx hb hr hlk hQ (sb, sn, slm) hP hD hS dX7_smelt_19 (Nat.le_of_ble_eq_true rfl) (Nat.le_of_ble_eq_true rfl) ?_
      show (-1) = smv w ea b mo n lm t0 x
      unfold smv
      first
      | (rw [if_neg (fun q => by omega)])
      | (rw [if_pos (by omega), if_pos (by omega)])
      | (rw [if_pos (by omega), if_neg (by omega), ← hvv]
         first
         | (rw [smf_y (by omega)]; done)
         | (rw [show k = 0 by omega]; rfl))
set_option maxHeartbeats 4000000 in
set_option maxRecDepth 100000 in
theorem k_X7_greatestDivisor (l : Launch) (g : va_G) (ca : Nat → ClassId) (a0 : Int) (b0 : Int) (ha0 : 0 < a0 ∧ a0 ≤ 1000000000000000) (hb0 : 0 ≤ b0 ∧ b0 ≤ a0) : zJ (S := Unit) l yX7_greatestDivisor wsX7_greatestDivisor ({ frames := 0, cells := 0, slots := 0, locals := 0 } : Room) g ca [vJ a0, vJ b0] [] (fun (z : Int) (u : Unit) => z = (Int.gcd b0 a0 : Int)) (fun (u : Unit) => []) 0 0 := by
  refine zm_J (cc := cX7_greatestDivisor) (maxL := 11) (ret := some .long) (by decide) rfl (Nat.le_of_ble_eq_true rfl) ?_
  intro p e s m below meth c A ls R args Q hR hargs hQ hx hb hml hr hts hown hlk hnm hK hP hD hA hS hl
  have hown : s.vm.findClass RX7 = some m.cls := hown
  have hl : lv_has ls 11 [(0, vJ a0), (2, vJ b0)] := hl
  refine lv_lload_n hx hb dX7_greatestDivisor_0 rfl (lv_at hl 0 rfl) ?_
  refine lv_lstore (lv' := [(4, vJ a0), (0, vJ a0), (2, vJ b0)]) hx hb dX7_greatestDivisor_1 hl (by decide) rfl (fun ls hl => ?_)
  refine lv_lload_n hx hb dX7_greatestDivisor_3 rfl (lv_at hl 2 rfl) ?_
  refine lv_lstore (lv' := [(6, vJ b0), (4, vJ a0), (0, vJ a0), (2, vJ b0)]) hx hb dX7_greatestDivisor_4 hl (by decide) rfl (fun ls hl => ?_)
  refine lv_iconst (v := Int32.ofInt 0) hx hb dX7_greatestDivisor_6 rfl ?_
  refine lv_istore (lv' := [(8, vI 0), (6, vJ b0), (4, vJ a0), (0, vJ a0), (2, vJ b0)]) hx hb dX7_greatestDivisor_7 hl (by decide) rfl (fun ls hl => ?_)
  have L9 : ∀ (N9 : Nat) (p0 : Int) (r0 : Int) (sp : Int) (hp0 : 0 < p0 ∧ p0 ≤ 1000000000000000 ∧ 0 ≤ r0 ∧ r0 ≤ p0) (hsp : 0 ≤ sp ∧ sp ≤ 1000) (hg : Int.gcd p0 r0 = Int.gcd a0 b0) (heu : EUC p0 r0 sp.toNat) (hμ : (1000 - sp).toNat < N9) (H : Heap) (locs : List Loc) (hP : va_P g vwCl [] H) (hD : va_D A []) (hS : va_S A s.heap H locs) (ls : Array Slot) (hl : lv_has ls 11 [(8, vI sp), (6, vJ r0), (4, vJ p0), (0, vJ a0), (2, vJ b0)]), W p l e R s m args below meth c H locs 0 0 Q (F0 m 9 ls []) := by
    intro N9; induction N9 with
    | zero => intro p0 r0 sp hp0 hsp hg heu hμ; exact absurd hμ (Nat.not_lt_zero _)
    | succ N9 ih9 =>
      intro p0 r0 sp hp0 hsp hg heu hμ H locs hP hD hS ls hl
      refine lv_iload hx hb dX7_greatestDivisor_9 (lv_at hl 0 rfl) ?_
      refine lv_sipush (v := Int32.ofInt 1000) hx hb dX7_greatestDivisor_11 (by decide) ?_
      refine ri_icmp_ge (tgt := 45) hx hb dX7_greatestDivisor_14 (by decide) ⟨by omega, by omega⟩ ⟨by omega, by omega⟩ (fun c14 => ?_) (fun c14 => ?_)
      · skip
        refine lv_lload hx hb dX7_greatestDivisor_45 (lv_at hl 2 rfl) ?_
        refine zr_J hx hb hr hlk hQ () hP hD hS dX7_greatestDivisor_47 (Nat.le_of_ble_eq_true rfl) (Nat.le_of_ble_eq_true rfl) ?_
        show p0 = (Int.gcd b0 a0 : Int)
        have hr0 : r0 = 0 := by
          first
          | omega
          | exact EUC_e hp0.1 hp0.2.2.1 heu (by omega)
        rw [Int.gcd_comm, ← hg, hr0]
        simp only [Int.gcd_zero_right]
        omega
      · skip
        refine lv_lload hx hb dX7_greatestDivisor_17 (lv_at hl 1 rfl) ?_
        refine lv_lconst (v := Int64.ofInt 0) hx hb dX7_greatestDivisor_19 (by decide) ?_
        refine rj_cmp hx hb dX7_greatestDivisor_20 ⟨by omega, by omega⟩ ⟨by omega, by omega⟩ (fun z20 e20 => ?_)
        refine ri_if_eq (tgt := 45) hx hb dX7_greatestDivisor_21 (by decide) ⟨by omega, by omega⟩ (fun c21 => ?_) (fun c21 => ?_)
        · skip
          have c21 : r0 = 0 := by omega
          clear e20
          refine lv_lload hx hb dX7_greatestDivisor_45 (lv_at hl 2 rfl) ?_
          refine zr_J hx hb hr hlk hQ () hP hD hS dX7_greatestDivisor_47 (Nat.le_of_ble_eq_true rfl) (Nat.le_of_ble_eq_true rfl) ?_
          show p0 = (Int.gcd b0 a0 : Int)
          have hr0 : r0 = 0 := by
            first
            | omega
            | exact EUC_e hp0.1 hp0.2.2.1 heu (by omega)
          rw [Int.gcd_comm, ← hg, hr0]
          simp only [Int.gcd_zero_right]
          omega
        · skip
          have c21 : ¬ r0 = 0 := by omega
          clear e20
          refine lv_lload hx hb dX7_greatestDivisor_24 (lv_at hl 2 rfl) ?_
          refine lv_lload hx hb dX7_greatestDivisor_26 (lv_at hl 1 rfl) ?_
          refine rj_rem hx hb dX7_greatestDivisor_28 ⟨by omega, by omega⟩ ⟨by omega, by omega⟩ (fun z28 e28 => ?_)
          refine lv_lstore (lv' := [(9, vJ z28), (8, vI sp), (6, vJ r0), (4, vJ p0), (0, vJ a0), (2, vJ b0)]) hx hb dX7_greatestDivisor_29 hl (by decide) rfl (fun ls hl => ?_)
          refine lv_lload hx hb dX7_greatestDivisor_31 (lv_at hl 2 rfl) ?_
          refine lv_lstore (lv' := [(4, vJ r0), (9, vJ z28), (8, vI sp), (6, vJ r0), (0, vJ a0), (2, vJ b0)]) hx hb dX7_greatestDivisor_33 hl (by decide) rfl (fun ls hl => ?_)
          refine lv_lload hx hb dX7_greatestDivisor_35 (lv_at hl 1 rfl) ?_
          refine lv_lstore (lv' := [(6, vJ z28), (4, vJ r0), (9, vJ z28), (8, vI sp), (0, vJ a0), (2, vJ b0)]) hx hb dX7_greatestDivisor_37 hl (by decide) rfl (fun ls hl => ?_)
          obtain ⟨z39, e39⟩ : ∃ q : Int, q = sp + 1 := ⟨_, rfl⟩
          refine ri_inc (lv' := [(8, vI z39), (6, vJ z28), (4, vJ r0), (9, vJ z28), (0, vJ a0), (2, vJ b0)]) hx hb dX7_greatestDivisor_39 hl (k := 3) rfl (by decide) z39 e39 rfl (fun ls hl => ?_)
          refine lv_goto (tgt := 9) hx hb dX7_greatestDivisor_42 (by decide) ?_
          have hm28 : 0 ≤ z28 ∧ z28 < r0 := by rw [e28]; exact ⟨Int.emod_nonneg _ (by omega), Int.emod_lt_of_pos _ (by omega)⟩
          exact ih9 r0 z28 z39 (by omega) (by first | assumption | omega) (by rw [← hg, gcd_step (by omega) (show 0 < r0 by omega), e28]) (by rw [e39, e28, show (sp + 1).toNat = sp.toNat + 1 by omega]; exact EUC_s (by omega) (by omega) heu) (by omega) _ _ hP hD hS ls (lv_sub hl [0, 1, 2, 4, 5] rfl)
  exact L9 _ a0 b0 0 (by first | assumption | omega) (by first | assumption | omega) (by rfl) (by exact EUC_0 (by omega) (by omega) (by omega)) (Nat.lt_succ_self _) _ _ hP hD hS ls (lv_sub hl [0, 1, 2, 3, 4] rfl)
set_option maxHeartbeats 4000000 in
set_option maxRecDepth 100000 in
theorem k_X7_odds (l : Launch) (g : va_G) (ca : Nat → ClassId) (h7 : Nat) (hd : Nat) (h0 : Nat) (s0 : Nat) (hp : Nat) (hi : Nat) (hc : Nat) (hg : Nat) (hq : Nat) (hz : Nat) (hL : Nat) (hy : Nat) (h1 : Nat) (b : Int → Int) (n : Int) (lm : Int) (o : Int) (x : Int) (hB : GB b n) (hx0 : in32 o) (hx1 : in32 x) : zJ (S := Unit) l yX7_odds wsX7_odds ({ frames := 2, cells := 0, slots := 0, locals := 47 } : Room) g ca [.ref h7, vI o, vI x] [(h7, oB 7 [.ref hd, .ref h0, .ref s0, .ref hp, .ref hi, .ref hc, .ref hg, .ref hq, .ref hz, .ref hL, .ref hy]), (h0, oB 6 [.ref h1, vI n, vJ lm]), (h1, aJ ca 605 b)] (fun (z : Int) (u : Unit) => z = odv b n o x) (fun (u : Unit) => [(h7, oB 7 [.ref hd, .ref h0, .ref s0, .ref hp, .ref hi, .ref hc, .ref hg, .ref hq, .ref hz, .ref hL, .ref hy]), (h0, oB 6 [.ref h1, vI n, vJ lm]), (h1, aJ ca 605 b)]) 0 0 := by
  refine zm_J (cc := cX7_odds) (maxL := 9) (ret := some .long) (by decide) rfl (Nat.le_of_ble_eq_true rfl) ?_
  intro p e s m below meth c A ls R args Q hR hargs hQ hx hb hml hr hts hown hlk hnm hK hP hD hA hS hl
  have hown : s.vm.findClass RX7 = some m.cls := hown
  have hl : lv_has ls 9 [(0, .ref h7), (1, vI o), (2, vI x)] := hl
  have lk_c143 : (Cond.constantLong RX7 143 (-1)).before args s = true := hts _ (by decide +kernel)
  have lk_f19 : (Cond.fieldLink RX7 19 "DripRings" "rings" "LDripRings$Rings;").before args s = true := hts _ (by decide +kernel)
  have inF_X7 : ∀ w ∈ wsX70, w ∈ wsX7_odds := by decide +kernel
  have hn0 := hB.1
  have ht0 := tot_bd hB
  refine lv_iload_n hx hb dX7_odds_0 rfl (lv_at hl 1 rfl) ?_
  refine zc_SI (As := [vI o]) (rest := []) (wc := []) (wr := [(h7, oB 7 [.ref hd, .ref h0, .ref s0, .ref hp, .ref hi, .ref hc, .ref hg, .ref hq, .ref hz, .ref hL, .ref hy]), (h0, oB 6 [.ref h1, vI n, vJ lm]), (h1, aJ ca 605 b)]) (k_X7_isNoOrder l g ca o (by exact hx0)) dX7_odds_1 (va_cwS 1 hts gX7_odds_X7_isNoOrder rfl rfl rfl (by decide +kernel) (by rw [hR]; exact ⟨Nat.le_of_ble_eq_true rfl, Nat.le_of_ble_eq_true rfl⟩)) ⟨hx, hb, hml, hown, hts⟩ hl.1 hK hP hD hS hA [] [0, 1, 2] rfl (by decide) rfl (by decide) (by decide) rfl rfl (Nat.le_of_ble_eq_true rfl) (by rw [hR]; exact ⟨Nat.le_of_ble_eq_true rfl, Nat.le_of_ble_eq_true rfl⟩) (fun z1 u H locs q1 hP hD hS => ?_)
  have q1 : (z1 = 1 ∧ ¬ (0 ≤ o ∧ o ≤ 4)) ∨ (z1 = 0 ∧ 0 ≤ o ∧ o ≤ 4) := q1
  have hP : va_P g vwCl [(h7, oB 7 [.ref hd, .ref h0, .ref s0, .ref hp, .ref hi, .ref hc, .ref hg, .ref hq, .ref hz, .ref hL, .ref hy]), (h0, oB 6 [.ref h1, vI n, vJ lm]), (h1, aJ ca 605 b)] H := hP.sub [0, 1, 2] rfl
  have hD : va_D A [(h7, oB 7 [.ref hd, .ref h0, .ref s0, .ref hp, .ref hi, .ref hc, .ref hg, .ref hq, .ref hz, .ref hL, .ref hy]), (h0, oB 6 [.ref h1, vI n, vJ lm]), (h1, aJ ca 605 b)] := hD.sub [0, 1, 2] (by decide) rfl
  refine ri_if_ne (tgt := 16) hx hb dX7_odds_4 (by decide) ⟨by omega, by omega⟩ (fun c4 => ?_) (fun c4 => ?_)
  · skip
    refine rj_ldc (z := (-1)) hx hb hown lk_c143 dX7_odds_16 (by decide) ?_
    refine zr_J hx hb hr hlk hQ () hP hD hS dX7_odds_19 (Nat.le_of_ble_eq_true rfl) (Nat.le_of_ble_eq_true rfl) ?_
    show (-1) = odv b n o x
    unfold odv
    first
    | (exfalso; omega)
    | (rw [if_neg (fun q => by omega)])
    | (rw [if_pos (by omega), if_pos (by omega)])
    | (rw [if_pos (by omega), if_neg (by omega), if_pos (by omega), e73, q50, q42, q24])
    | (rw [if_pos (by omega), if_neg (by omega), if_neg (by omega), e80, q50, q42, q24])
  · skip
    refine lv_iload_n hx hb dX7_odds_7 rfl (lv_at hl 2 rfl) ?_
    refine lv_iconst (v := Int32.ofInt 0) hx hb dX7_odds_8 rfl ?_
    refine lv_iconst (v := Int32.ofInt 1) hx hb dX7_odds_9 rfl ?_
    refine zc_SI (As := [vI x, vI 0, vI 1]) (rest := []) (wc := []) (wr := [(h7, oB 7 [.ref hd, .ref h0, .ref s0, .ref hp, .ref hi, .ref hc, .ref hg, .ref hq, .ref hz, .ref hL, .ref hy]), (h0, oB 6 [.ref h1, vI n, vJ lm]), (h1, aJ ca 605 b)]) (k_X7_isOutside l g ca x 0 1 (by exact hx1) (by exact ⟨by omega, by omega⟩) (by exact ⟨by omega, by omega⟩)) dX7_odds_10 (va_cwS 3 hts gX7_odds_X7_isOutside rfl rfl rfl (by decide +kernel) (by rw [hR]; exact ⟨Nat.le_of_ble_eq_true rfl, Nat.le_of_ble_eq_true rfl⟩)) ⟨hx, hb, hml, hown, hts⟩ hl.1 hK hP hD hS hA [] [0, 1, 2] rfl (by decide) rfl (by decide) (by decide) rfl rfl (Nat.le_of_ble_eq_true rfl) (by rw [hR]; exact ⟨Nat.le_of_ble_eq_true rfl, Nat.le_of_ble_eq_true rfl⟩) (fun z10 u H locs q10 hP hD hS => ?_)
    have q10 : (z10 = 1 ∧ ¬ (0 ≤ x ∧ x ≤ 1)) ∨ (z10 = 0 ∧ 0 ≤ x ∧ x ≤ 1) := q10
    have hP : va_P g vwCl [(h7, oB 7 [.ref hd, .ref h0, .ref s0, .ref hp, .ref hi, .ref hc, .ref hg, .ref hq, .ref hz, .ref hL, .ref hy]), (h0, oB 6 [.ref h1, vI n, vJ lm]), (h1, aJ ca 605 b)] H := hP.sub [0, 1, 2] rfl
    have hD : va_D A [(h7, oB 7 [.ref hd, .ref h0, .ref s0, .ref hp, .ref hi, .ref hc, .ref hg, .ref hq, .ref hz, .ref hL, .ref hy]), (h0, oB 6 [.ref h1, vI n, vJ lm]), (h1, aJ ca 605 b)] := hD.sub [0, 1, 2] (by decide) rfl
    refine ri_if_eq (tgt := 20) hx hb dX7_odds_13 (by decide) ⟨by omega, by omega⟩ (fun c13 => ?_) (fun c13 => ?_)
    · skip
      refine lv_aload_n hx hb dX7_odds_20 rfl (lv_at hl 0 rfl) ?_
      refine va_get (D := g) (ci := 7) (v := .ref h0) (C := RX7) (T := TX7) (N := 11) hx hb hts inF_X7 hown hK.1 hP 0 rfl rfl 1 (by decide) lk_f19 (fun _ h9 => h9) rfl dX7_odds_21 ?_
      refine zc_VJ (As := []) (rest := []) (wc := [(h0, oB 6 [.ref h1, vI n, vJ lm]), (h1, aJ ca 605 b)]) (wr := [(h7, oB 7 [.ref hd, .ref h0, .ref s0, .ref hp, .ref hi, .ref hc, .ref hg, .ref hq, .ref hz, .ref hL, .ref hy])]) (k_X6_total l g ca h0 h1 b n lm (by first | assumption | omega)) dX7_odds_24 (cwV 0 hts gX7_odds_X6_total rfl rfl rfl (by decide +kernel) (by rw [hR]; exact ⟨Nat.le_of_ble_eq_true rfl, Nat.le_of_ble_eq_true rfl⟩)) ⟨hx, hb, hml, hown, hts⟩ hl.1 hK hP hD hS hA 1 rfl rfl rfl [1, 2] [0] rfl (by decide) rfl (by decide) (by decide) rfl rfl (Nat.le_of_ble_eq_true rfl) (by rw [hR]; exact ⟨Nat.le_of_ble_eq_true rfl, Nat.le_of_ble_eq_true rfl⟩) (fun z24 u H locs q24 hP hD hS => ?_)
      have q24 : z24 = tot b n := q24
      have hP : va_P g vwCl [(h7, oB 7 [.ref hd, .ref h0, .ref s0, .ref hp, .ref hi, .ref hc, .ref hg, .ref hq, .ref hz, .ref hL, .ref hy]), (h0, oB 6 [.ref h1, vI n, vJ lm]), (h1, aJ ca 605 b)] H := hP.sub [0, 1, 2] rfl
      have hD : va_D A [(h7, oB 7 [.ref hd, .ref h0, .ref s0, .ref hp, .ref hi, .ref hc, .ref hg, .ref hq, .ref hz, .ref hL, .ref hy]), (h0, oB 6 [.ref h1, vI n, vJ lm]), (h1, aJ ca 605 b)] := hD.sub [0, 1, 2] (by decide) rfl
      refine lv_lstore_n (lv' := [(3, vJ z24), (0, .ref h7), (1, vI o), (2, vI x)]) hx hb dX7_odds_27 rfl hl (by decide) rfl (fun ls hl => ?_)
      refine lv_lload_n hx hb dX7_odds_28 rfl (lv_at hl 0 rfl) ?_
      refine lv_lconst (v := Int64.ofInt 0) hx hb dX7_odds_29 (by decide) ?_
      refine rj_cmp hx hb dX7_odds_30 ⟨by omega, by omega⟩ ⟨by omega, by omega⟩ (fun z30 e30 => ?_)
      refine ri_if_gt (tgt := 37) hx hb dX7_odds_31 (by decide) ⟨by omega, by omega⟩ (fun c31 => ?_) (fun c31 => ?_)
      · skip
        have c31 : 0 < z24 := by omega
        clear e30
        refine lv_aload_n hx hb dX7_odds_37 rfl (lv_at hl 1 rfl) ?_
        refine va_get (D := g) (ci := 7) (v := .ref h0) (C := RX7) (T := TX7) (N := 11) hx hb hts inF_X7 hown hK.1 hP 0 rfl rfl 1 (by decide) lk_f19 (fun _ h9 => h9) rfl dX7_odds_38 ?_
        refine lv_iload_n hx hb dX7_odds_41 rfl (lv_at hl 2 rfl) ?_
        refine zc_VJ (As := [vI o]) (rest := []) (wc := [(h0, oB 6 [.ref h1, vI n, vJ lm]), (h1, aJ ca 605 b)]) (wr := [(h7, oB 7 [.ref hd, .ref h0, .ref s0, .ref hp, .ref hi, .ref hc, .ref hg, .ref hq, .ref hz, .ref hL, .ref hy])]) (k_X6_ofOrder l g ca h0 h1 b n lm o (by first | assumption | omega) (by first | assumption | omega)) dX7_odds_42 (cwV 1 hts gX7_odds_X6_ofOrder rfl rfl rfl (by decide +kernel) (by rw [hR]; exact ⟨Nat.le_of_ble_eq_true rfl, Nat.le_of_ble_eq_true rfl⟩)) ⟨hx, hb, hml, hown, hts⟩ hl.1 hK hP hD hS hA 1 rfl rfl rfl [1, 2] [0] rfl (by decide) rfl (by decide) (by decide) rfl rfl (Nat.le_of_ble_eq_true rfl) (by rw [hR]; exact ⟨Nat.le_of_ble_eq_true rfl, Nat.le_of_ble_eq_true rfl⟩) (fun z42 u H locs q42 hP hD hS => ?_)
        have q42 : z42 = cnt b n o := q42
        have hP : va_P g vwCl [(h7, oB 7 [.ref hd, .ref h0, .ref s0, .ref hp, .ref hi, .ref hc, .ref hg, .ref hq, .ref hz, .ref hL, .ref hy]), (h0, oB 6 [.ref h1, vI n, vJ lm]), (h1, aJ ca 605 b)] H := hP.sub [0, 1, 2] rfl
        have hD : va_D A [(h7, oB 7 [.ref hd, .ref h0, .ref s0, .ref hp, .ref hi, .ref hc, .ref hg, .ref hq, .ref hz, .ref hL, .ref hy]), (h0, oB 6 [.ref h1, vI n, vJ lm]), (h1, aJ ca 605 b)] := hD.sub [0, 1, 2] (by decide) rfl
        have hc45 := cnt_bd hB (o := o) (by omega) (by omega)
        have hc46 := sm_cnt hB (o := o) (by omega) (by omega)
        refine lv_lstore (lv' := [(5, vJ z42), (3, vJ z24), (0, .ref h7), (1, vI o), (2, vI x)]) hx hb dX7_odds_45 hl (by decide) rfl (fun ls hl => ?_)
        refine lv_lload_n hx hb dX7_odds_47 rfl (lv_at hl 1 rfl) ?_
        refine lv_lload hx hb dX7_odds_48 (lv_at hl 0 rfl) ?_
        refine zc_SJ (As := [vJ z24, vJ z42]) (rest := []) (wc := []) (wr := [(h7, oB 7 [.ref hd, .ref h0, .ref s0, .ref hp, .ref hi, .ref hc, .ref hg, .ref hq, .ref hz, .ref hL, .ref hy]), (h0, oB 6 [.ref h1, vI n, vJ lm]), (h1, aJ ca 605 b)]) (k_X7_greatestDivisor l g ca z24 z42 (by omega) (by omega)) dX7_odds_50 (va_cwS 2 hts gX7_odds_X7_greatestDivisor rfl rfl rfl (by decide +kernel) (by rw [hR]; exact ⟨Nat.le_of_ble_eq_true rfl, Nat.le_of_ble_eq_true rfl⟩)) ⟨hx, hb, hml, hown, hts⟩ hl.1 hK hP hD hS hA [] [0, 1, 2] rfl (by decide) rfl (by decide) (by decide) rfl rfl (Nat.le_of_ble_eq_true rfl) (by rw [hR]; exact ⟨Nat.le_of_ble_eq_true rfl, Nat.le_of_ble_eq_true rfl⟩) (fun z50 u H locs q50 hP hD hS => ?_)
        have q50 : z50 = (Int.gcd z42 z24 : Int) := q50
        have hP : va_P g vwCl [(h7, oB 7 [.ref hd, .ref h0, .ref s0, .ref hp, .ref hi, .ref hc, .ref hg, .ref hq, .ref hz, .ref hL, .ref hy]), (h0, oB 6 [.ref h1, vI n, vJ lm]), (h1, aJ ca 605 b)] H := hP.sub [0, 1, 2] rfl
        have hD : va_D A [(h7, oB 7 [.ref hd, .ref h0, .ref s0, .ref hp, .ref hi, .ref hc, .ref hg, .ref hq, .ref hz, .ref hL, .ref hy]), (h0, oB 6 [.ref h1, vI n, vJ lm]), (h1, aJ ca 605 b)] := hD.sub [0, 1, 2] (by decide) rfl
        have hgpos : 0 < z50 ∧ z50 ≤ 1000000000000000 := by
          have h9 : 0 < Int.gcd z42 z24 := Int.gcd_pos_of_ne_zero_right _ (by omega)
          have h8 : (Int.gcd z42 z24 : Int) ≤ z24 := Int.le_of_dvd (by omega) (Int.gcd_dvd_right ..)
          omega
        refine lv_lstore (lv' := [(7, vJ z50), (5, vJ z42), (3, vJ z24), (0, .ref h7), (1, vI o), (2, vI x)]) hx hb dX7_odds_53 hl (by decide) rfl (fun ls hl => ?_)
        refine lv_lload hx hb dX7_odds_55 (lv_at hl 0 rfl) ?_
        refine lv_lconst (v := Int64.ofInt 0) hx hb dX7_odds_57 (by decide) ?_
        refine rj_cmp hx hb dX7_odds_58 ⟨by omega, by omega⟩ ⟨by omega, by omega⟩ (fun z58 e58 => ?_)
        refine ri_if_gt (tgt := 65) hx hb dX7_odds_59 (by decide) ⟨by omega, by omega⟩ (fun c59 => ?_) (fun c59 => ?_)
        · skip
          have c59 : 0 < z50 := by omega
          clear e58
          refine lv_iload_n hx hb dX7_odds_65 rfl (lv_at hl 5 rfl) ?_
          refine ri_if_ne (tgt := 77) hx hb dX7_odds_66 (by decide) ⟨by omega, by omega⟩ (fun c66 => ?_) (fun c66 => ?_)
          · skip
            refine lv_lload_n hx hb dX7_odds_77 rfl (lv_at hl 2 rfl) ?_
            refine lv_lload hx hb dX7_odds_78 (lv_at hl 0 rfl) ?_
            refine rj_div hx hb dX7_odds_80 ⟨by omega, by omega⟩ ⟨by omega, by omega⟩ (fun z80 e80 => ?_)
            refine zr_J hx hb hr hlk hQ () hP hD hS dX7_odds_81 (Nat.le_of_ble_eq_true rfl) (Nat.le_of_ble_eq_true rfl) ?_
            show z80 = odv b n o x
            unfold odv
            first
            | (exfalso; omega)
            | (rw [if_neg (fun q => by omega)])
            | (rw [if_pos (by omega), if_pos (by omega)])
            | (rw [if_pos (by omega), if_neg (by omega), if_pos (by omega), e73, q50, q42, q24])
            | (rw [if_pos (by omega), if_neg (by omega), if_neg (by omega), e80, q50, q42, q24])
          · skip
            refine lv_lload hx hb dX7_odds_69 (lv_at hl 1 rfl) ?_
            refine lv_lload hx hb dX7_odds_71 (lv_at hl 0 rfl) ?_
            refine rj_div hx hb dX7_odds_73 ⟨by omega, by omega⟩ ⟨by omega, by omega⟩ (fun z73 e73 => ?_)
            refine lv_goto (tgt := 81) hx hb dX7_odds_74 (by decide) ?_
            refine zr_J hx hb hr hlk hQ () hP hD hS dX7_odds_81 (Nat.le_of_ble_eq_true rfl) (Nat.le_of_ble_eq_true rfl) ?_
            show z73 = odv b n o x
            unfold odv
            first
            | (exfalso; omega)
            | (rw [if_neg (fun q => by omega)])
            | (rw [if_pos (by omega), if_pos (by omega)])
            | (rw [if_pos (by omega), if_neg (by omega), if_pos (by omega), e73, q50, q42, q24])
            | (rw [if_pos (by omega), if_neg (by omega), if_neg (by omega), e80, q50, q42, q24])
        · skip
          have c59 : z50 ≤ 0 := by omega
          clear e58
          refine lv_iload_n hx hb dX7_odds_62 rfl (lv_at hl 5 rfl) ?_
          refine ri_l hx hb dX7_odds_63 ⟨by omega, by omega⟩ ?_
          refine zr_J hx hb hr hlk hQ () hP hD hS dX7_odds_64 (Nat.le_of_ble_eq_true rfl) (Nat.le_of_ble_eq_true rfl) ?_
          show x = odv b n o x
          unfold odv
          first
          | (exfalso; omega)
          | (rw [if_neg (fun q => by omega)])
          | (rw [if_pos (by omega), if_pos (by omega)])
          | (rw [if_pos (by omega), if_neg (by omega), if_pos (by omega), e73, q50, q42, q24])
          | (rw [if_pos (by omega), if_neg (by omega), if_neg (by omega), e80, q50, q42, q24])
      · skip
        have c31 : z24 ≤ 0 := by omega
        clear e30
        refine lv_iload_n hx hb dX7_odds_34 rfl (lv_at hl 3 rfl) ?_
        refine ri_l hx hb dX7_odds_35 ⟨by omega, by omega⟩ ?_
        refine zr_J hx hb hr hlk hQ () hP hD hS dX7_odds_36 (Nat.le_of_ble_eq_true rfl) (Nat.le_of_ble_eq_true rfl) ?_
        show x = odv b n o x
        unfold odv
        first
        | (exfalso; omega)
        | (rw [if_neg (fun q => by omega)])
        | (rw [if_pos (by omega), if_pos (by omega)])
        | (rw [if_pos (by omega), if_neg (by omega), if_pos (by omega), e73, q50, q42, q24])
        | (rw [if_pos (by omega), if_neg (by omega), if_neg (by omega), e80, q50, q42, q24])
    · skip
      refine rj_ldc (z := (-1)) hx hb hown lk_c143 dX7_odds_16 (by decide) ?_
      refine zr_J hx hb hr hlk hQ () hP hD hS dX7_odds_19 (Nat.le_of_ble_eq_true rfl) (Nat.le_of_ble_eq_true rfl) ?_
      show (-1) = odv b n o x
      unfold odv
      first
      | (exfalso; omega)
      | (rw [if_neg (fun q => by omega)])
      | (rw [if_pos (by omega), if_pos (by omega)])
      | (rw [if_pos (by omega), if_neg (by omega), if_pos (by omega), e73, q50, q42, q24])
      | (rw [if_pos (by omega), if_neg (by omega), if_neg (by omega), e80, q50, q42, q24])
set_option maxHeartbeats 4000000 in
set_option maxRecDepth 100000 in
theorem k_X7_age (l : Launch) (g : va_G) (ca : Nat → ClassId) (h7 : Nat) (hd : Nat) (h0 : Nat) (s0 : Nat) (hp : Nat) (hi : Nat) (hc : Nat) (hg : Nat) (hq : Nat) (hz : Nat) (hL : Nat) (hy : Nat) (hw : Nat) (he : Nat) (hdn : Nat) (hdw : Nat) (w : Int → Int) (du : Int) (hv : Int) (mo : Int) (oft : Int) (la : Int) (pA : Int) (pB : Int) (x : Int) (hW : GW w) (hx0 : in32 x) : zI (S := Unit) l yX7_age wsX7_age ({ frames := 1, cells := 0, slots := 0, locals := 22 } : Room) g ca [.ref h7, vI x] [(h7, oB 7 [.ref hd, .ref h0, .ref s0, .ref hp, .ref hi, .ref hc, .ref hg, .ref hq, .ref hz, .ref hL, .ref hy]), (hL, oB 2 [.ref hw, .ref he, .ref hdn, .ref hdw, vI du, vI hv, vI mo, vI oft, vI la, vI pA, vI pB]), (hw, aI ca 5 w)] (fun (z : Int) (u : Unit) => z = agv w x) (fun (u : Unit) => [(h7, oB 7 [.ref hd, .ref h0, .ref s0, .ref hp, .ref hi, .ref hc, .ref hg, .ref hq, .ref hz, .ref hL, .ref hy]), (hL, oB 2 [.ref hw, .ref he, .ref hdn, .ref hdw, vI du, vI hv, vI mo, vI oft, vI la, vI pA, vI pB]), (hw, aI ca 5 w)]) 0 0 := by
  refine zm_I (cc := cX7_age) (maxL := 4) (ret := some .int) (by decide) rfl (Nat.le_of_ble_eq_true rfl) ?_
  intro p e s m below meth c A ls R args Q hR hargs hQ hx hb hml hr hts hown hlk hnm hK hP hD hA hS hl
  have hown : s.vm.findClass RX7 = some m.cls := hown
  have hl : lv_has ls 4 [(0, .ref h7), (1, vI x)] := hl
  have lk_f65 : (Cond.fieldLink RX7 65 "DripRings" "law" "LDripRings$Law;").before args s = true := hts _ (by decide +kernel)
  have inF_X7 : ∀ w ∈ wsX70, w ∈ wsX7_age := by decide +kernel
  have lk_f101 : (Cond.fieldLink RX7 101 "DripRings$Law" "weights" "[I").before args s = true := hts _ (by decide +kernel)
  have inF_X2 : ∀ w ∈ wsX20, w ∈ wsX7_age := by decide +kernel
  refine lv_iload_n hx hb dX7_age_0 rfl (lv_at hl 1 rfl) ?_
  refine lv_iconst (v := Int32.ofInt 1) hx hb dX7_age_1 rfl ?_
  refine lv_bipush (v := Int32.ofInt 99) hx hb dX7_age_2 (by decide) ?_
  refine zc_SI (As := [vI x, vI 1, vI 99]) (rest := []) (wc := []) (wr := [(h7, oB 7 [.ref hd, .ref h0, .ref s0, .ref hp, .ref hi, .ref hc, .ref hg, .ref hq, .ref hz, .ref hL, .ref hy]), (hL, oB 2 [.ref hw, .ref he, .ref hdn, .ref hdw, vI du, vI hv, vI mo, vI oft, vI la, vI pA, vI pB]), (hw, aI ca 5 w)]) (k_X7_isOutside l g ca x 1 99 (by exact hx0) (by exact ⟨by omega, by omega⟩) (by exact ⟨by omega, by omega⟩)) dX7_age_4 (va_cwS 3 hts gX7_age_X7_isOutside rfl rfl rfl (by decide +kernel) (by rw [hR]; exact ⟨Nat.le_of_ble_eq_true rfl, Nat.le_of_ble_eq_true rfl⟩)) ⟨hx, hb, hml, hown, hts⟩ hl.1 hK hP hD hS hA [] [0, 1, 2] rfl (by decide) rfl (by decide) (by decide) rfl rfl (Nat.le_of_ble_eq_true rfl) (by rw [hR]; exact ⟨Nat.le_of_ble_eq_true rfl, Nat.le_of_ble_eq_true rfl⟩) (fun z4 u H locs q4 hP hD hS => ?_)
  have q4 : (z4 = 1 ∧ ¬ (1 ≤ x ∧ x ≤ 99)) ∨ (z4 = 0 ∧ 1 ≤ x ∧ x ≤ 99) := q4
  have hP : va_P g vwCl [(h7, oB 7 [.ref hd, .ref h0, .ref s0, .ref hp, .ref hi, .ref hc, .ref hg, .ref hq, .ref hz, .ref hL, .ref hy]), (hL, oB 2 [.ref hw, .ref he, .ref hdn, .ref hdw, vI du, vI hv, vI mo, vI oft, vI la, vI pA, vI pB]), (hw, aI ca 5 w)] H := hP.sub [0, 1, 2] rfl
  have hD : va_D A [(h7, oB 7 [.ref hd, .ref h0, .ref s0, .ref hp, .ref hi, .ref hc, .ref hg, .ref hq, .ref hz, .ref hL, .ref hy]), (hL, oB 2 [.ref hw, .ref he, .ref hdn, .ref hdw, vI du, vI hv, vI mo, vI oft, vI la, vI pA, vI pB]), (hw, aI ca 5 w)] := hD.sub [0, 1, 2] (by decide) rfl
  refine ri_if_eq (tgt := 12) hx hb dX7_age_7 (by decide) ⟨by omega, by omega⟩ (fun c7 => ?_) (fun c7 => ?_)
  · skip
    refine lv_iconst (v := Int32.ofInt 0) hx hb dX7_age_12 rfl ?_
    refine lv_istore_n (lv' := [(2, vI 0), (0, .ref h7), (1, vI x)]) hx hb dX7_age_13 rfl hl (by decide) rfl (fun ls hl => ?_)
    refine lv_iconst (v := Int32.ofInt 0) hx hb dX7_age_14 rfl ?_
    refine lv_istore_n (lv' := [(3, vI 0), (2, vI 0), (0, .ref h7), (1, vI x)]) hx hb dX7_age_15 rfl hl (by decide) rfl (fun ls hl => ?_)
    have L16 : ∀ (N16 : Nat) (o : Int) (y : Int) (hii : 0 ≤ o ∧ o ≤ 5) (hyy : y = agf w x o.toNat) (hμ : (5 - o).toNat < N16) (H : Heap) (locs : List Loc) (hP : va_P g vwCl [(h7, oB 7 [.ref hd, .ref h0, .ref s0, .ref hp, .ref hi, .ref hc, .ref hg, .ref hq, .ref hz, .ref hL, .ref hy]), (hL, oB 2 [.ref hw, .ref he, .ref hdn, .ref hdw, vI du, vI hv, vI mo, vI oft, vI la, vI pA, vI pB]), (hw, aI ca 5 w)] H) (hD : va_D A [(h7, oB 7 [.ref hd, .ref h0, .ref s0, .ref hp, .ref hi, .ref hc, .ref hg, .ref hq, .ref hz, .ref hL, .ref hy]), (hL, oB 2 [.ref hw, .ref he, .ref hdn, .ref hdw, vI du, vI hv, vI mo, vI oft, vI la, vI pA, vI pB]), (hw, aI ca 5 w)]) (hS : va_S A s.heap H locs) (ls : Array Slot) (hl : lv_has ls 4 [(3, vI o), (2, vI y), (0, .ref h7), (1, vI x)]), W p l e R s m args below meth c H locs 0 0 Q (F0 m 16 ls []) := by
      intro N16; induction N16 with
      | zero => intro o y hii hyy hμ; exact absurd hμ (Nat.not_lt_zero _)
      | succ N16 ih16 =>
        intro o y hii hyy hμ H locs hP hD hS ls hl
        refine lv_iload_n hx hb dX7_age_16 rfl (lv_at hl 0 rfl) ?_
        refine lv_iconst (v := Int32.ofInt 5) hx hb dX7_age_17 rfl ?_
        refine ri_icmp_ge (tgt := 46) hx hb dX7_age_18 (by decide) ⟨by omega, by omega⟩ ⟨by omega, by omega⟩ (fun c18 => ?_) (fun c18 => ?_)
        · skip
          refine lv_iload_n hx hb dX7_age_46 rfl (lv_at hl 1 rfl) ?_
          refine zr_I hx hb hr hlk hQ () hP hD hS dX7_age_47 (Nat.le_of_ble_eq_true rfl) (Nat.le_of_ble_eq_true rfl) ?_
          show y = agv w x
          unfold agv
          first
          | (rw [if_neg (by omega)])
          | (rw [if_pos (by omega), hyy, show o = 5 by omega]; rfl)
        · skip
          have hyb := agf_bd w x o.toNat
          have hpw : (2 ^ o.toNat : Nat) ≤ 16 := by
            rcases (show o = 0 ∨ o = 1 ∨ o = 2 ∨ o = 3 ∨ o = 4 by omega) with rfl | rfl | rfl | rfl | rfl <;> decide
          have hyb2 : 0 ≤ y ∧ y ≤ 16 := by rw [hyy]; omega
          refine lv_aload_n hx hb dX7_age_21 rfl (lv_at hl 2 rfl) ?_
          refine va_get (D := g) (ci := 7) (v := .ref hL) (C := RX7) (T := TX7) (N := 11) hx hb hts inF_X7 hown hK.1 hP 0 rfl rfl 9 (by decide) lk_f65 (fun _ h9 => h9) rfl dX7_age_22 ?_
          refine va_get (D := g) (ci := 2) (v := .ref hw) (C := RX2) (T := TX2) (N := 11) hx hb hts inF_X2 hown hK.1 hP 1 rfl rfl 0 (by decide) lk_f101 (fun _ h9 => h9) rfl dX7_age_25 ?_
          refine lv_iload_n hx hb dX7_age_28 rfl (lv_at hl 0 rfl) ?_
          refine ra_ild hx hb hK hP 2 rfl dX7_age_29 ⟨by omega, by omega⟩ (by omega) ?_
          have hw28 := hW o (by omega) (by omega)
          refine lv_iload_n hx hb dX7_age_30 rfl (lv_at hl 3 rfl) ?_
          refine ri_icmp_ne (tgt := 40) hx hb dX7_age_31 (by decide) ⟨by omega, by omega⟩ hx0 (fun c31 => ?_) (fun c31 => ?_)
          · skip
            obtain ⟨z40, e40⟩ : ∃ q : Int, q = o + 1 := ⟨_, rfl⟩
            refine ri_inc (lv' := [(3, vI z40), (2, vI y), (0, .ref h7), (1, vI x)]) hx hb dX7_age_40 hl (k := 0) rfl (by decide) z40 e40 rfl (fun ls hl => ?_)
            refine lv_goto (tgt := 16) hx hb dX7_age_43 (by decide) ?_
            exact ih16 z40 y (by first | assumption | omega) (by
                  obtain ⟨k9, rfl⟩ : ∃ k9 : Nat, o = k9 := ⟨o.toNat, by omega⟩
                  rw [e40, show ((k9 : Int) + 1).toNat = k9 + 1 by omega]
                  rw [show ((k9 : Int)).toNat = k9 by omega] at hyy
                  show _ = if w k9 = x then _ else agf w x k9
                  first
                  | (rw [if_pos (by omega), e38, e37, hyy, show ((k9 : Int)).toNat = k9 by omega])
                  | (rw [if_neg (by omega), hyy])) (by omega) _ _ hP hD hS ls (lv_sub hl [0, 1, 2, 3] rfl)
          · skip
            refine lv_iload_n hx hb dX7_age_34 rfl (lv_at hl 1 rfl) ?_
            refine lv_iconst (v := Int32.ofInt 1) hx hb dX7_age_35 rfl ?_
            refine lv_iload_n hx hb dX7_age_36 rfl (lv_at hl 0 rfl) ?_
            refine ri_shl1 hx hb dX7_age_37 (by omega) (fun z37 e37 => ?_)
            refine ri_or hx hb dX7_age_38 ⟨by omega, by omega⟩ (by omega) (fun z38 e38 => ?_)
            refine lv_istore_n (lv' := [(2, vI z38), (3, vI o), (0, .ref h7), (1, vI x)]) hx hb dX7_age_39 rfl hl (by decide) rfl (fun ls hl => ?_)
            obtain ⟨z40, e40⟩ : ∃ q : Int, q = o + 1 := ⟨_, rfl⟩
            refine ri_inc (lv' := [(3, vI z40), (2, vI z38), (0, .ref h7), (1, vI x)]) hx hb dX7_age_40 hl (k := 1) rfl (by decide) z40 e40 rfl (fun ls hl => ?_)
            refine lv_goto (tgt := 16) hx hb dX7_age_43 (by decide) ?_
            exact ih16 z40 z38 (by first | assumption | omega) (by
                  obtain ⟨k9, rfl⟩ : ∃ k9 : Nat, o = k9 := ⟨o.toNat, by omega⟩
                  rw [e40, show ((k9 : Int) + 1).toNat = k9 + 1 by omega]
                  rw [show ((k9 : Int)).toNat = k9 by omega] at hyy
                  show _ = if w k9 = x then _ else agf w x k9
                  first
                  | (rw [if_pos (by omega), e38, e37, hyy, show ((k9 : Int)).toNat = k9 by omega])
                  | (rw [if_neg (by omega), hyy])) (by omega) _ _ hP hD hS ls (lv_sub hl [0, 1, 2, 3] rfl)
    exact L16 _ 0 0 (by first | assumption | omega) (by rfl) (Nat.lt_succ_self _) _ _ hP hD hS ls (lv_sub hl [0, 1, 2, 3] rfl)
  · skip
    refine lv_iconst (v := Int32.ofInt (-1)) hx hb dX7_age_10 rfl ?_
    refine zr_I hx hb hr hlk hQ () hP hD hS dX7_age_11 (Nat.le_of_ble_eq_true rfl) (Nat.le_of_ble_eq_true rfl) ?_
    show (-1) = agv w x
    unfold agv
    first
    | (rw [if_neg (by omega)])
    | (rw [if_pos (by omega), hyy, show o = 5 by omega]; rfl)
