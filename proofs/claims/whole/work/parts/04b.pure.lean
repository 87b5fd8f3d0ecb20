/-! Pure words: WEIGHTS, DUES, KINDS -/
/-- the WEIGHT of each ORDER -/
def wk (hv pA pB : Int) : Nat → Int
  | 0 => hv
  | k + 1 => wk hv pA pB k * pA / pB
theorem wk_s (hv pA pB : Int) {o : Int} (h : 0 ≤ o) : wk hv pA pB (o + 1).toNat = wk hv pA pB o.toNat * pA / pB := by
  obtain ⟨k, rfl⟩ : ∃ k : Nat, o = k := ⟨o.toNat, by omega⟩
  rw [show ((k : Int) + 1).toNat = k + 1 by omega, show ((k : Int)).toNat = k by omega]
  rfl
/-- what the text tells is as it may be -/
def LAWok (hv mo oft la pA pB : Int) : Prop := (1 ≤ hv ∧ hv ≤ 99) ∧ (1 ≤ mo ∧ mo ≤ 9) ∧ (1 ≤ oft ∧ oft ≤ 20) ∧ (0 ≤ la ∧ la ≤ 9) ∧ (1 ≤ pA ∧ pA ≤ 8) ∧ pA < pB ∧ pB ≤ 9
theorem mul_rng {a b A B : Int} (ha : 0 ≤ a ∧ a ≤ A) (hb : 0 ≤ b ∧ b ≤ B) : 0 ≤ a * b ∧ a * b ≤ A * B :=
  ⟨Int.mul_nonneg ha.1 hb.1, Int.le_trans (Int.mul_le_mul_of_nonneg_right ha.2 hb.1) (Int.mul_le_mul_of_nonneg_left hb.2 (by omega))⟩
theorem wk_bd {hv pA pB : Int} (h : 0 ≤ hv ∧ hv ≤ 99) (hA : 1 ≤ pA) (hB : pA < pB) : ∀ k : Nat, 0 ≤ wk hv pA pB k ∧ wk hv pA pB k ≤ 99
  | 0 => h
  | k + 1 => by
    have h1 := wk_bd h hA hB k
    have h2 : 0 ≤ wk hv pA pB k * pA := Int.mul_nonneg h1.1 (by omega)
    have h3 : wk hv pA pB k * pA ≤ wk hv pA pB k * pB := Int.mul_le_mul_of_nonneg_left (by omega) h1.1
    refine ⟨Int.ediv_nonneg h2 (by omega), ?_⟩
    have h4 : wk hv pA pB k * pA / pB ≤ wk hv pA pB k * pB / pB := Int.ediv_le_ediv (by omega) h3
    rw [Int.mul_ediv_cancel _ (by omega)] at h4
    show wk hv pA pB k * pA / pB ≤ 99
    omega
/-- the row of WEIGHTS; of EACH -/
def wf (hv pA pB : Int) : Int → Int := fun o => wk hv pA pB o.toNat
def ef (oft la : Int) : Int → Int := fun o => oft + o * la
theorem GW_wf {hv pA pB : Int} (h : 0 ≤ hv ∧ hv ≤ 99) (hA : 1 ≤ pA) (hB : pA < pB) : GW (wf hv pA pB) := fun o _ _ => wk_bd h hA hB o.toNat
theorem ef_bd {oft la : Int} (h : 1 ≤ oft ∧ oft ≤ 20) (h2 : 0 ≤ la ∧ la ≤ 9) : ∀ o : Int, 0 ≤ o → o ≤ 4 → 1 ≤ ef oft la o ∧ ef oft la o ≤ 200 := by
  intro o h0 h4
  have := mul_rng (a := o) (b := la) (A := 4) (B := 9) ⟨h0, h4⟩ h2
  unfold ef
  omega
/-- the last NIGHT of the first k DUES, or now -/
def ld (dn : Int → Int) (now : Int) : Nat → Int
  | 0 => now
  | k + 1 => if ld dn now k < dn k then dn k else ld dn now k
theorem ld_s (dn : Int → Int) (now : Int) {i : Int} (h : 0 ≤ i) : ld dn now (i + 1).toNat = if ld dn now i.toNat < dn i then dn i else ld dn now i.toNat := by
  obtain ⟨k, rfl⟩ : ∃ k : Nat, i = k := ⟨i.toNat, by omega⟩
  rw [show ((k : Int) + 1).toNat = k + 1 by omega, show ((k : Int)).toNat = k by omega]
  rfl
/-- DUES are as they may be -/
def DUok (dn dw : Int → Int) (du : Int) : Prop := (0 ≤ du ∧ du ≤ 6) ∧ ∀ i : Int, 0 ≤ i → i < du → (1 ≤ dn i ∧ dn i ≤ 120) ∧ (1 ≤ dw i ∧ dw i ≤ 200)
/-- RATE as of a KIND; what it adds to THE TRACE -/
def rtv (kd : Int) (w ea : Int → Int) (mo n o : Int) : Int := if kd = 0 then w o else if kd = 1 then w o + mo else if kd = 2 then w o - ea o else if kd = 3 then 2 * (w o + mo) else if kd = 4 then w o - ea o + o else if kd = 5 then w o + n else -1000000
def rtt (kd : Int) : Int := if kd = 0 then 1 else if kd = 1 then 11 else if kd = 2 then 101 else if kd = 3 then 1011 else if kd = 4 then 10101 else if kd = 5 then 100001 else 0
/-- all that was told of the GRAVE is so -/
def grk (b : Int → Int) (n : Int) (go gn : Int → Int) (to : Int) : Prop := ∀ i : Int, 0 ≤ i → i < to → cnt b n (go i) = gn i
def GRok (go gn : Int → Int) (to : Int) : Prop := (0 ≤ to ∧ to ≤ 5) ∧ ∀ i : Int, 0 ≤ i → i < to → (0 ≤ go i ∧ go i ≤ 4) ∧ (0 ≤ gn i ∧ gn i ≤ 1000000)
