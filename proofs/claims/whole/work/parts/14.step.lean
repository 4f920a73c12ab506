/-! a ten in both readings -/
theorem nn {x : Int32} (h : ¬ x < 0) : 0 ≤ x.toInt := Int.not_lt.mp (mt (fun (q : x.toInt < 0) => ilt.mpr q) h)
theorem nn' {x : Int32} (h : 0 ≤ x.toInt) : ¬ x < 0 := fun q => absurd (ilt.mp q : x.toInt < 0) (Int.not_lt.mpr h)
theorem sdn : sDOWN (0 : Int32).toNatClampNeg = -1 ∧ sDOWN (1 : Int32).toNatClampNeg = -1 ∧ sDOWN (2 : Int32).toNatClampNeg = 0 ∧ sDOWN (3 : Int32).toNatClampNeg = 1 ∧ sDOWN (4 : Int32).toNatClampNeg = 1 ∧ sDOWN (5 : Int32).toNatClampNeg = 1 ∧ sDOWN (6 : Int32).toNatClampNeg = 0 ∧ sDOWN (7 : Int32).toNatClampNeg = -1 := by decide
theorem sac : sACROSS (0 : Int32).toNatClampNeg = 0 ∧ sACROSS (1 : Int32).toNatClampNeg = 1 ∧ sACROSS (2 : Int32).toNatClampNeg = 1 ∧ sACROSS (3 : Int32).toNatClampNeg = 1 ∧ sACROSS (4 : Int32).toNatClampNeg = 0 ∧ sACROSS (5 : Int32).toNatClampNeg = -1 ∧ sACROSS (6 : Int32).toNatClampNeg = -1 ∧ sACROSS (7 : Int32).toNatClampNeg = -1 := by decide
def nbr (R C c d : Int32) : Int32 :=
  if c / C + sDOWN d.toNatClampNeg < 0 then -1 else if R ≤ c / C + sDOWN d.toNatClampNeg then -1 else if zrem c C + sACROSS d.toNatClampNeg < 0 then -1 else if zrem c C + sACROSS d.toNatClampNeg < C then (c / C + sDOWN d.toNatClampNeg) * C + (zrem c C + sACROSS d.toNatClampNeg) else -1
def CellOk (w : Nat → Nat → Int32) (c : Int32) : Prop := 0 ≤ c.toInt ∧ c.toInt < (w 1 1).toInt * (w 1 2).toInt
theorem dim_mul {w : Nat → Nat → Int32} (hd : RDim (w 1 1) (w 1 2)) : (w 1 1 * w 1 2).toInt = (w 1 1).toInt * (w 1 2).toInt ∧ 0 ≤ (w 1 1).toInt * (w 1 2).toInt ∧ (w 1 1).toInt * (w 1 2).toInt ≤ 64 := by
  rcases hd with ⟨h1, h2⟩ | ⟨⟨h1, h2⟩, ⟨h3, h4⟩⟩
  · rw [h1, h2]; decide
  · have a : (w 1 1).toInt * (w 1 2).toInt ≤ 8 * 8 := Int.mul_le_mul h2 h4 (by omega) (by omega)
    have b : 0 ≤ (w 1 1).toInt * (w 1 2).toInt := Int.mul_nonneg (by omega) (by omega)
    exact ⟨im (by omega) (by omega), b, by omega⟩
theorem cell_dim {w : Nat → Nat → Int32} (hd : RDim (w 1 1) (w 1 2)) {c : Int32} (hc : CellOk w c) : Rng (w 1 1) 2 8 ∧ Rng (w 1 2) 2 8 := by
  rcases hd with ⟨h1, h2⟩ | h
  · obtain ⟨h3, h4⟩ := hc; rw [h1, h2] at h4; simp at h4; omega
  · exact h
theorem cell_64 {w : Nat → Nat → Int32} (hd : RDim (w 1 1) (w 1 2)) {c : Int32} (hc : CellOk w c) : c.toInt < 64 := Int.lt_of_lt_of_le hc.2 (dim_mul hd).2.2
theorem cell_in {w : Nat → Nat → Int32} (hd : RDim (w 1 1) (w 1 2)) {c : Int32} (hc : CellOk w c) : vp_in c 64 := vin_of hc.1 (cell_64 hd hc)
theorem e_has1 {w : Nat → Nat → Int32} (hd : RDim (w 1 1) (w 1 2)) {c : Int32} (hc : CellOk w c) : fX1_has (sh 1 w) c = some 1 := by
  unfold fX1_has
  have h1 : ¬ c < 0 := fun h => by have := ilt.mp h; have := hc.1; simp at *; omega
  have h2 : ¬ w 1 1 * w 1 2 ≤ c := fun h => by have := ile.mp h; have := hc.2; rw [(dim_mul hd).1] at *; omega
  rw [if_neg h1]
  exact if_neg h2
theorem e_has0 {w : Nat → Nat → Int32} (hd : RDim (w 1 1) (w 1 2)) {c : Int32} (hc : ¬ CellOk w c) : fX1_has (sh 1 w) c = some 0 := by
  unfold fX1_has
  by_cases h1 : c < 0
  · rw [if_pos h1]
  · rw [if_neg h1]
    have h3 : ¬ c.toInt < 0 := fun h => h1 (ilt.mpr h)
    have h2 : w 1 1 * w 1 2 ≤ c := ile.mpr (by rw [(dim_mul hd).1]; exact Int.not_lt.mp (fun h => hc ⟨by omega, h⟩))
    exact if_pos h2
theorem nbr_r {w : Nat → Nat → Int32} (hd : RDim (w 1 1) (w 1 2)) {c d : Int32} (hc : CellOk w c) (hdd : D8 d) : nbr (w 1 1) (w 1 2) c d = -1 ∨ CellOk w (nbr (w 1 1) (w 1 2) c d) := by
  obtain ⟨⟨r2, r8⟩, ⟨k2, k8⟩⟩ := cell_dim hd hc
  have h64 := cell_64 hd hc
  have q1 : (c / w 1 2).toInt = c.toInt / (w 1 2).toInt := idv hc.1 (by omega)
  have q2 : (zrem c (w 1 2)).toInt = c.toInt % (w 1 2).toInt := irm hc.1 (by omega)
  have b1 : 0 ≤ c.toInt / (w 1 2).toInt := Int.ediv_nonneg hc.1 (by omega)
  have b2 : c.toInt / (w 1 2).toInt ≤ c.toInt := Int.ediv_le_self _ hc.1
  have b3 := Int.emod_nonneg c.toInt (by omega : (w 1 2).toInt ≠ 0)
  have b4 := Int.emod_lt_of_pos c.toInt (by omega : 0 < (w 1 2).toInt)
  have bd : ∀ x : Int32, D8 x → -1 ≤ (sDOWN x.toNatClampNeg).toInt ∧ (sDOWN x.toNatClampNeg).toInt ≤ 1 ∧ -1 ≤ (sACROSS x.toNatClampNeg).toInt ∧ (sACROSS x.toNatClampNeg).toInt ≤ 1 := fun x hx => by
    rcases c8 hx.1 hx.2 with rfl | rfl | rfl | rfl | rfl | rfl | rfl | rfl <;> decide
  obtain ⟨d1, d2, d3, d4⟩ := bd d hdd
  unfold nbr
  generalize sDOWN d.toNatClampNeg = a at *
  generalize sACROSS d.toNatClampNeg = b at *
  have e1 : (c / w 1 2 + a).toInt = c.toInt / (w 1 2).toInt + a.toInt := by rw [ia] <;> rw [q1] <;> omega
  have e2 : (zrem c (w 1 2) + b).toInt = c.toInt % (w 1 2).toInt + b.toInt := by rw [ia] <;> rw [q2] <;> omega
  by_cases c1 : c / w 1 2 + a < 0
  · rw [if_pos c1]; exact Or.inl rfl
  · rw [if_neg c1]
    by_cases c2 : w 1 1 ≤ c / w 1 2 + a
    · rw [if_pos c2]; exact Or.inl rfl
    · rw [if_neg c2]
      by_cases c3 : zrem c (w 1 2) + b < 0
      · rw [if_pos c3]; exact Or.inl rfl
      · rw [if_neg c3]
        by_cases c4 : zrem c (w 1 2) + b < w 1 2
        · rw [if_pos c4]
          right
          have f1 : 0 ≤ (c / w 1 2 + a).toInt := nn c1
          have f2 : (c / w 1 2 + a).toInt < (w 1 1).toInt := by have := mt ile.mpr c2; omega
          have f3 : 0 ≤ (zrem c (w 1 2) + b).toInt := nn c3
          have f4 : (zrem c (w 1 2) + b).toInt < (w 1 2).toInt := ilt.mp c4
          generalize c / w 1 2 + a = r at *
          generalize zrem c (w 1 2) + b = k at *
          have g1 : r.toInt * (w 1 2).toInt ≤ 7 * 8 := Int.mul_le_mul (by omega) (by omega) (by omega) (by omega)
          have g2 : 0 ≤ r.toInt * (w 1 2).toInt := Int.mul_nonneg (by omega) (by omega)
          have g3 : (r * w 1 2).toInt = r.toInt * (w 1 2).toInt := im (by omega) (by omega)
          have g4 : (r * w 1 2 + k).toInt = r.toInt * (w 1 2).toInt + k.toInt := by rw [ia] <;> rw [g3] <;> omega
          have g5 : (r.toInt + 1) * (w 1 2).toInt ≤ (w 1 1).toInt * (w 1 2).toInt := Int.mul_le_mul_of_nonneg_right (by omega) (by omega)
          have g6 : (r.toInt + 1) * (w 1 2).toInt = r.toInt * (w 1 2).toInt + (w 1 2).toInt := by rw [Int.add_mul, Int.one_mul]
          exact ⟨by rw [g4]; omega, by rw [g4]; omega⟩
        · rw [if_neg c4]; exact Or.inl rfl
theorem e_tab {n : Nat} {f : Nat → Int32} {d : Int32} (hn : n < 2 ^ 31) (hd : 0 ≤ d.toInt) (h : d.toInt < n) : fX7_valueAt n f d = some (f d.toNatClampNeg) := by
  unfold fX7_valueAt
  rw [if_neg (fun c => by have := ilt.mp c; simp at this; omega), if_neg (fun c => by have := ile.mp c; rw [nI_toInt hn] at this; omega), gd_s (vin_of hd h)]
theorem e_beside {w : Nat → Nat → Int32} (hd : RDim (w 1 1) (w 1 2)) {c d : Int32} (hc : CellOk w c) (hdd : D8 d) : fX1_beside (sh 1 w) c d = some (nbr (w 1 1) (w 1 2) c d) := by
  obtain ⟨⟨r2, r8⟩, ⟨k2, k8⟩⟩ := cell_dim hd hc
  have hC : ¬ w 1 2 = 0 := fun h => by rw [h] at k2; simp at k2
  unfold fX1_beside
  rw [e_has1 hd hc, ob1_s]
  have t1 : fX7_valueAt 8 sDOWN d = some (sDOWN d.toNatClampNeg) := e_tab (by decide) hdd.1 hdd.2
  have t2 : fX7_valueAt 8 sACROSS d = some (sACROSS d.toNatClampNeg) := e_tab (by decide) hdd.1 hdd.2
  rw [if_neg (by decide)]
  show (if 0 < w 1 2 then dv (w 1 2) (ob1 (fX7_valueAt 8 sDOWN d) fun r6 => dv (w 1 2) (ob1 (fX7_valueAt 8 sACROSS d) fun r10 => if c / w 1 2 + r6 < 0 then some (-1) else if w 1 1 ≤ c / w 1 2 + r6 then some (-1) else if zrem c (w 1 2) + r10 < 0 then some (-1) else if zrem c (w 1 2) + r10 < w 1 2 then some ((c / w 1 2 + r6) * w 1 2 + (zrem c (w 1 2) + r10)) else some (-1))) else some (-1)) = _
  rw [if_pos (ilt.mpr (by simp; omega)), dv_s hC, t1, ob1_s, dv_s hC, t2, ob1_s]
  unfold nbr
  repeat' split
  all_goals rfl
theorem m_beside {m w : Nat → Nat → Int32} (hr : RW m w) (hd : RDim (w 1 1) (w 1 2)) {c d : Int32} (hc : CellOk w c) (hdd : D8 d) : fX8_beside m c d = some (if nbr (w 1 1) (w 1 2) c d = -1 then -9 else nbr (w 1 1) (w 1 2) c d) := by
  obtain ⟨⟨r2, r8⟩, ⟨k2, k8⟩⟩ := cell_dim hd hc
  have hC : ¬ w 1 2 = 0 := fun h => by rw [h] at k2; simp at k2
  have hne := nbr_r hd hc hdd
  obtain ⟨r0, r1, -⟩ := hr
  have key : fX8_beside m c d = (if c / w 1 2 + sDOWN d.toNatClampNeg < 0 then some (-9) else if w 1 1 ≤ c / w 1 2 + sDOWN d.toNatClampNeg then some (-9) else if zrem c (w 1 2) + sACROSS d.toNatClampNeg < 0 then some (-9) else if zrem c (w 1 2) + sACROSS d.toNatClampNeg < w 1 2 then some ((c / w 1 2 + sDOWN d.toNatClampNeg) * w 1 2 + (zrem c (w 1 2) + sACROSS d.toNatClampNeg)) else some (-9)) := by
    unfold fX8_beside fX8_beside_17 fX8_beside_36 fX8_beside_37 fX8_beside_58 fX8_beside_68
    rw [r0, r1]
    simp only [dv_s hC]
    obtain ⟨a0, a1, a2, a3, a4, a5, a6, a7⟩ := sdn
    obtain ⟨b0, b1, b2, b3, b4, b5, b6, b7⟩ := sac
    rcases c8 hdd.1 hdd.2 with rfl | rfl | rfl | rfl | rfl | rfl | rfl | rfl <;> simp (config := { decide := true }) only [a0, a1, a2, a3, a4, a5, a6, a7, b0, b1, b2, b3, b4, b5, b6, b7, if_true, if_false, ite_true, ite_false]
  rw [key]
  have hn : ∀ x : Int32, CellOk w x → ¬ x = -1 := fun x hx h => by rw [h] at hx; have := hx.1; simp at this
  unfold nbr at hne ⊢
  generalize c / w 1 2 + sDOWN d.toNatClampNeg = a at *
  generalize zrem c (w 1 2) + sACROSS d.toNatClampNeg = b at *
  by_cases c1 : a < 0
  · simp only [if_pos c1]; rfl
  · simp only [if_neg c1] at hne ⊢
    by_cases c2 : w 1 1 ≤ a
    · simp only [if_pos c2]; rfl
    · simp only [if_neg c2] at hne ⊢
      by_cases c3 : b < 0
      · simp only [if_pos c3]; rfl
      · simp only [if_neg c3] at hne ⊢
        by_cases c4 : b < w 1 2
        · simp only [if_pos c4] at hne ⊢
          by_cases c5 : a * w 1 2 + b = -1
          · exfalso
            have f1 : 0 ≤ a.toInt := nn c1
            have f3 : 0 ≤ b.toInt := nn c3
            have f2 : a.toInt < (w 1 1).toInt := Int.not_le.mp (mt ile.mpr c2)
            have f4 : b.toInt < (w 1 2).toInt := ilt.mp c4
            have g1 : a.toInt * (w 1 2).toInt ≤ 7 * 8 := Int.mul_le_mul (by omega) (by omega) (by omega) (by omega)
            have g2 : 0 ≤ a.toInt * (w 1 2).toInt := Int.mul_nonneg (by omega) (by omega)
            have g3 : (a * w 1 2).toInt = a.toInt * (w 1 2).toInt := im (by omega) (by omega)
            have g4 : (a * w 1 2 + b).toInt = a.toInt * (w 1 2).toInt + b.toInt := by rw [ia] <;> rw [g3] <;> omega
            have g5 : (a * w 1 2 + b).toInt = -1 := by rw [c5]; rfl
            omega
          · rw [if_neg c5]
        · simp only [if_neg c4]; rfl
