/-! cell, lays, wind, tide, log, now -/
theorem m_isCell1 {m w : Nat → Nat → Int32} (hr : RW m w) (hd : RDim (w 1 1) (w 1 2)) {c : Int32} (hc : CellOk w c) : fX8_isCell m c = some 1 := by
  unfold fX8_isCell
  rw [hr.1, hr.2.1, if_neg (nn' hc.1), if_neg (fun h => by have := ile.mp h; have := hc.2; rw [(dim_mul hd).1] at *; omega)]
theorem m_isCell0 {m w : Nat → Nat → Int32} (hr : RW m w) (hd : RDim (w 1 1) (w 1 2)) {c : Int32} (hc : ¬ CellOk w c) : fX8_isCell m c = some 0 := by
  unfold fX8_isCell
  rw [hr.1, hr.2.1]
  by_cases h1 : c < 0
  · rw [if_pos h1]
  · rw [if_neg h1, if_pos (ile.mpr (by rw [(dim_mul hd).1]; exact Int.not_lt.mp (fun h => hc ⟨nn h1, h⟩)))]
/-- whether a ship floats in a cell -/
def fl (w : Nat → Nat → Int32) (c : Int32) : Int32 := if w 2 c.toNatClampNeg ≤ 0 then 0 else if 20 < w 2 c.toNatClampNeg then 0 else if w 2 c.toNatClampNeg < w 0 4 then 0 else 1
theorem fl01 (w : Nat → Nat → Int32) (c : Int32) : fl w c = 0 ∨ fl w c = 1 := by
  unfold fl
  repeat' split
  all_goals first | exact Or.inl rfl | exact Or.inr rfl
theorem e_fl {w : Nat → Nat → Int32} (hd : RDim (w 1 1) (w 1 2)) {c : Int32} (hc : CellOk w c) : fX6_floatsAt w c = some (fl w c) := by
  unfold fX6_floatsAt fX7_isSea fl
  rw [e_has1 hd hc, ob1_s, if_neg (by decide), e_ground hd hc, ob1_s]
  generalize w 2 c.toNatClampNeg = v
  by_cases c1 : v ≤ 0
  · rw [if_pos c1, if_pos c1]; rfl
  · rw [if_neg c1, if_neg c1]
    by_cases c2 : 20 < v
    · rw [if_pos c2, if_pos c2]; rfl
    · rw [if_neg c2, if_neg c2, ob1_s, if_neg (by decide)]
      by_cases c3 : v < w 0 4
      · rw [if_pos c3, if_pos c3]
      · rw [if_neg c3, if_neg c3]
theorem e_fl0 {w : Nat → Nat → Int32} (hd : RDim (w 1 1) (w 1 2)) {c : Int32} (hc : ¬ CellOk w c) : fX6_floatsAt w c = some 0 := by
  unfold fX6_floatsAt
  rw [e_has0 hd hc, ob1_s, if_pos rfl]
theorem sea30 {v : Int32} (hg : Gr v) : 30 ≤ v ↔ 20 < v := by
  rcases hg with rfl | rfl | ⟨h1, h2⟩
  · decide
  · decide
  · constructor
    · intro h; have := ile.mp h; have e : (30 : Int32).toInt = 30 := rfl; omega
    · intro h; have := ilt.mp h; have e : (20 : Int32).toInt = 20 := rfl; omega
theorem m_sea {m w : Nat → Nat → Int32} (hr : RW m w) (hw : OW w) {c : Int32} (hc : CellOk w c) : fX8_isSea m c = some (if w 2 c.toNatClampNeg ≤ 0 then 0 else if 20 < w 2 c.toNatClampNeg then 0 else 1) := by
  unfold fX8_isSea
  have hb : m 1 = w 2 := hr.2.2.2.2.1
  rw [gd_s (cell_in hw.1 hc), hb, gd_s (cell_in hw.1 hc)]
  have hg := sea30 (hw.2.1 c.toNatClampNeg)
  generalize w 2 c.toNatClampNeg = v at *
  by_cases c1 : v ≤ 0
  · rw [if_pos c1, if_pos c1]
  · rw [if_neg c1, if_neg c1]
    by_cases c2 : 20 < v
    · rw [if_pos c2, if_pos (hg.mpr c2)]
    · rw [if_neg c2, if_neg (mt hg.mp c2)]
theorem m_fl {m w : Nat → Nat → Int32} (hr : RW m w) (hw : OW w) {c : Int32} (hc : CellOk w c) : fX8_bears m c = some (fl w c) := by
  unfold fX8_bears fl
  rw [m_sea hr hw hc, ob1_s, gd_s (cell_in hw.1 hc)]
  have hb : m 1 = w 2 := hr.2.2.2.2.1
  have q1 : m 3 ((1 : Int32)).toNatClampNeg = w 0 4 := hr.2.2.2.2.2.2.2.2.2.2.1
  rw [hb, q1]
  generalize w 2 c.toNatClampNeg = v
  by_cases c1 : v ≤ 0
  · rw [if_pos c1, if_pos c1, if_pos rfl]
  · rw [if_neg c1, if_neg c1]
    by_cases c2 : 20 < v
    · rw [if_pos c2, if_pos c2, if_pos rfl]
    · rw [if_neg c2, if_neg c2, if_neg (by decide)]
      by_cases c3 : v < w 0 4
      · rw [if_pos c3, if_pos c3]
      · rw [if_neg c3, if_neg c3]
theorem h4has (E : Nat → Nat → Int32) : sh 4 E = sh 1 (sh 3 E) := rfl
theorem sim_cell {n : Nat} {E M : Nat → Nat → Int32} (hn : n < 1000) (h : zR n E M) (a0 : Int32) : ∃ (r : Int32) (c28 : Nat → Int32) (d9 : Nat → Int32), fX7_cell E a0 = some (r, c28) ∧ fX8_cell M a0 = some (r, d9) ∧ zR (n + 1) (ups E 28 c28) (ups M 9 d9) := by
  have ref : ∀ r : Int32, isRef r → fX7_cell E a0 = some (r, rf1 (E 28) r) → fX8_cell M a0 = some (r, rf1 (M 9) r) → ∃ (r : Int32) (c28 : Nat → Int32) (d9 : Nat → Int32), fX7_cell E a0 = some (r, c28) ∧ fX8_cell M a0 = some (r, d9) ∧ zR (n + 1) (ups E 28 c28) (ups M 9 d9) := fun r hr e1 e2 => ⟨r, _, _, e1, e2, by first | exact zR_ref h r | (simp only [ups_id]; exact zR_ref h r)⟩
  have hw := h.2.1
  have hr := h.1
  by_cases hc : CellOk (sh 3 E) a0
  · have x1 := e_has1 hw.1 hc
    have x2 := m_isCell1 hr hw.1 hc
    have x3 := e_ground hw.1 hc
    have hb : M 1 = (sh 3 E) 2 := hr.2.2.2.2.1
    have hv := cell_in hw.1 hc
    have e1 : fX7_cell E a0 = some ((sh 3 E) 2 a0.toNatClampNeg, E 28) := by simp only [fX7_cell, h4has, x1, x3, ups_id, ob1_s, ob2_s, ob3_s, ob4_s, nm_s, ↓reduceIte, i10, e_ref _ r1, e_ref _ r2, e_ref _ r3, e_ref _ r4, e_ref _ r6, m_ref _ r1, m_ref _ r2, m_ref _ r3, m_ref _ r4, m_ref _ r6]
    have e2 : fX8_cell M a0 = some ((sh 3 E) 2 a0.toNatClampNeg, M 9) := by simp only [fX8_cell, x2, gd_s hv, hb, ups_id, ob1_s, ob2_s, ob3_s, ob4_s, nm_s, ↓reduceIte, i10, e_ref _ r1, e_ref _ r2, e_ref _ r3, e_ref _ r4, e_ref _ r6, m_ref _ r1, m_ref _ r2, m_ref _ r3, m_ref _ r4, m_ref _ r6]
    exact ⟨_, _, _, e1, e2, by rw [ups_id, ups_id]; exact zR_mono h⟩
  · have x1 := e_has0 hw.1 hc
    have x2 := m_isCell0 hr hw.1 hc
    exact ref (-1) r1 (by simp only [fX7_cell, h4has, x1, ups_id, ob1_s, ob2_s, ob3_s, ob4_s, nm_s, ↓reduceIte, i10, e_ref _ r1, e_ref _ r2, e_ref _ r3, e_ref _ r4, e_ref _ r6, m_ref _ r1, m_ref _ r2, m_ref _ r3, m_ref _ r4, m_ref _ r6]) (by simp only [fX8_cell, x2, ups_id, ob1_s, ob2_s, ob3_s, ob4_s, nm_s, ↓reduceIte, i10, e_ref _ r1, e_ref _ r2, e_ref _ r3, e_ref _ r4, e_ref _ r6, m_ref _ r1, m_ref _ r2, m_ref _ r3, m_ref _ r4, m_ref _ r6])
theorem e_btell {b : Nat → Nat → Int32} (h0 : 0 ≤ (b 0 2).toInt) (h : b 0 2 < 8) (x y : Int32) : fX0_tell b x y = some (b 0 2 + 1, ups (b 0) 2 (b 0 2 + 1), upd (b 1) (b 0 2).toNatClampNeg x, upd (b 2) (b 0 2).toNatClampNeg y) := by
  have h' : (b 0 2).toInt < 8 := ilt.mp h
  unfold fX0_tell
  rw [if_neg (nn' h0), if_neg (Int32.not_le.mpr h), if_neg (Int32.not_le.mpr h), gd_s (vin_of h0 h'), nm_s, gd_s (vin_of h0 h'), nm_s]
theorem upd_all {P : Int32 → Prop} {f : Nat → Int32} {k : Nat} {x : Int32} (h : ∀ i, P (f i)) (hx : P x) : ∀ i, P (upd f k x i) := fun i => by
  by_cases e : i = k
  · subst e; rw [pk_us]; exact hx
  · rw [pk_un e]; exact h i
theorem sim_wind {n : Nat} {E M : Nat → Nat → Int32} (hn : n < 1000) (h : zR n E M) (a0 : Int32) (a1 : Int32) : ∃ (r : Int32) (c6 : Nat → Int32) (c7 : Nat → Int32) (c8 : Nat → Int32) (c28 : Nat → Int32) (d0 : Nat → Int32) (d4 : Nat → Int32) (d5 : Nat → Int32) (d9 : Nat → Int32), fX7_wind E a0 a1 = some (r, c6, c7, c8, c28) ∧ fX8_wind M a0 a1 = some (r, d0, d4, d5, d9) ∧ zR (n + 1) (ups (ups (ups (ups E 6 c6) 7 c7) 8 c8) 28 c28) (ups (ups (ups (ups M 0 d0) 4 d4) 5 d5) 9 d9) := by
  have ref : ∀ r : Int32, isRef r → fX7_wind E a0 a1 = some (r, E 6, E 7, E 8, rf1 (E 28) r) → fX8_wind M a0 a1 = some (r, M 0, M 4, M 5, rf1 (M 9) r) → ∃ (r : Int32) (c6 : Nat → Int32) (c7 : Nat → Int32) (c8 : Nat → Int32) (c28 : Nat → Int32) (d0 : Nat → Int32) (d4 : Nat → Int32) (d5 : Nat → Int32) (d9 : Nat → Int32), fX7_wind E a0 a1 = some (r, c6, c7, c8, c28) ∧ fX8_wind M a0 a1 = some (r, d0, d4, d5, d9) ∧ zR (n + 1) (ups (ups (ups (ups E 6 c6) 7 c7) 8 c8) 28 c28) (ups (ups (ups (ups M 0 d0) 4 d4) 5 d5) 9 d9) := fun r hr e1 e2 => ⟨r, _, _, _, _, _, _, _, _, e1, e2, by first | exact zR_ref h r | (simp only [ups_id]; exact zR_ref h r)⟩
  obtain ⟨⟨q0, q1, q2, q3, q4, q5, q6, q7, q8, q9⟩, ⟨w0, w1, w2, w3, w4, w5, w6, w7, w8, w9, w10, w11, w12, w13, w14⟩, h3, h4, ⟨b1, b2, b3, b4, b5, b6, b7⟩, h6, h7, h8, h9, h10⟩ := id h
  have q2' : M 0 6 = E 6 2 := q2
  have w9' : Rng (E 6 2) 0 8 := w9
  by_cases hd : D8 a1
  · by_cases c0 : 0 ≤ a0
    · by_cases c1 : 999 < a0
      · exact ref (-6) r6 (by simp only [fX7_wind, fX7_wind_44, e_dir hd, c0, c1, ups_id, ob1_s, ob2_s, ob3_s, ob4_s, nm_s, ↓reduceIte, i10, e_ref _ r1, e_ref _ r2, e_ref _ r3, e_ref _ r4, e_ref _ r6, m_ref _ r1, m_ref _ r2, m_ref _ r3, m_ref _ r4, m_ref _ r6]) (by simp only [fX8_wind, fX8_wind_40, m_dir hd, c0, c1, ups_id, ob1_s, ob2_s, ob3_s, ob4_s, nm_s, ↓reduceIte, i10, e_ref _ r1, e_ref _ r2, e_ref _ r3, e_ref _ r4, e_ref _ r6, m_ref _ r1, m_ref _ r2, m_ref _ r3, m_ref _ r4, m_ref _ r6])
      · by_cases c2 : E 6 2 < 8
        · have hv : vp_in (E 6 2) 8 := vin_of w9'.1 (ilt.mp c2)
          have hfu : fX0_isFull (sh 6 E) = some 0 := by unfold fX0_isFull; exact if_pos c2
          have ht : fX0_tell (sh 6 E) a0 a1 = some (E 6 2 + 1, ups (E 6) 2 (E 6 2 + 1), upd (E 7) (E 6 2).toNatClampNeg a0, upd (E 8) (E 6 2).toNatClampNeg a1) := e_btell (b := sh 6 E) w9'.1 c2 a0 a1
          have e1 : fX7_wind E a0 a1 = some (E 6 2 + 1, ups (E 6) 2 (E 6 2 + 1), upd (E 7) (E 6 2).toNatClampNeg a0, upd (E 8) (E 6 2).toNatClampNeg a1, E 28) := by simp only [fX7_wind, e_dir hd, c0, c1, hfu, ht, ups_id, ob1_s, ob2_s, ob3_s, ob4_s, nm_s, ↓reduceIte, i10, e_ref _ r1, e_ref _ r2, e_ref _ r3, e_ref _ r4, e_ref _ r6, m_ref _ r1, m_ref _ r2, m_ref _ r3, m_ref _ r4, m_ref _ r6]
          have e2 : fX8_wind M a0 a1 = some (E 6 2 + 1, ups (M 0) 6 (E 6 2 + 1), upd (M 4) (E 6 2).toNatClampNeg a0, upd (M 5) (E 6 2).toNatClampNeg a1, M 9) := by simp only [fX8_wind, m_dir hd, c0, c1, q2', nfull c2, gd_s hv, ups_id, ob1_s, ob2_s, ob3_s, ob4_s, nm_s, ↓reduceIte, i10, e_ref _ r1, e_ref _ r2, e_ref _ r3, e_ref _ r4, e_ref _ r6, m_ref _ r1, m_ref _ r2, m_ref _ r3, m_ref _ r4, m_ref _ r6]
          refine ⟨_, _, _, _, _, _, _, _, _, e1, e2, ?_⟩
          have ha0 : Rng a0 0 999 := ⟨ile.mp c0, Int.not_lt.mp (fun q => c1 (ilt.mpr q))⟩
          refine ⟨⟨q0, q1, rfl, q3, q4, ?_, ?_, q7, q8, q9⟩, ⟨w0, w1, w2, w3, w4, w5, w6, w7, w8, inc1 w9'.1 (ilt.mp c2) (by decide), w10, upd_all (P := fun y => Rng y 0 999) w11 ha0, upd_all (P := D8) w12 hd, w13, w14⟩, h3, h4, ⟨b1, b2, b3, b4, b5, b6, b7.up⟩, h6, h7, h8, h9, fun q => ⟨(h10 q).1, (h10 q).2.up⟩⟩
          · show upd (M 4) _ a0 = upd (E 7) _ a0
            rw [q5]; rfl
          · show upd (M 5) _ _ = upd (E 8) _ _
            rw [q6]; rfl
        · have c3 : M 0 6 = 8 := by rw [q2']; exact full w9'.2 c2
          have hfu : fX0_isFull (sh 6 E) = some 1 := by unfold fX0_isFull; exact if_neg c2
          exact ref (-6) r6 (by simp only [fX7_wind, fX7_wind_44, e_dir hd, c0, c1, hfu, ups_id, ob1_s, ob2_s, ob3_s, ob4_s, nm_s, ↓reduceIte, i10, e_ref _ r1, e_ref _ r2, e_ref _ r3, e_ref _ r4, e_ref _ r6, m_ref _ r1, m_ref _ r2, m_ref _ r3, m_ref _ r4, m_ref _ r6]) (by simp only [fX8_wind, fX8_wind_40, m_dir hd, c0, c1, c3, ups_id, ob1_s, ob2_s, ob3_s, ob4_s, nm_s, ↓reduceIte, i10, e_ref _ r1, e_ref _ r2, e_ref _ r3, e_ref _ r4, e_ref _ r6, m_ref _ r1, m_ref _ r2, m_ref _ r3, m_ref _ r4, m_ref _ r6])
    · exact ref (-4) r4 (by simp only [fX7_wind, e_dir hd, c0, ups_id, ob1_s, ob2_s, ob3_s, ob4_s, nm_s, ↓reduceIte, i10, e_ref _ r1, e_ref _ r2, e_ref _ r3, e_ref _ r4, e_ref _ r6, m_ref _ r1, m_ref _ r2, m_ref _ r3, m_ref _ r4, m_ref _ r6]) (by simp only [fX8_wind, m_dir hd, c0, ups_id, ob1_s, ob2_s, ob3_s, ob4_s, nm_s, ↓reduceIte, i10, e_ref _ r1, e_ref _ r2, e_ref _ r3, e_ref _ r4, e_ref _ r6, m_ref _ r1, m_ref _ r2, m_ref _ r3, m_ref _ r4, m_ref _ r6])
  · exact ref (-1) r1 (by simp only [fX7_wind, e_dir0 hd, ups_id, ob1_s, ob2_s, ob3_s, ob4_s, nm_s, ↓reduceIte, i10, e_ref _ r1, e_ref _ r2, e_ref _ r3, e_ref _ r4, e_ref _ r6, m_ref _ r1, m_ref _ r2, m_ref _ r3, m_ref _ r4, m_ref _ r6]) (by simp only [fX8_wind, m_dir0 hd, ups_id, ob1_s, ob2_s, ob3_s, ob4_s, nm_s, ↓reduceIte, i10, e_ref _ r1, e_ref _ r2, e_ref _ r3, e_ref _ r4, e_ref _ r6, m_ref _ r1, m_ref _ r2, m_ref _ r3, m_ref _ r4, m_ref _ r6])
theorem sim_tide {n : Nat} {E M : Nat → Nat → Int32} (hn : n < 1000) (h : zR n E M) (a0 : Int32) (a1 : Int32) : ∃ (r : Int32) (c9 : Nat → Int32) (c10 : Nat → Int32) (c11 : Nat → Int32) (c28 : Nat → Int32) (d0 : Nat → Int32) (d6 : Nat → Int32) (d7 : Nat → Int32) (d9 : Nat → Int32), fX7_tide E a0 a1 = some (r, c9, c10, c11, c28) ∧ fX8_tide M a0 a1 = some (r, d0, d6, d7, d9) ∧ zR (n + 1) (ups (ups (ups (ups E 9 c9) 10 c10) 11 c11) 28 c28) (ups (ups (ups (ups M 0 d0) 6 d6) 7 d7) 9 d9) := by
  have ref : ∀ r : Int32, isRef r → fX7_tide E a0 a1 = some (r, E 9, E 10, E 11, rf1 (E 28) r) → fX8_tide M a0 a1 = some (r, M 0, M 6, M 7, rf1 (M 9) r) → ∃ (r : Int32) (c9 : Nat → Int32) (c10 : Nat → Int32) (c11 : Nat → Int32) (c28 : Nat → Int32) (d0 : Nat → Int32) (d6 : Nat → Int32) (d7 : Nat → Int32) (d9 : Nat → Int32), fX7_tide E a0 a1 = some (r, c9, c10, c11, c28) ∧ fX8_tide M a0 a1 = some (r, d0, d6, d7, d9) ∧ zR (n + 1) (ups (ups (ups (ups E 9 c9) 10 c10) 11 c11) 28 c28) (ups (ups (ups (ups M 0 d0) 6 d6) 7 d7) 9 d9) := fun r hr e1 e2 => ⟨r, _, _, _, _, _, _, _, _, e1, e2, by first | exact zR_ref h r | (simp only [ups_id]; exact zR_ref h r)⟩
  obtain ⟨⟨q0, q1, q2, q3, q4, q5, q6, q7, q8, q9⟩, ⟨w0, w1, w2, w3, w4, w5, w6, w7, w8, w9, w10, w11, w12, w13, w14⟩, h3, h4, ⟨b1, b2, b3, b4, b5, b6, b7⟩, h6, h7, h8, h9, h10⟩ := id h
  have q3' : M 0 9 = E 9 2 := q3
  have w10' : Rng (E 9 2) 0 8 := w10
  by_cases c0 : a0 < 0
  · exact ref (-4) r4 (by simp only [fX7_tide, fX7_tide_8, c0, ups_id, ob1_s, ob2_s, ob3_s, ob4_s, nm_s, ↓reduceIte, i10, e_ref _ r1, e_ref _ r2, e_ref _ r3, e_ref _ r4, e_ref _ r6, m_ref _ r1, m_ref _ r2, m_ref _ r3, m_ref _ r4, m_ref _ r6]) (by simp only [fX8_tide, fX8_tide_8, c0, ups_id, ob1_s, ob2_s, ob3_s, ob4_s, nm_s, ↓reduceIte, i10, e_ref _ r1, e_ref _ r2, e_ref _ r3, e_ref _ r4, e_ref _ r6, m_ref _ r1, m_ref _ r2, m_ref _ r3, m_ref _ r4, m_ref _ r6])
  · by_cases cv : 0 ≤ a1
    · by_cases c1 : 999 < a0
      · exact ref (-6) r6 (by simp only [fX7_tide, fX7_tide_40, c0, cv, c1, ups_id, ob1_s, ob2_s, ob3_s, ob4_s, nm_s, ↓reduceIte, i10, e_ref _ r1, e_ref _ r2, e_ref _ r3, e_ref _ r4, e_ref _ r6, m_ref _ r1, m_ref _ r2, m_ref _ r3, m_ref _ r4, m_ref _ r6]) (by simp only [fX8_tide, fX8_tide_36, c0, cv, c1, ups_id, ob1_s, ob2_s, ob3_s, ob4_s, nm_s, ↓reduceIte, i10, e_ref _ r1, e_ref _ r2, e_ref _ r3, e_ref _ r4, e_ref _ r6, m_ref _ r1, m_ref _ r2, m_ref _ r3, m_ref _ r4, m_ref _ r6])
      · by_cases c5 : 5 < a1
        · exact ref (-6) r6 (by simp only [fX7_tide, fX7_tide_40, c0, cv, c1, c5, ups_id, ob1_s, ob2_s, ob3_s, ob4_s, nm_s, ↓reduceIte, i10, e_ref _ r1, e_ref _ r2, e_ref _ r3, e_ref _ r4, e_ref _ r6, m_ref _ r1, m_ref _ r2, m_ref _ r3, m_ref _ r4, m_ref _ r6]) (by simp only [fX8_tide, fX8_tide_36, c0, cv, c1, c5, ups_id, ob1_s, ob2_s, ob3_s, ob4_s, nm_s, ↓reduceIte, i10, e_ref _ r1, e_ref _ r2, e_ref _ r3, e_ref _ r4, e_ref _ r6, m_ref _ r1, m_ref _ r2, m_ref _ r3, m_ref _ r4, m_ref _ r6])
        · by_cases c2 : E 9 2 < 8
          · have hv : vp_in (E 9 2) 8 := vin_of w10'.1 (ilt.mp c2)
            have hfu : fX0_isFull (sh 9 E) = some 0 := by unfold fX0_isFull; exact if_pos c2
            have ht : fX0_tell (sh 9 E) a0 a1 = some (E 9 2 + 1, ups (E 9) 2 (E 9 2 + 1), upd (E 10) (E 9 2).toNatClampNeg a0, upd (E 11) (E 9 2).toNatClampNeg a1) := e_btell (b := sh 9 E) w10'.1 c2 a0 a1
            have e1 : fX7_tide E a0 a1 = some (E 9 2 + 1, ups (E 9) 2 (E 9 2 + 1), upd (E 10) (E 9 2).toNatClampNeg a0, upd (E 11) (E 9 2).toNatClampNeg a1, E 28) := by simp only [fX7_tide, c0, cv, c1, c5, hfu, ht, ups_id, ob1_s, ob2_s, ob3_s, ob4_s, nm_s, ↓reduceIte, i10, e_ref _ r1, e_ref _ r2, e_ref _ r3, e_ref _ r4, e_ref _ r6, m_ref _ r1, m_ref _ r2, m_ref _ r3, m_ref _ r4, m_ref _ r6]
            have e2 : fX8_tide M a0 a1 = some (E 9 2 + 1, ups (M 0) 9 (E 9 2 + 1), upd (M 6) (E 9 2).toNatClampNeg a0, upd (M 7) (E 9 2).toNatClampNeg a1, M 9) := by simp only [fX8_tide, c0, cv, c1, c5, q3', nfull c2, gd_s hv, ups_id, ob1_s, ob2_s, ob3_s, ob4_s, nm_s, ↓reduceIte, i10, e_ref _ r1, e_ref _ r2, e_ref _ r3, e_ref _ r4, e_ref _ r6, m_ref _ r1, m_ref _ r2, m_ref _ r3, m_ref _ r4, m_ref _ r6]
            refine ⟨_, _, _, _, _, _, _, _, _, e1, e2, ?_⟩
            have ha0 : Rng a0 0 999 := ⟨nn c0, Int.not_lt.mp (fun q => c1 (ilt.mpr q))⟩
            have ha1 : Rng a1 0 5 := ⟨ile.mp cv, Int.not_lt.mp (fun q => c5 (ilt.mpr q))⟩
            refine ⟨⟨q0, q1, q2, rfl, q4, q5, q6, ?_, ?_, q9⟩, ⟨w0, w1, w2, w3, w4, w5, w6, w7, w8, w9, inc1 w10'.1 (ilt.mp c2) (by decide), w11, w12, upd_all (P := fun y => Rng y 0 999) w13 ha0, upd_all (P := fun y => Rng y 0 5) w14 ha1⟩, h3, h4, ⟨b1, b2, b3, b4, b5, b6, b7.up⟩, h6, h7, h8, h9, fun q => ⟨(h10 q).1, (h10 q).2.up⟩⟩
            · show upd (M 6) _ a0 = upd (E 10) _ a0
              rw [q7]; rfl
            · show upd (M 7) _ _ = upd (E 11) _ _
              rw [q8]; rfl
          · have c3 : M 0 9 = 8 := by rw [q3']; exact full w10'.2 c2
            have hfu : fX0_isFull (sh 9 E) = some 1 := by unfold fX0_isFull; exact if_neg c2
            exact ref (-6) r6 (by simp only [fX7_tide, fX7_tide_40, c0, cv, c1, c5, hfu, ups_id, ob1_s, ob2_s, ob3_s, ob4_s, nm_s, ↓reduceIte, i10, e_ref _ r1, e_ref _ r2, e_ref _ r3, e_ref _ r4, e_ref _ r6, m_ref _ r1, m_ref _ r2, m_ref _ r3, m_ref _ r4, m_ref _ r6]) (by simp only [fX8_tide, fX8_tide_36, c0, cv, c1, c5, c3, ups_id, ob1_s, ob2_s, ob3_s, ob4_s, nm_s, ↓reduceIte, i10, e_ref _ r1, e_ref _ r2, e_ref _ r3, e_ref _ r4, e_ref _ r6, m_ref _ r1, m_ref _ r2, m_ref _ r3, m_ref _ r4, m_ref _ r6])
    · exact ref (-4) r4 (by simp only [fX7_tide, fX7_tide_8, c0, cv, ups_id, ob1_s, ob2_s, ob3_s, ob4_s, nm_s, ↓reduceIte, i10, e_ref _ r1, e_ref _ r2, e_ref _ r3, e_ref _ r4, e_ref _ r6, m_ref _ r1, m_ref _ r2, m_ref _ r3, m_ref _ r4, m_ref _ r6]) (by simp only [fX8_tide, fX8_tide_8, c0, cv, ups_id, ob1_s, ob2_s, ob3_s, ob4_s, nm_s, ↓reduceIte, i10, e_ref _ r1, e_ref _ r2, e_ref _ r3, e_ref _ r4, e_ref _ r6, m_ref _ r1, m_ref _ r2, m_ref _ r3, m_ref _ r4, m_ref _ r6])
theorem e_ltell {b : Nat → Nat → Int32} (h0 : 0 ≤ (b 0 1).toInt) (h : b 0 1 < 12) (x : Int32) : fX4_tell b x = some (b 0 1 + 1, ups (b 0) 1 (b 0 1 + 1), upd (b 1) (b 0 1).toNatClampNeg x) := by
  have h' : (b 0 1).toInt < 12 := ilt.mp h
  unfold fX4_tell
  rw [if_neg (nn' h0), if_neg (Int32.not_le.mpr h), gd_s (vin_of h0 h'), nm_s]
theorem sim_log {n : Nat} {E M : Nat → Nat → Int32} (hn : n < 1000) (h : zR n E M) (a0 : Int32) : ∃ (r : Int32) (c26 : Nat → Int32) (c27 : Nat → Int32) (c28 : Nat → Int32) (d0 : Nat → Int32) (d8 : Nat → Int32) (d9 : Nat → Int32), fX7_log E a0 = some (r, c26, c27, c28) ∧ fX8_log M a0 = some (r, d0, d8, d9) ∧ zR (n + 1) (ups (ups (ups E 26 c26) 27 c27) 28 c28) (ups (ups (ups M 0 d0) 8 d8) 9 d9) := by
  have ref : ∀ r : Int32, isRef r → fX7_log E a0 = some (r, E 26, E 27, rf1 (E 28) r) → fX8_log M a0 = some (r, M 0, M 8, rf1 (M 9) r) → ∃ (r : Int32) (c26 : Nat → Int32) (c27 : Nat → Int32) (c28 : Nat → Int32) (d0 : Nat → Int32) (d8 : Nat → Int32) (d9 : Nat → Int32), fX7_log E a0 = some (r, c26, c27, c28) ∧ fX8_log M a0 = some (r, d0, d8, d9) ∧ zR (n + 1) (ups (ups (ups E 26 c26) 27 c27) 28 c28) (ups (ups (ups M 0 d0) 8 d8) 9 d9) := fun r hr e1 e2 => ⟨r, _, _, _, _, _, _, e1, e2, by first | exact zR_ref h r | (simp only [ups_id]; exact zR_ref h r)⟩
  obtain ⟨h1, h2, h3, h4, ⟨b1, b2, b3, b4, b5, b6, b7⟩, ⟨l1, l2, l3⟩, h7, h8, h9, h10⟩ := id h
  by_cases c0 : 0 ≤ a0
  · by_cases c1 : 99 < a0
    · exact ref (-6) r6 (by simp only [fX7_log, fX7_log_27, c0, c1, ups_id, ob1_s, ob2_s, ob3_s, ob4_s, nm_s, ↓reduceIte, i10, e_ref _ r1, e_ref _ r2, e_ref _ r3, e_ref _ r4, e_ref _ r6, m_ref _ r1, m_ref _ r2, m_ref _ r3, m_ref _ r4, m_ref _ r6]) (by simp only [fX8_log, fX8_log_26, c0, c1, ups_id, ob1_s, ob2_s, ob3_s, ob4_s, nm_s, ↓reduceIte, i10, e_ref _ r1, e_ref _ r2, e_ref _ r3, e_ref _ r4, e_ref _ r6, m_ref _ r1, m_ref _ r2, m_ref _ r3, m_ref _ r4, m_ref _ r6])
    · by_cases c2 : E 26 1 < 12
      · have hv : vp_in (E 26 1) 12 := vin_of l2.1 (ilt.mp c2)
        have hfu : fX4_isFull (sh 26 E) = some 0 := by unfold fX4_isFull; exact if_pos c2
        have ht : fX4_tell (sh 26 E) a0 = some (E 26 1 + 1, ups (E 26) 1 (E 26 1 + 1), upd (E 27) (E 26 1).toNatClampNeg a0) := e_ltell (b := sh 26 E) l2.1 c2 a0
        have e1 : fX7_log E a0 = some (E 26 1 + 1, ups (E 26) 1 (E 26 1 + 1), upd (E 27) (E 26 1).toNatClampNeg a0, E 28) := by simp only [fX7_log, c0, c1, hfu, ht, ups_id, ob1_s, ob2_s, ob3_s, ob4_s, nm_s, ↓reduceIte, i10, e_ref _ r1, e_ref _ r2, e_ref _ r3, e_ref _ r4, e_ref _ r6, m_ref _ r1, m_ref _ r2, m_ref _ r3, m_ref _ r4, m_ref _ r6]
        have e2 : fX8_log M a0 = some (E 26 1 + 1, ups (M 0) 28 (E 26 1 + 1), upd (M 8) (E 26 1).toNatClampNeg a0, M 9) := by simp only [fX8_log, c0, c1, l1, nfull c2, gd_s hv, ups_id, ob1_s, ob2_s, ob3_s, ob4_s, nm_s, ↓reduceIte, i10, e_ref _ r1, e_ref _ r2, e_ref _ r3, e_ref _ r4, e_ref _ r6, m_ref _ r1, m_ref _ r2, m_ref _ r3, m_ref _ r4, m_ref _ r6]
        refine ⟨_, _, _, _, _, _, _, e1, e2, ?_⟩
        refine ⟨h1, h2, h3, h4, ⟨b1, b2, b3, b4, b5, b6, b7.up⟩, ⟨rfl, inc1 l2.1 (ilt.mp c2) (by decide), ?_⟩, h7, h8, h9, fun q => ⟨(h10 q).1, (h10 q).2.up⟩⟩
        show upd (M 8) _ a0 = upd (E 27) _ a0
        rw [l3]
      · have c3 : M 0 28 = 12 := by rw [l1]; exact full l2.2 c2
        have hfu : fX4_isFull (sh 26 E) = some 1 := by unfold fX4_isFull; exact if_neg c2
        exact ref (-6) r6 (by simp only [fX7_log, fX7_log_27, c0, c1, hfu, ups_id, ob1_s, ob2_s, ob3_s, ob4_s, nm_s, ↓reduceIte, i10, e_ref _ r1, e_ref _ r2, e_ref _ r3, e_ref _ r4, e_ref _ r6, m_ref _ r1, m_ref _ r2, m_ref _ r3, m_ref _ r4, m_ref _ r6]) (by simp only [fX8_log, fX8_log_26, c0, c1, c3, ups_id, ob1_s, ob2_s, ob3_s, ob4_s, nm_s, ↓reduceIte, i10, e_ref _ r1, e_ref _ r2, e_ref _ r3, e_ref _ r4, e_ref _ r6, m_ref _ r1, m_ref _ r2, m_ref _ r3, m_ref _ r4, m_ref _ r6])
  · exact ref (-4) r4 (by simp only [fX7_log, c0, ups_id, ob1_s, ob2_s, ob3_s, ob4_s, nm_s, ↓reduceIte, i10, e_ref _ r1, e_ref _ r2, e_ref _ r3, e_ref _ r4, e_ref _ r6, m_ref _ r1, m_ref _ r2, m_ref _ r3, m_ref _ r4, m_ref _ r6]) (by simp only [fX8_log, c0, ups_id, ob1_s, ob2_s, ob3_s, ob4_s, nm_s, ↓reduceIte, i10, e_ref _ r1, e_ref _ r2, e_ref _ r3, e_ref _ r4, e_ref _ r6, m_ref _ r1, m_ref _ r2, m_ref _ r3, m_ref _ r4, m_ref _ r6])
