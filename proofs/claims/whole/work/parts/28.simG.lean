/-! set, beachBest, light -/
theorem zR_set0 {n : Nat} {E M : Nat → Nat → Int32} {x : Int32} {d3 : Nat → Int32} (h : zR n E M) (hx : Rng x 0 9) (hk : d3 0 = x) (hd : ∀ k, k ≠ 0 → d3 k = M 3 k) : zR (n + 1) (ups E 3 (ups (E 3) 3 x)) (ups M 3 d3) := by
  obtain ⟨⟨q0, q1, q2, q3, q4, q5, q6, q7, q8, q9, q10, q11, q12, q13, q14⟩, ⟨w0, w1, w2, w3, w4, w5, w6, w7, w8, w9⟩, h3, h4, ⟨a1, a2, a3, a4, a5, a6, a7⟩, h6, h7, h8, h9, h10⟩ := h
  exact ⟨⟨q0, q1, q2, q3, q4, q5, q6, q7, q8, hk, (hd 1 (by decide)).trans q10, (hd 2 (by decide)).trans q11, (hd 3 (by decide)).trans q12, (hd 4 (by decide)).trans q13, (hd 6 (by decide)).trans q14⟩, ⟨w0, w1, hx, w3, w4, w5, w6, w7, w8, w9⟩, (hd 5 (by decide)).trans h3, h4, ⟨a1, a2, a3, a4, a5, a6, a7.up⟩, h6, h7, h8, h9, fun q => ⟨(h10 q).1, (h10 q).2.up⟩⟩
theorem zR_set1 {n : Nat} {E M : Nat → Nat → Int32} {x : Int32} {d3 : Nat → Int32} (h : zR n E M) (hx : Rng x 1 9) (hk : d3 1 = x) (hd : ∀ k, k ≠ 1 → d3 k = M 3 k) : zR (n + 1) (ups E 3 (ups (E 3) 4 x)) (ups M 3 d3) := by
  obtain ⟨⟨q0, q1, q2, q3, q4, q5, q6, q7, q8, q9, q10, q11, q12, q13, q14⟩, ⟨w0, w1, w2, w3, w4, w5, w6, w7, w8, w9⟩, h3, h4, ⟨a1, a2, a3, a4, a5, a6, a7⟩, h6, h7, h8, h9, h10⟩ := h
  exact ⟨⟨q0, q1, q2, q3, q4, q5, q6, q7, q8, (hd 0 (by decide)).trans q9, hk, (hd 2 (by decide)).trans q11, (hd 3 (by decide)).trans q12, (hd 4 (by decide)).trans q13, (hd 6 (by decide)).trans q14⟩, ⟨w0, w1, w2, hx, w4, w5, w6, w7, w8, w9⟩, (hd 5 (by decide)).trans h3, h4, ⟨a1, a2, a3, a4, a5, a6, a7.up⟩, h6, h7, h8, h9, fun q => ⟨(h10 q).1, (h10 q).2.up⟩⟩
theorem zR_set2 {n : Nat} {E M : Nat → Nat → Int32} {x : Int32} {d3 : Nat → Int32} (h : zR n E M) (hx : Rng x 0 9) (hk : d3 2 = x) (hd : ∀ k, k ≠ 2 → d3 k = M 3 k) : zR (n + 1) (ups E 3 (ups (E 3) 5 x)) (ups M 3 d3) := by
  obtain ⟨⟨q0, q1, q2, q3, q4, q5, q6, q7, q8, q9, q10, q11, q12, q13, q14⟩, ⟨w0, w1, w2, w3, w4, w5, w6, w7, w8, w9⟩, h3, h4, ⟨a1, a2, a3, a4, a5, a6, a7⟩, h6, h7, h8, h9, h10⟩ := h
  exact ⟨⟨q0, q1, q2, q3, q4, q5, q6, q7, q8, (hd 0 (by decide)).trans q9, (hd 1 (by decide)).trans q10, hk, (hd 3 (by decide)).trans q12, (hd 4 (by decide)).trans q13, (hd 6 (by decide)).trans q14⟩, ⟨w0, w1, w2, w3, hx, w5, w6, w7, w8, w9⟩, (hd 5 (by decide)).trans h3, h4, ⟨a1, a2, a3, a4, a5, a6, a7.up⟩, h6, h7, h8, h9, fun q => ⟨(h10 q).1, (h10 q).2.up⟩⟩
theorem zR_set3 {n : Nat} {E M : Nat → Nat → Int32} {x : Int32} {d3 : Nat → Int32} (h : zR n E M) (hx : Rng x 0 60) (hk : d3 3 = x) (hd : ∀ k, k ≠ 3 → d3 k = M 3 k) : zR (n + 1) (ups E 3 (ups (E 3) 6 x)) (ups M 3 d3) := by
  obtain ⟨⟨q0, q1, q2, q3, q4, q5, q6, q7, q8, q9, q10, q11, q12, q13, q14⟩, ⟨w0, w1, w2, w3, w4, w5, w6, w7, w8, w9⟩, h3, h4, ⟨a1, a2, a3, a4, a5, a6, a7⟩, h6, h7, h8, h9, h10⟩ := h
  exact ⟨⟨q0, q1, q2, q3, q4, q5, q6, q7, q8, (hd 0 (by decide)).trans q9, (hd 1 (by decide)).trans q10, (hd 2 (by decide)).trans q11, hk, (hd 4 (by decide)).trans q13, (hd 6 (by decide)).trans q14⟩, ⟨w0, w1, w2, w3, w4, hx, w6, w7, w8, w9⟩, (hd 5 (by decide)).trans h3, h4, ⟨a1, a2, a3, a4, a5, a6, a7.up⟩, h6, h7, h8, h9, fun q => ⟨(h10 q).1, (h10 q).2.up⟩⟩
theorem zR_set4 {n : Nat} {E M : Nat → Nat → Int32} {x : Int32} {d3 : Nat → Int32} (h : zR n E M) (hx : Rng x 1 3) (hk : d3 4 = x) (hd : ∀ k, k ≠ 4 → d3 k = M 3 k) : zR (n + 1) (ups E 3 (ups (E 3) 7 x)) (ups M 3 d3) := by
  obtain ⟨⟨q0, q1, q2, q3, q4, q5, q6, q7, q8, q9, q10, q11, q12, q13, q14⟩, ⟨w0, w1, w2, w3, w4, w5, w6, w7, w8, w9⟩, h3, h4, ⟨a1, a2, a3, a4, a5, a6, a7⟩, h6, h7, h8, h9, h10⟩ := h
  exact ⟨⟨q0, q1, q2, q3, q4, q5, q6, q7, q8, (hd 0 (by decide)).trans q9, (hd 1 (by decide)).trans q10, (hd 2 (by decide)).trans q11, (hd 3 (by decide)).trans q12, hk, (hd 6 (by decide)).trans q14⟩, ⟨w0, w1, w2, w3, w4, w5, hx, w7, w8, w9⟩, (hd 5 (by decide)).trans h3, h4, ⟨a1, a2, a3, a4, a5, a6, a7.up⟩, h6, h7, h8, h9, fun q => ⟨(h10 q).1, (h10 q).2.up⟩⟩
theorem zR_set6 {n : Nat} {E M : Nat → Nat → Int32} {x : Int32} {d3 : Nat → Int32} (h : zR n E M) (hx : Rng x 0 99) (hk : d3 6 = x) (hd : ∀ k, k ≠ 6 → d3 k = M 3 k) : zR (n + 1) (ups E 3 (ups (E 3) 9 x)) (ups M 3 d3) := by
  obtain ⟨⟨q0, q1, q2, q3, q4, q5, q6, q7, q8, q9, q10, q11, q12, q13, q14⟩, ⟨w0, w1, w2, w3, w4, w5, w6, w7, w8, w9⟩, h3, h4, ⟨a1, a2, a3, a4, a5, a6, a7⟩, h6, h7, h8, h9, h10⟩ := h
  exact ⟨⟨q0, q1, q2, q3, q4, q5, q6, q7, q8, (hd 0 (by decide)).trans q9, (hd 1 (by decide)).trans q10, (hd 2 (by decide)).trans q11, (hd 3 (by decide)).trans q12, (hd 4 (by decide)).trans q13, hk⟩, ⟨w0, w1, w2, w3, w4, w5, w6, w7, hx, w9⟩, (hd 5 (by decide)).trans h3, h4, ⟨a1, a2, a3, a4, a5, a6, a7.up⟩, h6, h7, h8, h9, fun q => ⟨(h10 q).1, (h10 q).2.up⟩⟩
theorem zR_set5 {n : Nat} {E M : Nat → Nat → Int32} {x : Int32} {d3 : Nat → Int32} (h : zR n E M) (hx : Rng x 0 9) (hk : d3 5 = x) (hd : ∀ k, k ≠ 5 → d3 k = M 3 k) : zR (n + 1) (ups E 3 (ups (E 3) 8 x)) (ups M 3 d3) := zR_guns h hx hk hd
theorem sim_set {n : Nat} {E M : Nat → Nat → Int32} (hn : n < 1000) (h : zR n E M) (a0 : Int32) (a1 : Int32) : ∃ (r : Int32) (c3 : Nat → Int32) (c28 : Nat → Int32) (d3 : Nat → Int32) (d9 : Nat → Int32), fX7_set E a0 a1 = some (r, c3, c28) ∧ fX8_set M a0 a1 = some (r, d3, d9) ∧ zR (n + 1) (ups (ups E 3 c3) 28 c28) (ups (ups M 3 d3) 9 d9) := by
  have ref : ∀ r : Int32, isRef r → fX7_set E a0 a1 = some (r, E 3, rf1 (E 28) r) → fX8_set M a0 a1 = some (r, M 3, rf1 (M 9) r) → ∃ (r : Int32) (c3 : Nat → Int32) (c28 : Nat → Int32) (d3 : Nat → Int32) (d9 : Nat → Int32), fX7_set E a0 a1 = some (r, c3, c28) ∧ fX8_set M a0 a1 = some (r, d3, d9) ∧ zR (n + 1) (ups (ups E 3 c3) 28 c28) (ups (ups M 3 d3) 9 d9) := fun r hr e1 e2 => ⟨r, _, _, _, _, e1, e2, by first | exact zR_ref h r | (simp only [ups_id]; exact zR_ref h r)⟩
  by_cases c1 : a0 < 0
  · exact ref (-2) r2 (by simp only [fX7_set, fX7_set_10, c1, ups_id, ob1_s, ob2_s, ob3_s, ob4_s, nm_s, ↓reduceIte, i10, e_ref _ r1, e_ref _ r2, e_ref _ r3, e_ref _ r4, e_ref _ r6, m_ref _ r1, m_ref _ r2, m_ref _ r3, m_ref _ r4, m_ref _ r6]) (by simp only [fX8_set, fX8_set_10, c1, ups_id, ob1_s, ob2_s, ob3_s, ob4_s, nm_s, ↓reduceIte, i10, e_ref _ r1, e_ref _ r2, e_ref _ r3, e_ref _ r4, e_ref _ r6, m_ref _ r1, m_ref _ r2, m_ref _ r3, m_ref _ r4, m_ref _ r6])
  · by_cases c2 : a0 < 7
    · have p1 : 0 ≤ a0.toInt := nn c1
      have p2 : a0.toInt < (7 : Int) := ilt.mp c2
      have p3 : a0 = 0 ∨ a0 = 1 ∨ a0 = 2 ∨ a0 = 3 ∨ a0 = 4 ∨ a0 = 5 ∨ a0 = 6 := by
        rcases c8 p1 (by omega) with q | q | q | q | q | q | q | q
        · exact Or.inl q
        · exact Or.inr (Or.inl q)
        · exact Or.inr (Or.inr (Or.inl q))
        · exact Or.inr (Or.inr (Or.inr (Or.inl q)))
        · exact Or.inr (Or.inr (Or.inr (Or.inr (Or.inl q))))
        · exact Or.inr (Or.inr (Or.inr (Or.inr (Or.inr (Or.inl q)))))
        · exact Or.inr (Or.inr (Or.inr (Or.inr (Or.inr (Or.inr q)))))
        · rw [q] at p2; exact absurd p2 (by decide)
      rcases p3 with rfl | rfl | rfl | rfl | rfl | rfl | rfl
      · have v1 : fX7_valueAt 7 sLEAST_SETTING 0 = some 0 := rfl
        have v2 : fX7_valueAt 7 sGREATEST_SETTING 0 = some 9 := rfl
        have v3 : fX6_setting (sh 3 E) 0 = some (E 3 3) := rfl
        have v4 : fX6_change (sh 3 E) 0 a1 = some (ups (E 3) 3 a1) := rfl
        have v5 : fX8_set M 0 a1 = fX8_set_65 M (M 3) (M 9) 0 a1 0 9 := rfl
        have m3 : M 3 ((0 : Int32)).toNatClampNeg = E 3 3 := h.1.2.2.2.2.2.2.2.2.2.1
        by_cases c3 : 0 ≤ a1
        · by_cases c4 : a1 ≤ 9
          · have e1 : fX7_set E 0 a1 = some (E 3 3, ups (E 3) 3 a1, E 28) := by
              unfold fX7_set
              rw [if_neg c1, if_pos c2, v1, ob1_s, if_pos c3, v2, ob1_s, if_pos c4]
              simp only [ups_id]
              rw [v3, ob1_s, v4, ob1_s]
            have e2 : fX8_set M 0 a1 = some (E 3 3, upd (M 3) ((0 : Int32)).toNatClampNeg a1, M 9) := by
              rw [v5]
              unfold fX8_set_65
              rw [if_pos c3, if_pos c4, gd_s (vin_lit (by decide)), gd_s (vin_lit (by decide)), nm_s, m3]
            refine ⟨_, _, _, _, _, e1, e2, ?_⟩
            rw [ups_idn (by decide), ups_idn (by decide)]
            exact zR_set0 h ⟨ile.mp c3, ile.mp c4⟩ pk_us (fun k hk => pk_un hk)
          · exact ref (-6) r6 (by simp only [fX7_set, c1, c2, v1, v2, c3, c4, ups_id, ob1_s, ob2_s, ob3_s, ob4_s, nm_s, ↓reduceIte, i10, e_ref _ r1, e_ref _ r2, e_ref _ r3, e_ref _ r4, e_ref _ r6, m_ref _ r1, m_ref _ r2, m_ref _ r3, m_ref _ r4, m_ref _ r6]) (by rw [v5]; simp only [fX8_set_65, c3, c4, ups_id, ob1_s, ob2_s, ob3_s, ob4_s, nm_s, ↓reduceIte, i10, e_ref _ r1, e_ref _ r2, e_ref _ r3, e_ref _ r4, e_ref _ r6, m_ref _ r1, m_ref _ r2, m_ref _ r3, m_ref _ r4, m_ref _ r6])
        · exact ref (-4) r4 (by simp only [fX7_set, c1, c2, v1, c3, ups_id, ob1_s, ob2_s, ob3_s, ob4_s, nm_s, ↓reduceIte, i10, e_ref _ r1, e_ref _ r2, e_ref _ r3, e_ref _ r4, e_ref _ r6, m_ref _ r1, m_ref _ r2, m_ref _ r3, m_ref _ r4, m_ref _ r6]) (by rw [v5]; simp only [fX8_set_65, c3, ups_id, ob1_s, ob2_s, ob3_s, ob4_s, nm_s, ↓reduceIte, i10, e_ref _ r1, e_ref _ r2, e_ref _ r3, e_ref _ r4, e_ref _ r6, m_ref _ r1, m_ref _ r2, m_ref _ r3, m_ref _ r4, m_ref _ r6])
      · have v1 : fX7_valueAt 7 sLEAST_SETTING 1 = some 1 := rfl
        have v2 : fX7_valueAt 7 sGREATEST_SETTING 1 = some 9 := rfl
        have v3 : fX6_setting (sh 3 E) 1 = some (E 3 4) := rfl
        have v4 : fX6_change (sh 3 E) 1 a1 = some (ups (E 3) 4 a1) := rfl
        have v5 : fX8_set M 1 a1 = fX8_set_65 M (M 3) (M 9) 1 a1 1 9 := rfl
        have m3 : M 3 ((1 : Int32)).toNatClampNeg = E 3 4 := h.1.2.2.2.2.2.2.2.2.2.2.1
        by_cases c3 : 1 ≤ a1
        · by_cases c4 : a1 ≤ 9
          · have e1 : fX7_set E 1 a1 = some (E 3 4, ups (E 3) 4 a1, E 28) := by
              unfold fX7_set
              rw [if_neg c1, if_pos c2, v1, ob1_s, if_pos c3, v2, ob1_s, if_pos c4]
              simp only [ups_id]
              rw [v3, ob1_s, v4, ob1_s]
            have e2 : fX8_set M 1 a1 = some (E 3 4, upd (M 3) ((1 : Int32)).toNatClampNeg a1, M 9) := by
              rw [v5]
              unfold fX8_set_65
              rw [if_pos c3, if_pos c4, gd_s (vin_lit (by decide)), gd_s (vin_lit (by decide)), nm_s, m3]
            refine ⟨_, _, _, _, _, e1, e2, ?_⟩
            rw [ups_idn (by decide), ups_idn (by decide)]
            exact zR_set1 h ⟨ile.mp c3, ile.mp c4⟩ pk_us (fun k hk => pk_un hk)
          · exact ref (-6) r6 (by simp only [fX7_set, c1, c2, v1, v2, c3, c4, ups_id, ob1_s, ob2_s, ob3_s, ob4_s, nm_s, ↓reduceIte, i10, e_ref _ r1, e_ref _ r2, e_ref _ r3, e_ref _ r4, e_ref _ r6, m_ref _ r1, m_ref _ r2, m_ref _ r3, m_ref _ r4, m_ref _ r6]) (by rw [v5]; simp only [fX8_set_65, c3, c4, ups_id, ob1_s, ob2_s, ob3_s, ob4_s, nm_s, ↓reduceIte, i10, e_ref _ r1, e_ref _ r2, e_ref _ r3, e_ref _ r4, e_ref _ r6, m_ref _ r1, m_ref _ r2, m_ref _ r3, m_ref _ r4, m_ref _ r6])
        · exact ref (-4) r4 (by simp only [fX7_set, c1, c2, v1, c3, ups_id, ob1_s, ob2_s, ob3_s, ob4_s, nm_s, ↓reduceIte, i10, e_ref _ r1, e_ref _ r2, e_ref _ r3, e_ref _ r4, e_ref _ r6, m_ref _ r1, m_ref _ r2, m_ref _ r3, m_ref _ r4, m_ref _ r6]) (by rw [v5]; simp only [fX8_set_65, c3, ups_id, ob1_s, ob2_s, ob3_s, ob4_s, nm_s, ↓reduceIte, i10, e_ref _ r1, e_ref _ r2, e_ref _ r3, e_ref _ r4, e_ref _ r6, m_ref _ r1, m_ref _ r2, m_ref _ r3, m_ref _ r4, m_ref _ r6])
      · have v1 : fX7_valueAt 7 sLEAST_SETTING 2 = some 0 := rfl
        have v2 : fX7_valueAt 7 sGREATEST_SETTING 2 = some 9 := rfl
        have v3 : fX6_setting (sh 3 E) 2 = some (E 3 5) := rfl
        have v4 : fX6_change (sh 3 E) 2 a1 = some (ups (E 3) 5 a1) := rfl
        have v5 : fX8_set M 2 a1 = fX8_set_65 M (M 3) (M 9) 2 a1 0 9 := rfl
        have m3 : M 3 ((2 : Int32)).toNatClampNeg = E 3 5 := h.1.2.2.2.2.2.2.2.2.2.2.2.1
        by_cases c3 : 0 ≤ a1
        · by_cases c4 : a1 ≤ 9
          · have e1 : fX7_set E 2 a1 = some (E 3 5, ups (E 3) 5 a1, E 28) := by
              unfold fX7_set
              rw [if_neg c1, if_pos c2, v1, ob1_s, if_pos c3, v2, ob1_s, if_pos c4]
              simp only [ups_id]
              rw [v3, ob1_s, v4, ob1_s]
            have e2 : fX8_set M 2 a1 = some (E 3 5, upd (M 3) ((2 : Int32)).toNatClampNeg a1, M 9) := by
              rw [v5]
              unfold fX8_set_65
              rw [if_pos c3, if_pos c4, gd_s (vin_lit (by decide)), gd_s (vin_lit (by decide)), nm_s, m3]
            refine ⟨_, _, _, _, _, e1, e2, ?_⟩
            rw [ups_idn (by decide), ups_idn (by decide)]
            exact zR_set2 h ⟨ile.mp c3, ile.mp c4⟩ pk_us (fun k hk => pk_un hk)
          · exact ref (-6) r6 (by simp only [fX7_set, c1, c2, v1, v2, c3, c4, ups_id, ob1_s, ob2_s, ob3_s, ob4_s, nm_s, ↓reduceIte, i10, e_ref _ r1, e_ref _ r2, e_ref _ r3, e_ref _ r4, e_ref _ r6, m_ref _ r1, m_ref _ r2, m_ref _ r3, m_ref _ r4, m_ref _ r6]) (by rw [v5]; simp only [fX8_set_65, c3, c4, ups_id, ob1_s, ob2_s, ob3_s, ob4_s, nm_s, ↓reduceIte, i10, e_ref _ r1, e_ref _ r2, e_ref _ r3, e_ref _ r4, e_ref _ r6, m_ref _ r1, m_ref _ r2, m_ref _ r3, m_ref _ r4, m_ref _ r6])
        · exact ref (-4) r4 (by simp only [fX7_set, c1, c2, v1, c3, ups_id, ob1_s, ob2_s, ob3_s, ob4_s, nm_s, ↓reduceIte, i10, e_ref _ r1, e_ref _ r2, e_ref _ r3, e_ref _ r4, e_ref _ r6, m_ref _ r1, m_ref _ r2, m_ref _ r3, m_ref _ r4, m_ref _ r6]) (by rw [v5]; simp only [fX8_set_65, c3, ups_id, ob1_s, ob2_s, ob3_s, ob4_s, nm_s, ↓reduceIte, i10, e_ref _ r1, e_ref _ r2, e_ref _ r3, e_ref _ r4, e_ref _ r6, m_ref _ r1, m_ref _ r2, m_ref _ r3, m_ref _ r4, m_ref _ r6])
      · have v1 : fX7_valueAt 7 sLEAST_SETTING 3 = some 0 := rfl
        have v2 : fX7_valueAt 7 sGREATEST_SETTING 3 = some 60 := rfl
        have v3 : fX6_setting (sh 3 E) 3 = some (E 3 6) := rfl
        have v4 : fX6_change (sh 3 E) 3 a1 = some (ups (E 3) 6 a1) := rfl
        have v5 : fX8_set M 3 a1 = fX8_set_65 M (M 3) (M 9) 3 a1 0 60 := rfl
        have m3 : M 3 ((3 : Int32)).toNatClampNeg = E 3 6 := h.1.2.2.2.2.2.2.2.2.2.2.2.2.1
        by_cases c3 : 0 ≤ a1
        · by_cases c4 : a1 ≤ 60
          · have e1 : fX7_set E 3 a1 = some (E 3 6, ups (E 3) 6 a1, E 28) := by
              unfold fX7_set
              rw [if_neg c1, if_pos c2, v1, ob1_s, if_pos c3, v2, ob1_s, if_pos c4]
              simp only [ups_id]
              rw [v3, ob1_s, v4, ob1_s]
            have e2 : fX8_set M 3 a1 = some (E 3 6, upd (M 3) ((3 : Int32)).toNatClampNeg a1, M 9) := by
              rw [v5]
              unfold fX8_set_65
              rw [if_pos c3, if_pos c4, gd_s (vin_lit (by decide)), gd_s (vin_lit (by decide)), nm_s, m3]
            refine ⟨_, _, _, _, _, e1, e2, ?_⟩
            rw [ups_idn (by decide), ups_idn (by decide)]
            exact zR_set3 h ⟨ile.mp c3, ile.mp c4⟩ pk_us (fun k hk => pk_un hk)
          · exact ref (-6) r6 (by simp only [fX7_set, c1, c2, v1, v2, c3, c4, ups_id, ob1_s, ob2_s, ob3_s, ob4_s, nm_s, ↓reduceIte, i10, e_ref _ r1, e_ref _ r2, e_ref _ r3, e_ref _ r4, e_ref _ r6, m_ref _ r1, m_ref _ r2, m_ref _ r3, m_ref _ r4, m_ref _ r6]) (by rw [v5]; simp only [fX8_set_65, c3, c4, ups_id, ob1_s, ob2_s, ob3_s, ob4_s, nm_s, ↓reduceIte, i10, e_ref _ r1, e_ref _ r2, e_ref _ r3, e_ref _ r4, e_ref _ r6, m_ref _ r1, m_ref _ r2, m_ref _ r3, m_ref _ r4, m_ref _ r6])
        · exact ref (-4) r4 (by simp only [fX7_set, c1, c2, v1, c3, ups_id, ob1_s, ob2_s, ob3_s, ob4_s, nm_s, ↓reduceIte, i10, e_ref _ r1, e_ref _ r2, e_ref _ r3, e_ref _ r4, e_ref _ r6, m_ref _ r1, m_ref _ r2, m_ref _ r3, m_ref _ r4, m_ref _ r6]) (by rw [v5]; simp only [fX8_set_65, c3, ups_id, ob1_s, ob2_s, ob3_s, ob4_s, nm_s, ↓reduceIte, i10, e_ref _ r1, e_ref _ r2, e_ref _ r3, e_ref _ r4, e_ref _ r6, m_ref _ r1, m_ref _ r2, m_ref _ r3, m_ref _ r4, m_ref _ r6])
      · have v1 : fX7_valueAt 7 sLEAST_SETTING 4 = some 1 := rfl
        have v2 : fX7_valueAt 7 sGREATEST_SETTING 4 = some 3 := rfl
        have v3 : fX6_setting (sh 3 E) 4 = some (E 3 7) := rfl
        have v4 : fX6_change (sh 3 E) 4 a1 = some (ups (E 3) 7 a1) := rfl
        have v5 : fX8_set M 4 a1 = fX8_set_65 M (M 3) (M 9) 4 a1 1 3 := rfl
        have m3 : M 3 ((4 : Int32)).toNatClampNeg = E 3 7 := h.1.2.2.2.2.2.2.2.2.2.2.2.2.2.1
        by_cases c3 : 1 ≤ a1
        · by_cases c4 : a1 ≤ 3
          · have e1 : fX7_set E 4 a1 = some (E 3 7, ups (E 3) 7 a1, E 28) := by
              unfold fX7_set
              rw [if_neg c1, if_pos c2, v1, ob1_s, if_pos c3, v2, ob1_s, if_pos c4]
              simp only [ups_id]
              rw [v3, ob1_s, v4, ob1_s]
            have e2 : fX8_set M 4 a1 = some (E 3 7, upd (M 3) ((4 : Int32)).toNatClampNeg a1, M 9) := by
              rw [v5]
              unfold fX8_set_65
              rw [if_pos c3, if_pos c4, gd_s (vin_lit (by decide)), gd_s (vin_lit (by decide)), nm_s, m3]
            refine ⟨_, _, _, _, _, e1, e2, ?_⟩
            rw [ups_idn (by decide), ups_idn (by decide)]
            exact zR_set4 h ⟨ile.mp c3, ile.mp c4⟩ pk_us (fun k hk => pk_un hk)
          · exact ref (-6) r6 (by simp only [fX7_set, c1, c2, v1, v2, c3, c4, ups_id, ob1_s, ob2_s, ob3_s, ob4_s, nm_s, ↓reduceIte, i10, e_ref _ r1, e_ref _ r2, e_ref _ r3, e_ref _ r4, e_ref _ r6, m_ref _ r1, m_ref _ r2, m_ref _ r3, m_ref _ r4, m_ref _ r6]) (by rw [v5]; simp only [fX8_set_65, c3, c4, ups_id, ob1_s, ob2_s, ob3_s, ob4_s, nm_s, ↓reduceIte, i10, e_ref _ r1, e_ref _ r2, e_ref _ r3, e_ref _ r4, e_ref _ r6, m_ref _ r1, m_ref _ r2, m_ref _ r3, m_ref _ r4, m_ref _ r6])
        · exact ref (-4) r4 (by simp only [fX7_set, c1, c2, v1, c3, ups_id, ob1_s, ob2_s, ob3_s, ob4_s, nm_s, ↓reduceIte, i10, e_ref _ r1, e_ref _ r2, e_ref _ r3, e_ref _ r4, e_ref _ r6, m_ref _ r1, m_ref _ r2, m_ref _ r3, m_ref _ r4, m_ref _ r6]) (by rw [v5]; simp only [fX8_set_65, c3, ups_id, ob1_s, ob2_s, ob3_s, ob4_s, nm_s, ↓reduceIte, i10, e_ref _ r1, e_ref _ r2, e_ref _ r3, e_ref _ r4, e_ref _ r6, m_ref _ r1, m_ref _ r2, m_ref _ r3, m_ref _ r4, m_ref _ r6])
      · have v1 : fX7_valueAt 7 sLEAST_SETTING 5 = some 0 := rfl
        have v2 : fX7_valueAt 7 sGREATEST_SETTING 5 = some 9 := rfl
        have v3 : fX6_setting (sh 3 E) 5 = some (E 3 8) := rfl
        have v4 : fX6_change (sh 3 E) 5 a1 = some (ups (E 3) 8 a1) := rfl
        have v5 : fX8_set M 5 a1 = fX8_set_65 M (M 3) (M 9) 5 a1 0 9 := rfl
        have m3 : M 3 ((5 : Int32)).toNatClampNeg = E 3 8 := h.2.2.1
        by_cases c3 : 0 ≤ a1
        · by_cases c4 : a1 ≤ 9
          · have e1 : fX7_set E 5 a1 = some (E 3 8, ups (E 3) 8 a1, E 28) := by
              unfold fX7_set
              rw [if_neg c1, if_pos c2, v1, ob1_s, if_pos c3, v2, ob1_s, if_pos c4]
              simp only [ups_id]
              rw [v3, ob1_s, v4, ob1_s]
            have e2 : fX8_set M 5 a1 = some (E 3 8, upd (M 3) ((5 : Int32)).toNatClampNeg a1, M 9) := by
              rw [v5]
              unfold fX8_set_65
              rw [if_pos c3, if_pos c4, gd_s (vin_lit (by decide)), gd_s (vin_lit (by decide)), nm_s, m3]
            refine ⟨_, _, _, _, _, e1, e2, ?_⟩
            rw [ups_idn (by decide), ups_idn (by decide)]
            exact zR_set5 h ⟨ile.mp c3, ile.mp c4⟩ pk_us (fun k hk => pk_un hk)
          · exact ref (-6) r6 (by simp only [fX7_set, c1, c2, v1, v2, c3, c4, ups_id, ob1_s, ob2_s, ob3_s, ob4_s, nm_s, ↓reduceIte, i10, e_ref _ r1, e_ref _ r2, e_ref _ r3, e_ref _ r4, e_ref _ r6, m_ref _ r1, m_ref _ r2, m_ref _ r3, m_ref _ r4, m_ref _ r6]) (by rw [v5]; simp only [fX8_set_65, c3, c4, ups_id, ob1_s, ob2_s, ob3_s, ob4_s, nm_s, ↓reduceIte, i10, e_ref _ r1, e_ref _ r2, e_ref _ r3, e_ref _ r4, e_ref _ r6, m_ref _ r1, m_ref _ r2, m_ref _ r3, m_ref _ r4, m_ref _ r6])
        · exact ref (-4) r4 (by simp only [fX7_set, c1, c2, v1, c3, ups_id, ob1_s, ob2_s, ob3_s, ob4_s, nm_s, ↓reduceIte, i10, e_ref _ r1, e_ref _ r2, e_ref _ r3, e_ref _ r4, e_ref _ r6, m_ref _ r1, m_ref _ r2, m_ref _ r3, m_ref _ r4, m_ref _ r6]) (by rw [v5]; simp only [fX8_set_65, c3, ups_id, ob1_s, ob2_s, ob3_s, ob4_s, nm_s, ↓reduceIte, i10, e_ref _ r1, e_ref _ r2, e_ref _ r3, e_ref _ r4, e_ref _ r6, m_ref _ r1, m_ref _ r2, m_ref _ r3, m_ref _ r4, m_ref _ r6])
      · have v1 : fX7_valueAt 7 sLEAST_SETTING 6 = some 0 := rfl
        have v2 : fX7_valueAt 7 sGREATEST_SETTING 6 = some 99 := rfl
        have v3 : fX6_setting (sh 3 E) 6 = some (E 3 9) := rfl
        have v4 : fX6_change (sh 3 E) 6 a1 = some (ups (E 3) 9 a1) := rfl
        have v5 : fX8_set M 6 a1 = fX8_set_65 M (M 3) (M 9) 6 a1 0 99 := rfl
        have m3 : M 3 ((6 : Int32)).toNatClampNeg = E 3 9 := h.1.2.2.2.2.2.2.2.2.2.2.2.2.2.2
        by_cases c3 : 0 ≤ a1
        · by_cases c4 : a1 ≤ 99
          · have e1 : fX7_set E 6 a1 = some (E 3 9, ups (E 3) 9 a1, E 28) := by
              unfold fX7_set
              rw [if_neg c1, if_pos c2, v1, ob1_s, if_pos c3, v2, ob1_s, if_pos c4]
              simp only [ups_id]
              rw [v3, ob1_s, v4, ob1_s]
            have e2 : fX8_set M 6 a1 = some (E 3 9, upd (M 3) ((6 : Int32)).toNatClampNeg a1, M 9) := by
              rw [v5]
              unfold fX8_set_65
              rw [if_pos c3, if_pos c4, gd_s (vin_lit (by decide)), gd_s (vin_lit (by decide)), nm_s, m3]
            refine ⟨_, _, _, _, _, e1, e2, ?_⟩
            rw [ups_idn (by decide), ups_idn (by decide)]
            exact zR_set6 h ⟨ile.mp c3, ile.mp c4⟩ pk_us (fun k hk => pk_un hk)
          · exact ref (-6) r6 (by simp only [fX7_set, c1, c2, v1, v2, c3, c4, ups_id, ob1_s, ob2_s, ob3_s, ob4_s, nm_s, ↓reduceIte, i10, e_ref _ r1, e_ref _ r2, e_ref _ r3, e_ref _ r4, e_ref _ r6, m_ref _ r1, m_ref _ r2, m_ref _ r3, m_ref _ r4, m_ref _ r6]) (by rw [v5]; simp only [fX8_set_65, c3, c4, ups_id, ob1_s, ob2_s, ob3_s, ob4_s, nm_s, ↓reduceIte, i10, e_ref _ r1, e_ref _ r2, e_ref _ r3, e_ref _ r4, e_ref _ r6, m_ref _ r1, m_ref _ r2, m_ref _ r3, m_ref _ r4, m_ref _ r6])
        · exact ref (-4) r4 (by simp only [fX7_set, c1, c2, v1, c3, ups_id, ob1_s, ob2_s, ob3_s, ob4_s, nm_s, ↓reduceIte, i10, e_ref _ r1, e_ref _ r2, e_ref _ r3, e_ref _ r4, e_ref _ r6, m_ref _ r1, m_ref _ r2, m_ref _ r3, m_ref _ r4, m_ref _ r6]) (by rw [v5]; simp only [fX8_set_65, c3, ups_id, ob1_s, ob2_s, ob3_s, ob4_s, nm_s, ↓reduceIte, i10, e_ref _ r1, e_ref _ r2, e_ref _ r3, e_ref _ r4, e_ref _ r6, m_ref _ r1, m_ref _ r2, m_ref _ r3, m_ref _ r4, m_ref _ r6])
    · have c2' : ¬ a0 ≤ 6 := fun q => by
        have q2 : a0.toInt ≤ (6 : Int) := ile.mp q
        exact c2 (ilt.mpr (show a0.toInt < (7 : Int) by omega))
      exact ref (-2) r2 (by simp only [fX7_set, fX7_set_10, c1, c2, ups_id, ob1_s, ob2_s, ob3_s, ob4_s, nm_s, ↓reduceIte, i10, e_ref _ r1, e_ref _ r2, e_ref _ r3, e_ref _ r4, e_ref _ r6, m_ref _ r1, m_ref _ r2, m_ref _ r3, m_ref _ r4, m_ref _ r6]) (by simp only [fX8_set, fX8_set_10, c1, c2', ups_id, ob1_s, ob2_s, ob3_s, ob4_s, nm_s, ↓reduceIte, i10, e_ref _ r1, e_ref _ r2, e_ref _ r3, e_ref _ r4, e_ref _ r6, m_ref _ r1, m_ref _ r2, m_ref _ r3, m_ref _ r4, m_ref _ r6])
theorem lvB_r {w : Nat → Nat → Int32} (hw : OW w) {t d : Int32} (ht : Rng t 0 5) : 0 ≤ (lvB w t d).toInt ∧ (lvB w t d).toInt ≤ (w 0 6).toInt := by
  obtain ⟨c0, c60⟩ := hw.2.2.2.2.2.1
  obtain ⟨t0, t5⟩ := ht
  have k10 : (10 : Int32).toInt = 10 := rfl
  have k20 : (20 : Int32).toInt = 20 := rfl
  have k100 : (100 : Int32).toInt = 100 := rfl
  have a1 : ((10 : Int32) * t).toInt = 10 * t.toInt := by rw [im] <;> rw [k10] <;> omega
  have a2 : ((20 : Int32) + 10 * t).toInt = 20 + 10 * t.toInt := by rw [ia] <;> rw [a1, k20] <;> omega
  have fin : ∀ y : Int32, 0 ≤ y.toInt → y.toInt ≤ 30 → 0 ≤ (zmin (w 0 6) ((w 0 6 * ((20 + 10 * t) + y)) / 100)).toInt ∧ (zmin (w 0 6) ((w 0 6 * ((20 + 10 * t) + y)) / 100)).toInt ≤ (w 0 6).toInt := fun y y0 y30 => by
    have a3 : ((20 : Int32) + 10 * t + y).toInt = 20 + 10 * t.toInt + y.toInt := by rw [ia] <;> rw [a2] <;> omega
    have b1 : (w 0 6).toInt * ((20 : Int32) + 10 * t + y).toInt ≤ 60 * 100 := Int.mul_le_mul c60 (by rw [a3]; omega) (by rw [a3]; omega) (by omega)
    have b2 : 0 ≤ (w 0 6).toInt * ((20 : Int32) + 10 * t + y).toInt := Int.mul_nonneg c0 (by rw [a3]; omega)
    have b3 : (w 0 6 * ((20 : Int32) + 10 * t + y)).toInt = (w 0 6).toInt * ((20 : Int32) + 10 * t + y).toInt := im (by omega) (by omega)
    have b4 : (w 0 6 * ((20 : Int32) + 10 * t + y) / 100).toInt = (w 0 6).toInt * ((20 : Int32) + 10 * t + y).toInt / 100 := by rw [idv (by rw [b3]; exact b2) (by decide), b3, k100]
    rw [zmin_i, b4]
    omega
  unfold lvB
  by_cases c : d = 0
  · rw [if_pos c]; exact fin 30 (by decide) (by decide)
  · rw [if_neg c]; exact fin 0 (by decide) (by decide)
/-- the cells of the chart, counted -/
theorem cellN {w : Nat → Nat → Int32} (hw : OW w) : ∃ N : Nat, N ≤ 64 ∧ w 1 1 * w 1 2 = nI N ∧ (∀ j, j < N → CellOk w (nI j)) ∧ (∀ c, CellOk w c → ∃ j, j < N ∧ c = nI j) := by
  obtain ⟨d1, d2, d3⟩ := dim_mul hw.1
  refine ⟨(w 1 1 * w 1 2).toInt.toNat, by omega, nI_of' (by omega), fun j hj => ?_, fun c hc => ⟨c.toInt.toNat, ?_, nI_of' hc.1⟩⟩
  · unfold CellOk
    rw [nI_toInt (by omega)]
    omega
  · have := hc.1; have := hc.2; omega
theorem mb1 {m : Nat → Nat → Int32} {N : Nat} (hN : N ≤ 64) (hc : m 0 0 * m 0 1 = nI N) : ∀ (f j : Nat), j ≤ N → N < f + j → zl2 (fX8_beachBest_4 m) f 1 (nI j) = zl3 (fX8_beachBest_51 m) zFU (-9) (-1) 0 := by
  intro f
  induction f with
  | zero => intro j h1 h2; omega
  | succ f ih =>
    intro j h1 h2
    show fX8_beachBest_4 m (zl2 (fX8_beachBest_4 m) f) 1 (nI j) = _
    have i2 := ih (j + 1)
    generalize zl2 (fX8_beachBest_4 m) f = Z at *
    generalize hY : zl3 (fX8_beachBest_51 m) zFU (-9) (-1) 0 = Y at *
    unfold fX8_beachBest_4 fX8_beachBest_30
    rw [hc]
    by_cases c : j = N
    · subst c
      rw [if_pos (by rw [nI_leI (by omega) (by omega)]; omega), if_neg (by decide)]
      exact hY
    · rw [if_neg (by rw [nI_leI (by omega) (by omega)]; omega), gd_s (vp_in_nI (by omega) (by omega)), nI_1]
      have i3 := i2 (by omega) (by omega)
      split <;> exact i3
theorem beach_loop {m w : Nat → Nat → Int32} (hr : RW m w) (hw : OW w) {N : Nat} (hN : N ≤ 64) (hc : w 1 1 * w 1 2 = nI N) (hcell : ∀ j, j < N → CellOk w (nI j)) : ∀ (f j : Nat), j ≤ N → N < f + j → (zl1 (fX1_hasBeach_2 (sh 1 w)) f (nI j) = some 0 ∧ zl2 (fX8_beachBest_4 m) f 0 (nI j) = some (-9)) ∨ (zl1 (fX1_hasBeach_2 (sh 1 w)) f (nI j) = some 1 ∧ zl2 (fX8_beachBest_4 m) f 0 (nI j) = zl3 (fX8_beachBest_51 m) zFU (-9) (-1) 0) := by
  have hcm : m 0 0 * m 0 1 = nI N := by rw [hr.1, hr.2.1]; exact hc
  have hcw : fX1_cells (sh 1 w) = some (nI N) := by unfold fX1_cells; rw [← hc]; rfl
  have hb : m 1 = w 2 := hr.2.2.2.2.1
  intro f
  induction f with
  | zero => intro j h1 h2; omega
  | succ f ih =>
    intro j h1 h2
    show (fX1_hasBeach_2 (sh 1 w) (zl1 (fX1_hasBeach_2 (sh 1 w)) f) (nI j) = some 0 ∧ fX8_beachBest_4 m (zl2 (fX8_beachBest_4 m) f) 0 (nI j) = some (-9)) ∨ (fX1_hasBeach_2 (sh 1 w) (zl1 (fX1_hasBeach_2 (sh 1 w)) f) (nI j) = some 1 ∧ fX8_beachBest_4 m (zl2 (fX8_beachBest_4 m) f) 0 (nI j) = zl3 (fX8_beachBest_51 m) zFU (-9) (-1) 0)
    have i2 := ih (j + 1)
    have i3 := mb1 hN hcm f (j + 1)
    generalize zl2 (fX8_beachBest_4 m) f = Z at *
    generalize zl1 (fX1_hasBeach_2 (sh 1 w)) f = Z2 at *
    generalize hY : zl3 (fX8_beachBest_51 m) zFU (-9) (-1) 0 = Y at *
    unfold fX8_beachBest_4 fX8_beachBest_30 fX1_hasBeach_2
    rw [hcm, hcw, ob1_s]
    by_cases c : j = N
    · subst c
      left
      rw [if_pos (by rw [nI_leI (by omega) (by omega)]; omega), if_pos (by rw [nI_leI (by omega) (by omega)]; omega), if_pos rfl]
      exact ⟨rfl, rfl⟩
    · have cN : ¬ nI N ≤ nI j := by rw [nI_leI (by omega) (by omega)]; omega
      simp only [if_neg cN]
      rw [e_ground hw.1 (hcell j (by omega)), ob1_s, gd_s (vp_in_nI (by omega) (by omega)), nI_1, hb]
      by_cases c30 : w 2 (nI j).toNatClampNeg = 30
      · right
        rw [if_pos c30, if_pos c30]
        exact ⟨rfl, i3 (by omega) (by omega)⟩
      · rw [if_neg c30, if_neg c30]
        exact i2 (by omega) (by omega)
theorem best_step {E M : Nat → Nat → Int32} (hr : RW M (sh 3 E)) (hw : OW (sh 3 E)) (f : Nat) (x b v b' : Int32) (hx : ¬ (30 : Int32) < x) : ∃ d, Rng (tid (sh 3 E) x) 0 5 ∧ zl3 (fX7_beachBest_22 E) (f + 1) b v x = (if lvB (sh 3 E) (tid (sh 3 E) x) d ≤ v then zl3 (fX7_beachBest_22 E) f b v (x + 1) else zl3 (fX7_beachBest_22 E) f x (lvB (sh 3 E) (tid (sh 3 E) x) d) (x + 1)) ∧ zl3 (fX8_beachBest_51 M) (f + 1) b' v x = (if v < lvB (sh 3 E) (tid (sh 3 E) x) d then zl3 (fX8_beachBest_51 M) f x (lvB (sh 3 E) (tid (sh 3 E) x) d) (x + 1) else zl3 (fX8_beachBest_51 M) f b' v (x + 1)) := by
  refine ⟨drk (sh 3 E) x, tid_r hw x, ?_, ?_⟩
  · show fX7_beachBest_22 E (zl3 (fX7_beachBest_22 E) f) b v x = _
    generalize zl3 (fX7_beachBest_22 E) f = Z
    unfold fX7_beachBest_22 fX7_beachBest_67
    have t : fX0_latestAt (sh 9 E) x = some (tid (sh 3 E) x) := e_tid hw x
    rw [if_neg hx, t, ob1_s, e_dark, ob1_s, e_lvB, ob1_s]
  · show fX8_beachBest_51 M (zl3 (fX8_beachBest_51 M) f) b' v x = _
    generalize zl3 (fX8_beachBest_51 M) f = Z
    have q3 : M 3 ((3 : Int32)).toNatClampNeg = sh 3 E 0 6 := hr.2.2.2.2.2.2.2.2.2.2.2.2.1
    have q6 : M 3 ((6 : Int32)).toNatClampNeg = sh 3 E 0 9 := hr.2.2.2.2.2.2.2.2.2.2.2.2.2.2
    unfold fX8_beachBest_51 fX8_beachBest_100 fX8_beachBest_125
    rw [if_neg hx, m_tid hw hr, ob1_s, q3, q6]
    unfold drk lvB
    by_cases c : x < sh 3 E 0 9
    · have c' : ¬ sh 3 E 0 9 ≤ x := Int32.not_le.mpr c
      simp only [if_pos c, if_neg c', if_pos rfl]
      rfl
    · have c' : sh 3 E 0 9 ≤ x := Int32.not_lt.mp c
      have n1 : ¬ (1 : Int32) = 0 := by decide
      simp only [if_neg c, if_pos c', if_neg n1]
theorem le_or {x y : Int32} : (x ≤ y ∧ ¬ y < x) ∨ (¬ x ≤ y ∧ y < x) := by
  by_cases c : x ≤ y
  · exact Or.inl ⟨c, Int32.not_lt.mpr c⟩
  · exact Or.inr ⟨c, Int32.not_le.mp c⟩
theorem best_loop {E M : Nat → Nat → Int32} (hr : RW M (sh 3 E)) (hw : OW (sh 3 E)) : ∀ (f j : Nat) (b v : Int32), j ≤ 31 → 31 < f + j → ∃ r, zl3 (fX7_beachBest_22 E) f b v (nI j) = some r ∧ zl3 (fX8_beachBest_51 M) f b v (nI j) = some r := by
  intro f
  induction f with
  | zero => intro j b v h1 h2; omega
  | succ f ih =>
    intro j b v h1 h2
    have k30 : (30 : Int32) = nI 30 := rfl
    by_cases c : j = 31
    · subst c
      refine ⟨b, ?_, ?_⟩
      · show fX7_beachBest_22 E (zl3 (fX7_beachBest_22 E) f) b v (nI 31) = _
        generalize zl3 (fX7_beachBest_22 E) f = Z
        unfold fX7_beachBest_22
        rw [if_pos (by decide)]
      · show fX8_beachBest_51 M (zl3 (fX8_beachBest_51 M) f) b v (nI 31) = _
        generalize zl3 (fX8_beachBest_51 M) f = Z
        unfold fX8_beachBest_51
        rw [if_pos (by decide)]
    · obtain ⟨d, -, a1, a2⟩ := best_step hr hw f (nI j) b v b (by rw [k30, nI_ltI (by omega) (by omega)]; omega)
      rw [a1, a2, nI_1]
      rcases le_or (x := lvB (sh 3 E) (tid (sh 3 E) (nI j)) d) (y := v) with ⟨c1, c2⟩ | ⟨c1, c2⟩
      · rw [if_pos c1, if_neg c2]
        exact ih (j + 1) b v (by omega) (by omega)
      · rw [if_neg c1, if_pos c2]
        exact ih (j + 1) _ _ (by omega) (by omega)
theorem sim_beachBest {n : Nat} {E M : Nat → Nat → Int32} (hn : n < 1000) (h : zR n E M) : ∃ (r : Int32), fX7_beachBest E = some r ∧ fX8_beachBest M = some r ∧ zR (n + 1) E M := by
  have hw := h.2.1
  have hr := h.1
  obtain ⟨N, n1, n2, n3, n4⟩ := cellN hw
  have z0 : nI 0 = (0 : Int32) := rfl
  rcases beach_loop hr hw n1 n2 n3 zFU 0 (by omega) (by unfold zFU; omega) with ⟨a1, a2⟩ | ⟨a1, a2⟩
  · rw [z0] at a1 a2
    refine ⟨-9, ?_, a2, zR_mono h⟩
    unfold fX7_beachBest fX1_hasBeach
    rw [h4has, a1, ob1_s, if_pos rfl]
  · rw [z0] at a1 a2
    obtain ⟨d, ht, b1, b2⟩ := best_step hr hw 999 0 0 (-1) (-9) (by decide)
    have hl := (lvB_r hw ht (d := d)).1
    have q1 : ¬ lvB (sh 3 E) (tid (sh 3 E) 0) d ≤ -1 := fun q => by
      have : (lvB (sh 3 E) (tid (sh 3 E) 0) d).toInt ≤ -1 := ile.mp q
      omega
    have q2 : (-1 : Int32) < lvB (sh 3 E) (tid (sh 3 E) 0) d := Int32.not_le.mp q1
    rw [if_neg q1] at b1
    rw [if_pos q2] at b2
    have z1 : (0 : Int32) + 1 = nI 1 := rfl
    rw [z1] at b1 b2
    obtain ⟨r, c1, c2⟩ := best_loop hr hw 999 1 0 (lvB (sh 3 E) (tid (sh 3 E) 0) d) (by omega) (by omega)
    refine ⟨r, ?_, a2.trans (b2.trans c2), zR_mono h⟩
    unfold fX7_beachBest fX1_hasBeach
    rw [h4has, a1, ob1_s, if_neg (by decide)]
    exact b1.trans c1
/-! what a light on the land lights -/
theorem dir8 {d : Int32} (hd : D8 d) : -1 ≤ (sDOWN d.toNatClampNeg).toInt ∧ (sDOWN d.toNatClampNeg).toInt ≤ 1 ∧ -1 ≤ (sACROSS d.toNatClampNeg).toInt ∧ (sACROSS d.toNatClampNeg).toInt ≤ 1 ∧ ¬ ((sDOWN d.toNatClampNeg).toInt = 0 ∧ (sACROSS d.toNatClampNeg).toInt = 0) := by
  rcases c8 hd.1 hd.2 with rfl | rfl | rfl | rfl | rfl | rfl | rfl | rfl <;> decide
theorem nbr_pos {w : Nat → Nat → Int32} (hd : RDim (w 1 1) (w 1 2)) {c d : Int32} (hc : CellOk w c) (hdd : D8 d) : nbr (w 1 1) (w 1 2) c d = -1 ∨ (CellOk w (nbr (w 1 1) (w 1 2) c d) ∧ (nbr (w 1 1) (w 1 2) c d).toInt / (w 1 2).toInt = c.toInt / (w 1 2).toInt + (sDOWN d.toNatClampNeg).toInt ∧ (nbr (w 1 1) (w 1 2) c d).toInt % (w 1 2).toInt = c.toInt % (w 1 2).toInt + (sACROSS d.toNatClampNeg).toInt) := by
  have key := nbr_r hd hc hdd
  obtain ⟨⟨r2, r8⟩, ⟨k2, k8⟩⟩ := cell_dim hd hc
  have h64 := cell_64 hd hc
  have q1 : (c / w 1 2).toInt = c.toInt / (w 1 2).toInt := idv hc.1 (by omega)
  have q2 : (zrem c (w 1 2)).toInt = c.toInt % (w 1 2).toInt := irm hc.1 (by omega)
  have b1 : 0 ≤ c.toInt / (w 1 2).toInt := Int.ediv_nonneg hc.1 (by omega)
  have b2 : c.toInt / (w 1 2).toInt ≤ c.toInt := Int.ediv_le_self _ hc.1
  have b3 := Int.emod_nonneg c.toInt (by omega : (w 1 2).toInt ≠ 0)
  have b4 := Int.emod_lt_of_pos c.toInt (by omega : 0 < (w 1 2).toInt)
  obtain ⟨d1, d2, d3, d4, -⟩ := dir8 hdd
  unfold nbr at key ⊢
  generalize sDOWN d.toNatClampNeg = a at *
  generalize sACROSS d.toNatClampNeg = b at *
  have e1 : (c / w 1 2 + a).toInt = c.toInt / (w 1 2).toInt + a.toInt := by rw [ia] <;> rw [q1] <;> omega
  have e2 : (zrem c (w 1 2) + b).toInt = c.toInt % (w 1 2).toInt + b.toInt := by rw [ia] <;> rw [q2] <;> omega
  by_cases c1 : c / w 1 2 + a < 0
  · rw [if_pos c1]; exact Or.inl rfl
  · rw [if_neg c1] at key ⊢
    by_cases c2 : w 1 1 ≤ c / w 1 2 + a
    · rw [if_pos c2]; exact Or.inl rfl
    · rw [if_neg c2] at key ⊢
      by_cases c3 : zrem c (w 1 2) + b < 0
      · rw [if_pos c3]; exact Or.inl rfl
      · rw [if_neg c3] at key ⊢
        by_cases c4 : zrem c (w 1 2) + b < w 1 2
        · rw [if_pos c4] at key ⊢
          rcases key with key | key
          · exact Or.inl key
          · right
            have f1 : 0 ≤ (c / w 1 2 + a).toInt := nn c1
            have f2 : (c / w 1 2 + a).toInt < (w 1 1).toInt := by have := mt ile.mpr c2; omega
            have f3 : 0 ≤ (zrem c (w 1 2) + b).toInt := nn c3
            have f4 : (zrem c (w 1 2) + b).toInt < (w 1 2).toInt := ilt.mp c4
            rw [← e1, ← e2]
            generalize c / w 1 2 + a = r at *
            generalize zrem c (w 1 2) + b = k at *
            have g1 : r.toInt * (w 1 2).toInt ≤ 7 * 8 := Int.mul_le_mul (by omega) (by omega) (by omega) (by omega)
            have g2 : 0 ≤ r.toInt * (w 1 2).toInt := Int.mul_nonneg (by omega) (by omega)
            have g3 : (r * w 1 2).toInt = r.toInt * (w 1 2).toInt := im (by omega) (by omega)
            have g4 : (r * w 1 2 + k).toInt = r.toInt * (w 1 2).toInt + k.toInt := by rw [ia] <;> rw [g3] <;> omega
            refine ⟨key, ?_⟩
            rw [g4]
            exact (Int.ediv_emod_unique (by omega)).mpr ⟨by rw [Int.mul_comm]; omega, f3, f4⟩
        · rw [if_neg c4]; exact Or.inl rfl
/-- i cells from c on, in a direction, or out of the bay -/
def Pos (w : Nat → Nat → Int32) (c d : Int32) (i : Nat) (q : Int32) : Prop := q = -1 ∨ (CellOk w q ∧ q.toInt / (w 1 2).toInt = c.toInt / (w 1 2).toInt + i * (sDOWN d.toNatClampNeg).toInt ∧ q.toInt % (w 1 2).toInt = c.toInt % (w 1 2).toInt + i * (sACROSS d.toNatClampNeg).toInt)
theorem pos_next {w : Nat → Nat → Int32} (hd : RDim (w 1 1) (w 1 2)) {c d q : Int32} {i : Nat} (hdd : D8 d) (hc : CellOk w q) (h1 : q.toInt / (w 1 2).toInt = c.toInt / (w 1 2).toInt + i * (sDOWN d.toNatClampNeg).toInt) (h2 : q.toInt % (w 1 2).toInt = c.toInt % (w 1 2).toInt + i * (sACROSS d.toNatClampNeg).toInt) : Pos w c d (i + 1) (nbr (w 1 1) (w 1 2) q d) := by
  rcases nbr_pos hd hc hdd with h | ⟨a1, a2, a3⟩
  · exact Or.inl h
  · refine Or.inr ⟨a1, a2.trans ?_, a3.trans ?_⟩
    · rw [h1]
      have : ((i + 1 : Nat) : Int) * (sDOWN d.toNatClampNeg).toInt = (i : Int) * (sDOWN d.toNatClampNeg).toInt + (sDOWN d.toNatClampNeg).toInt := by
        rw [Int.natCast_add, Int.add_mul]; simp
      omega
    · rw [h2]
      have : ((i + 1 : Nat) : Int) * (sACROSS d.toNatClampNeg).toInt = (i : Int) * (sACROSS d.toNatClampNeg).toInt + (sACROSS d.toNatClampNeg).toInt := by
        rw [Int.natCast_add, Int.add_mul]; simp
      omega
theorem pos_8 {w : Nat → Nat → Int32} (hd : RDim (w 1 1) (w 1 2)) {c d q : Int32} (hc : CellOk w c) (hdd : D8 d) (h : Pos w c d 8 q) : q = -1 := by
  rcases h with h | ⟨h0, h1, h2⟩
  · exact h
  · exfalso
    obtain ⟨⟨r2, r8⟩, ⟨k2, k8⟩⟩ := cell_dim hd hc
    obtain ⟨d1, d2, d3, d4, d5⟩ := dir8 hdd
    have rr : ∀ x : Int32, CellOk w x → 0 ≤ x.toInt / (w 1 2).toInt ∧ x.toInt / (w 1 2).toInt < 8 := fun x hx => ⟨Int.ediv_nonneg hx.1 (by omega), by
      have := Int.ediv_lt_of_lt_mul (by omega : 0 < (w 1 2).toInt) hx.2
      omega⟩
    have kk : ∀ x : Int32, 0 ≤ x.toInt % (w 1 2).toInt ∧ x.toInt % (w 1 2).toInt < 8 := fun x => ⟨Int.emod_nonneg _ (by omega), by have := Int.emod_lt_of_pos x.toInt (by omega : 0 < (w 1 2).toInt); omega⟩
    have a1 := rr c hc
    have a2 := rr q h0
    have a3 := kk c
    have a4 := kk q
    omega
