/-! the comparisons, one after another -/
theorem i10 : ((1 : Int32) = 0) = False := eq_false (by decide)
theorem ups_idn {α : Type} {f : Nat → α} {j k : Nat} {x : α} (h : k ≠ j) : ups (ups f j x) k (f k) = ups f j x := by
  have e : f k = ups f j x k := (ups_n _ _ _ _ h).symm
  rw [e, ups_id]
theorem zR_ship {n : Nat} {E M : Nat → Nat → Int32} {s' g' : Nat → Int32} (h : zR n E M) (k0 : s' 0 = E 12 0) (hid : Idle s') (ht : Rng (s' 9) 0 (100 * (n + 1 : Nat))) (hs : ShipR g' (sh 3 E) s') (kg : ∀ k, (k = 0 ∨ k = 1 ∨ k = 3 ∨ k = 6 ∨ k = 9 ∨ k = 12 ∨ k = 25 ∨ k = 26 ∨ k = 28 ∨ k = 31) → g' k = M 0 k) : zR (n + 1) (ups E 12 s') (ups M 0 g') := by
  obtain ⟨h1, h2, h3, ⟨b1, b2, b3⟩, ⟨a1, a2, a3, a4, a5, a6, a7⟩, ⟨l1, l2, l3⟩, h7, ⟨i1, i2⟩, h9, h10⟩ := h
  have k0' := kg 0 (by decide)
  have k1 := kg 1 (by decide)
  have k3 := kg 3 (by decide)
  have k6 := kg 6 (by decide)
  have k9 := kg 9 (by decide)
  have k12 := kg 12 (by decide)
  have k25 := kg 25 (by decide)
  have k26 := kg 26 (by decide)
  have k28 := kg 28 (by decide)
  have k31 := kg 31 (by decide)
  refine ⟨h1.root k0' k1 k6 k9, h2, h3, ⟨k3.trans b1, b2, b3⟩, ⟨?_, ?_, hs, k25.trans a4, k26.trans a5, hid, ht⟩, ⟨k28.trans l1, l2, l3⟩, h7, ⟨k31.trans i1, i2⟩, h9, fun q => ⟨(h10 q).1, (h10 q).2.up⟩⟩
  · show g' 12 = s' 0
    rw [k12, k0, a1]
  · show s' 0 = 0 ∨ s' 0 = 1
    rw [k0]; exact a2
theorem alive_cases {n : Nat} {E M : Nat → Nat → Int32} (h : zR n E M) : (E 12 0 = 0 ∧ M 0 12 = 0 ∧ fX5_isAlive (E 12) = some 0) ∨ (E 12 0 = 1 ∧ M 0 12 = 1 ∧ (E 12 10).toInt ≤ 4 ∧ fX5_isAlive (E 12) = some 1 ∧ fX8_ended M = some 0 ∧ RF (M 0) (E 12) ∧ OS (sh 3 E) (E 12) ∧ TB (E 12) ∧ AN (E 12)) ∨ (E 12 0 = 1 ∧ M 0 12 = 1 ∧ Rng (E 12 10) 5 8 ∧ fX5_isAlive (E 12) = some 0 ∧ fX8_ended M = some 1 ∧ RF (M 0) (E 12) ∧ OS (sh 3 E) (E 12) ∧ TB (E 12) ∧ AN (E 12)) := by
  obtain ⟨h1, h2, h3, h4, ⟨a1, a2, a3, a4, a5, a6, a7⟩, h6, h7, h8, h9, h10⟩ := h
  unfold fX5_isAlive
  rcases a2 with e | e
  · left
    exact ⟨e, a1.trans e, if_pos e⟩
  · right
    obtain ⟨f, o, t⟩ := a3.1 e
    have ne : ¬ E 12 0 = 0 := by rw [e]; decide
    have e22 : M 0 22 = E 12 10 := f.2.2.2.2.2.2.2.2.2.1
    rcases en_cases o with k | k
    · left
      exact ⟨e, a1.trans e, k, by rw [if_neg ne, e_en0 k, ob1_s, if_pos rfl], m_en0 (by rw [e22]; exact k), f, o, t⟩
    · right
      exact ⟨e, a1.trans e, k, by rw [if_neg ne, e_en1 k, ob1_s, if_neg (by decide)], m_en1 (by rw [e22]; have := k.1; omega), f, o, t⟩
theorem e_tell {b : Nat → Nat → Int32} (h0 : 0 ≤ (b 0 1).toInt) (h : b 0 1 < 80) (x : Int32) : fX3_tell b x = some (b 0 1 + 1, ups (b 0) 1 (b 0 1 + 1), upd (b 1) (b 0 1).toNatClampNeg x) := by
  have h' : (b 0 1).toInt < 80 := ilt.mp h
  unfold fX3_tell
  rw [if_neg (nn' h0), if_neg (Int32.not_le.mpr h), gd_s (vin_of h0 h'), nm_s]
theorem inc1 {x : Int32} {k : Int} (h0 : 0 ≤ x.toInt) (h : x.toInt < k) (hk : k < 2147483647) : Rng (x + 1) 0 k := by
  have e1 : (1 : Int32).toInt = 1 := rfl
  have e : (x + 1).toInt = x.toInt + 1 := by rw [ia] <;> omega
  exact ⟨by rw [e]; omega, by rw [e]; omega⟩
theorem dec1 {x : Int32} {k : Int} (h0 : 1 ≤ x.toInt) (h : x.toInt ≤ k) : Rng (x - 1) 0 k := by
  have e1 : (1 : Int32).toInt = 1 := rfl
  have h1 := x.toInt_lt
  simp at h1
  have e : (x - 1).toInt = x.toInt - 1 := by rw [is'] <;> omega
  exact ⟨by rw [e]; omega, by rw [e]; omega⟩
theorem full {x : Int32} {k : Int32} (h : x.toInt ≤ k.toInt) (c : ¬ x < k) : x = k := ieq.mpr (Int.le_antisymm h (Int.not_lt.mp (fun q => c (ilt.mpr q))))
theorem nfull {x : Int32} {k : Int32} (c : x < k) : ¬ x = k := fun e => by rw [e] at c; exact absurd (ilt.mp c) (Int.lt_irrefl _)
theorem sim_letter {n : Nat} {E M : Nat → Nat → Int32} (hn : n < 1000) (h : zR n E M) (a0 : Int32) : ∃ (r : Int32) (c1 : Nat → Int32) (c2 : Nat → Int32) (c28 : Nat → Int32) (d0 : Nat → Int32) (d2 : Nat → Int32) (d9 : Nat → Int32), fX7_letter E a0 = some (r, c1, c2, c28) ∧ fX8_letter M a0 = some (r, d0, d2, d9) ∧ zR (n + 1) (ups (ups (ups E 1 c1) 2 c2) 28 c28) (ups (ups (ups M 0 d0) 2 d2) 9 d9) := by
  have ref : ∀ r : Int32, isRef r → fX7_letter E a0 = some (r, E 1, E 2, rf1 (E 28) r) → fX8_letter M a0 = some (r, M 0, M 2, rf1 (M 9) r) → ∃ (r : Int32) (c1 : Nat → Int32) (c2 : Nat → Int32) (c28 : Nat → Int32) (d0 : Nat → Int32) (d2 : Nat → Int32) (d9 : Nat → Int32), fX7_letter E a0 = some (r, c1, c2, c28) ∧ fX8_letter M a0 = some (r, d0, d2, d9) ∧ zR (n + 1) (ups (ups (ups E 1 c1) 2 c2) 28 c28) (ups (ups (ups M 0 d0) 2 d2) 9 d9) := fun r hr e1 e2 => ⟨r, _, _, _, _, _, _, e1, e2, by simp only [ups_id]; exact zR_ref h r⟩
  obtain ⟨h1, h2, h3, ⟨l1, l2, l3⟩, ⟨a1, a2, a3, a4, a5, a6, a7⟩, h6, h7, h8, h9, h10⟩ := id h
  by_cases c0 : 0 ≤ a0
  · by_cases c1 : 255 < a0
    · exact ref (-6) r6 (by simp only [fX7_letter, fX7_letter_30, c0, c1, ups_id, ob1_s, ob2_s, ob3_s, ob4_s, nm_s, ↓reduceIte, i10, e_ref _ r1, e_ref _ r2, e_ref _ r3, e_ref _ r4, e_ref _ r6, m_ref _ r1, m_ref _ r2, m_ref _ r3, m_ref _ r4, m_ref _ r6]) (by simp only [fX8_letter, fX8_letter_27, c0, c1, ups_id, ob1_s, ob2_s, ob3_s, ob4_s, nm_s, ↓reduceIte, i10, e_ref _ r1, e_ref _ r2, e_ref _ r3, e_ref _ r4, e_ref _ r6, m_ref _ r1, m_ref _ r2, m_ref _ r3, m_ref _ r4, m_ref _ r6])
    · by_cases c2 : E 1 1 < 80
      · have hv : vp_in (E 1 1) 80 := vin_of l2.1 (ilt.mp c2)
        have e1 : fX7_letter E a0 = some (E 1 1 + 1, ups (E 1) 1 (E 1 1 + 1), upd (E 2) (E 1 1).toNatClampNeg a0, E 28) := by
          have ht : fX3_tell (sh 1 E) a0 = some (E 1 1 + 1, ups (E 1) 1 (E 1 1 + 1), upd (E 2) (E 1 1).toNatClampNeg a0) := e_tell (b := sh 1 E) l2.1 c2 a0
          simp only [fX7_letter, c0, c1, c2, ht, ups_id, ob1_s, ob2_s, ob3_s, ob4_s, nm_s, ↓reduceIte, i10, e_ref _ r1, e_ref _ r2, e_ref _ r3, e_ref _ r4, e_ref _ r6, m_ref _ r1, m_ref _ r2, m_ref _ r3, m_ref _ r4, m_ref _ r6]
        have e2 : fX8_letter M a0 = some (E 1 1 + 1, ups (M 0) 3 (E 1 1 + 1), upd (M 2) (E 1 1).toNatClampNeg a0, M 9) := by
          simp only [fX8_letter, c0, c1, l1, nfull c2, gd_s hv, ups_id, ob1_s, ob2_s, ob3_s, ob4_s, nm_s, ↓reduceIte, i10, e_ref _ r1, e_ref _ r2, e_ref _ r3, e_ref _ r4, e_ref _ r6, m_ref _ r1, m_ref _ r2, m_ref _ r3, m_ref _ r4, m_ref _ r6]
        refine ⟨_, _, _, _, _, _, _, e1, e2, ?_⟩
        refine ⟨h1, h2, h3, ⟨rfl, inc1 l2.1 (ilt.mp c2) (by decide), ?_⟩, ⟨a1, a2, a3, a4, a5, a6, a7.up⟩, h6, h7, h8, h9, fun q => ⟨(h10 q).1, (h10 q).2.up⟩⟩
        show upd (M 2) _ a0 = upd (E 2) _ a0
        rw [l3]
      · have c3 : M 0 3 = 80 := by rw [l1]; exact full l2.2 c2
        exact ref (-6) r6 (by simp only [fX7_letter, fX7_letter_30, c0, c1, c2, ups_id, ob1_s, ob2_s, ob3_s, ob4_s, nm_s, ↓reduceIte, i10, e_ref _ r1, e_ref _ r2, e_ref _ r3, e_ref _ r4, e_ref _ r6, m_ref _ r1, m_ref _ r2, m_ref _ r3, m_ref _ r4, m_ref _ r6]) (by simp only [fX8_letter, fX8_letter_27, c0, c1, c3, ups_id, ob1_s, ob2_s, ob3_s, ob4_s, nm_s, ↓reduceIte, i10, e_ref _ r1, e_ref _ r2, e_ref _ r3, e_ref _ r4, e_ref _ r6, m_ref _ r1, m_ref _ r2, m_ref _ r3, m_ref _ r4, m_ref _ r6])
  · exact ref (-4) r4 (by simp only [fX7_letter, c0, ups_id, ob1_s, ob2_s, ob3_s, ob4_s, nm_s, ↓reduceIte, i10, e_ref _ r1, e_ref _ r2, e_ref _ r3, e_ref _ r4, e_ref _ r6, m_ref _ r1, m_ref _ r2, m_ref _ r3, m_ref _ r4, m_ref _ r6]) (by simp only [fX8_letter, c0, ups_id, ob1_s, ob2_s, ob3_s, ob4_s, nm_s, ↓reduceIte, i10, e_ref _ r1, e_ref _ r2, e_ref _ r3, e_ref _ r4, e_ref _ r6, m_ref _ r1, m_ref _ r2, m_ref _ r3, m_ref _ r4, m_ref _ r6])
theorem sim_sail {n : Nat} {E M : Nat → Nat → Int32} (hn : n < 1000) (h : zR n E M) (a0 : Int32) : ∃ (r : Int32) (c12 : Nat → Int32) (c28 : Nat → Int32) (d0 : Nat → Int32) (d9 : Nat → Int32), fX7_sail E a0 = some (r, c12, c28) ∧ fX8_sail M a0 = some (r, d0, d9) ∧ zR (n + 1) (ups (ups E 12 c12) 28 c28) (ups (ups M 0 d0) 9 d9) := by
  have ref : ∀ r : Int32, isRef r → fX7_sail E a0 = some (r, E 12, rf1 (E 28) r) → fX8_sail M a0 = some (r, M 0, rf1 (M 9) r) → ∃ (r : Int32) (c12 : Nat → Int32) (c28 : Nat → Int32) (d0 : Nat → Int32) (d9 : Nat → Int32), fX7_sail E a0 = some (r, c12, c28) ∧ fX8_sail M a0 = some (r, d0, d9) ∧ zR (n + 1) (ups (ups E 12 c12) 28 c28) (ups (ups M 0 d0) 9 d9) := fun r hr e1 e2 => ⟨r, _, _, _, _, e1, e2, by simp only [ups_id]; exact zR_ref h r⟩
  by_cases c0 : 0 ≤ a0
  · by_cases c1 : a0 ≤ 3
    · rcases alive_cases h with ⟨x1, x2, x3⟩ | ⟨x1, x2, x3, x4, x5, f, o, t⟩ | ⟨x1, x2, x3, x4, x5, f, o, t⟩
      · exact ref (-3) r3 (by simp only [fX7_sail, c0, c1, x3, ups_id, ob1_s, ob2_s, ob3_s, ob4_s, nm_s, ↓reduceIte, i10, e_ref _ r1, e_ref _ r2, e_ref _ r3, e_ref _ r4, e_ref _ r6, m_ref _ r1, m_ref _ r2, m_ref _ r3, m_ref _ r4, m_ref _ r6]) (by simp only [fX8_sail, fX8_sail_37, c0, c1, x2, ups_id, ob1_s, ob2_s, ob3_s, ob4_s, nm_s, ↓reduceIte, i10, e_ref _ r1, e_ref _ r2, e_ref _ r3, e_ref _ r4, e_ref _ r6, m_ref _ r1, m_ref _ r2, m_ref _ r3, m_ref _ r4, m_ref _ r6])
      · have e1 : fX7_sail E a0 = some (E 12 3, ups (E 12) 3 a0, E 28) := by simp only [fX7_sail, c0, c1, x4, ups_id, ob1_s, ob2_s, ob3_s, ob4_s, nm_s, ↓reduceIte, i10, e_ref _ r1, e_ref _ r2, e_ref _ r3, e_ref _ r4, e_ref _ r6, m_ref _ r1, m_ref _ r2, m_ref _ r3, m_ref _ r4, m_ref _ r6]
        have e2 : fX8_sail M a0 = some (E 12 3, ups (M 0) 15 a0, M 9) := by simp only [fX8_sail, c0, c1, x2, x5, f.2.2.1, ups_id, ob1_s, ob2_s, ob3_s, ob4_s, nm_s, ↓reduceIte, i10, e_ref _ r1, e_ref _ r2, e_ref _ r3, e_ref _ r4, e_ref _ r6, m_ref _ r1, m_ref _ r2, m_ref _ r3, m_ref _ r4, m_ref _ r6]
        refine ⟨_, _, _, _, _, e1, e2, ?_⟩
        rw [ups_idn (by decide), ups_idn (by decide)]
        obtain ⟨h1, h2, h3, h4, ⟨a1, a2, a3, a4, a5, a6, a7⟩, h6⟩ := id h
        refine zR_ship h rfl a6 a7.up ⟨fun _ => ⟨?_, ?_, t⟩, fun q => absurd (x1.symm.trans q) (by decide)⟩ ?_
        · obtain ⟨f1, f2, f3, f4, f5, f6, f7, f8, f9, f10, f11⟩ := f
          unfold RF; simp only [ups_at]; simp
          exact ⟨f1, f2, f4, f5, f6, f7, f8, f9, f10, f11⟩
        · obtain ⟨o2, o3, o4, o5, o6, o7, o8, o10, o11, o12, o1, oc⟩ := o
          unfold OS; simp only [ups_at]; simp
          exact ⟨o2, ⟨ile.mp c0, ile.mp c1⟩, o4, o5, o6, o7, o8, o10, o11, o12, o1, oc⟩
        · intro k hk; exact ups_n _ _ _ _ (by omega)
      · exact ref (-3) r3 (by simp only [fX7_sail, c0, c1, x4, ups_id, ob1_s, ob2_s, ob3_s, ob4_s, nm_s, ↓reduceIte, i10, e_ref _ r1, e_ref _ r2, e_ref _ r3, e_ref _ r4, e_ref _ r6, m_ref _ r1, m_ref _ r2, m_ref _ r3, m_ref _ r4, m_ref _ r6]) (by simp only [fX8_sail, fX8_sail_37, c0, c1, x2, x5, ups_id, ob1_s, ob2_s, ob3_s, ob4_s, nm_s, ↓reduceIte, i10, e_ref _ r1, e_ref _ r2, e_ref _ r3, e_ref _ r4, e_ref _ r6, m_ref _ r1, m_ref _ r2, m_ref _ r3, m_ref _ r4, m_ref _ r6])
    · exact ref (-6) r6 (by simp only [fX7_sail, c0, c1, ups_id, ob1_s, ob2_s, ob3_s, ob4_s, nm_s, ↓reduceIte, i10, e_ref _ r1, e_ref _ r2, e_ref _ r3, e_ref _ r4, e_ref _ r6, m_ref _ r1, m_ref _ r2, m_ref _ r3, m_ref _ r4, m_ref _ r6]) (by simp only [fX8_sail, c0, c1, ups_id, ob1_s, ob2_s, ob3_s, ob4_s, nm_s, ↓reduceIte, i10, e_ref _ r1, e_ref _ r2, e_ref _ r3, e_ref _ r4, e_ref _ r6, m_ref _ r1, m_ref _ r2, m_ref _ r3, m_ref _ r4, m_ref _ r6])
  · exact ref (-4) r4 (by simp only [fX7_sail, c0, ups_id, ob1_s, ob2_s, ob3_s, ob4_s, nm_s, ↓reduceIte, i10, e_ref _ r1, e_ref _ r2, e_ref _ r3, e_ref _ r4, e_ref _ r6, m_ref _ r1, m_ref _ r2, m_ref _ r3, m_ref _ r4, m_ref _ r6]) (by simp only [fX8_sail, c0, ups_id, ob1_s, ob2_s, ob3_s, ob4_s, nm_s, ↓reduceIte, i10, e_ref _ r1, e_ref _ r2, e_ref _ r3, e_ref _ r4, e_ref _ r6, m_ref _ r1, m_ref _ r2, m_ref _ r3, m_ref _ r4, m_ref _ r6])
theorem may_anchor {n : Nat} {E M : Nat → Nat → Int32} (h : zR n E M) : (fX5_mayAnchor (E 12) = some 0 ∧ fX8_mayAnchor M = some 0) ∨ (fX5_mayAnchor (E 12) = some 1 ∧ fX8_mayAnchor M = some 1 ∧ E 12 0 = 1 ∧ (E 12 10).toInt ≤ 4 ∧ RF (M 0) (E 12) ∧ OS (sh 3 E) (E 12) ∧ TB (E 12) ∧ 1 ≤ (E 12 5).toInt) := by
  rcases alive_cases h with ⟨x1, x2, x3⟩ | ⟨x1, x2, x3, x4, x5, f, o, t⟩ | ⟨x1, x2, x3, x4, x5, f, o, t⟩
  · left; exact ⟨by simp only [fX5_mayAnchor, x3, ups_id, ob1_s, ob2_s, ob3_s, ob4_s, nm_s, ↓reduceIte, i10, e_ref _ r1, e_ref _ r2, e_ref _ r3, e_ref _ r4, e_ref _ r6, m_ref _ r1, m_ref _ r2, m_ref _ r3, m_ref _ r4, m_ref _ r6], by simp only [fX8_mayAnchor, x2, ups_id, ob1_s, ob2_s, ob3_s, ob4_s, nm_s, ↓reduceIte, i10, e_ref _ r1, e_ref _ r2, e_ref _ r3, e_ref _ r4, e_ref _ r6, m_ref _ r1, m_ref _ r2, m_ref _ r3, m_ref _ r4, m_ref _ r6]⟩
  · have e22 := f.2.2.2.2.2.2.2.2.2.1
    have e17 := f.2.2.2.2.1
    by_cases c : E 12 10 = 4
    · left; exact ⟨by simp only [fX5_mayAnchor, x4, c, ups_id, ob1_s, ob2_s, ob3_s, ob4_s, nm_s, ↓reduceIte, i10, e_ref _ r1, e_ref _ r2, e_ref _ r3, e_ref _ r4, e_ref _ r6, m_ref _ r1, m_ref _ r2, m_ref _ r3, m_ref _ r4, m_ref _ r6], by simp only [fX8_mayAnchor, x2, x5, e22, c, ups_id, ob1_s, ob2_s, ob3_s, ob4_s, nm_s, ↓reduceIte, i10, e_ref _ r1, e_ref _ r2, e_ref _ r3, e_ref _ r4, e_ref _ r6, m_ref _ r1, m_ref _ r2, m_ref _ r3, m_ref _ r4, m_ref _ r6]⟩
    · by_cases c2 : E 12 5 ≤ 0
      · left; exact ⟨by simp only [fX5_mayAnchor, x4, c, c2, ups_id, ob1_s, ob2_s, ob3_s, ob4_s, nm_s, ↓reduceIte, i10, e_ref _ r1, e_ref _ r2, e_ref _ r3, e_ref _ r4, e_ref _ r6, m_ref _ r1, m_ref _ r2, m_ref _ r3, m_ref _ r4, m_ref _ r6], by simp only [fX8_mayAnchor, x2, x5, e22, e17, c, c2, ups_id, ob1_s, ob2_s, ob3_s, ob4_s, nm_s, ↓reduceIte, i10, e_ref _ r1, e_ref _ r2, e_ref _ r3, e_ref _ r4, e_ref _ r6, m_ref _ r1, m_ref _ r2, m_ref _ r3, m_ref _ r4, m_ref _ r6]⟩
      · right; exact ⟨by simp only [fX5_mayAnchor, x4, c, c2, ups_id, ob1_s, ob2_s, ob3_s, ob4_s, nm_s, ↓reduceIte, i10, e_ref _ r1, e_ref _ r2, e_ref _ r3, e_ref _ r4, e_ref _ r6, m_ref _ r1, m_ref _ r2, m_ref _ r3, m_ref _ r4, m_ref _ r6], by simp only [fX8_mayAnchor, x2, x5, e22, e17, c, c2, ups_id, ob1_s, ob2_s, ob3_s, ob4_s, nm_s, ↓reduceIte, i10, e_ref _ r1, e_ref _ r2, e_ref _ r3, e_ref _ r4, e_ref _ r6, m_ref _ r1, m_ref _ r2, m_ref _ r3, m_ref _ r4, m_ref _ r6], x1, x3, f, o, t.1, by have := Int.not_le.mp (mt (fun (q : (E 12 5).toInt ≤ (0 : Int32).toInt) => ile.mpr q) c2); have e0 : (0 : Int32).toInt = 0 := rfl; omega⟩
  · left; exact ⟨by simp only [fX5_mayAnchor, x4, ups_id, ob1_s, ob2_s, ob3_s, ob4_s, nm_s, ↓reduceIte, i10, e_ref _ r1, e_ref _ r2, e_ref _ r3, e_ref _ r4, e_ref _ r6, m_ref _ r1, m_ref _ r2, m_ref _ r3, m_ref _ r4, m_ref _ r6], by simp only [fX8_mayAnchor, x2, x5, ups_id, ob1_s, ob2_s, ob3_s, ob4_s, nm_s, ↓reduceIte, i10, e_ref _ r1, e_ref _ r2, e_ref _ r3, e_ref _ r4, e_ref _ r6, m_ref _ r1, m_ref _ r2, m_ref _ r3, m_ref _ r4, m_ref _ r6]⟩
theorem sim_anchor {n : Nat} {E M : Nat → Nat → Int32} (hn : n < 1000) (h : zR n E M) : ∃ (r : Int32) (c12 : Nat → Int32) (c28 : Nat → Int32) (d0 : Nat → Int32) (d9 : Nat → Int32), fX7_anchor E = some (r, c12, c28) ∧ fX8_anchor M = some (r, d0, d9) ∧ zR (n + 1) (ups (ups E 12 c12) 28 c28) (ups (ups M 0 d0) 9 d9) := by
  have ref : ∀ r : Int32, isRef r → fX7_anchor E = some (r, E 12, rf1 (E 28) r) → fX8_anchor M = some (r, M 0, rf1 (M 9) r) → ∃ (r : Int32) (c12 : Nat → Int32) (c28 : Nat → Int32) (d0 : Nat → Int32) (d9 : Nat → Int32), fX7_anchor E = some (r, c12, c28) ∧ fX8_anchor M = some (r, d0, d9) ∧ zR (n + 1) (ups (ups E 12 c12) 28 c28) (ups (ups M 0 d0) 9 d9) := fun r hr e1 e2 => ⟨r, _, _, _, _, e1, e2, by simp only [ups_id]; exact zR_ref h r⟩
  rcases may_anchor h with ⟨x3, x5⟩ | ⟨x3, x5, x1, x4, f, o, t, ha⟩
  · exact ref (-3) r3 (by simp only [fX7_anchor, x3, ups_id, ob1_s, ob2_s, ob3_s, ob4_s, nm_s, ↓reduceIte, i10, e_ref _ r1, e_ref _ r2, e_ref _ r3, e_ref _ r4, e_ref _ r6, m_ref _ r1, m_ref _ r2, m_ref _ r3, m_ref _ r4, m_ref _ r6]) (by simp only [fX8_anchor, x5, ups_id, ob1_s, ob2_s, ob3_s, ob4_s, nm_s, ↓reduceIte, i10, e_ref _ r1, e_ref _ r2, e_ref _ r3, e_ref _ r4, e_ref _ r6, m_ref _ r1, m_ref _ r2, m_ref _ r3, m_ref _ r4, m_ref _ r6])
  · have e1 : fX7_anchor E = some (E 12 5, ups (E 12) 10 4, E 28) := by simp only [fX7_anchor, x3, ups_id, ob1_s, ob2_s, ob3_s, ob4_s, nm_s, ↓reduceIte, i10, e_ref _ r1, e_ref _ r2, e_ref _ r3, e_ref _ r4, e_ref _ r6, m_ref _ r1, m_ref _ r2, m_ref _ r3, m_ref _ r4, m_ref _ r6]
    have e2 : fX8_anchor M = some (E 12 5, ups (M 0) 22 4, M 9) := by simp only [fX8_anchor, x5, f.2.2.2.2.1, ups_id, ob1_s, ob2_s, ob3_s, ob4_s, nm_s, ↓reduceIte, i10, e_ref _ r1, e_ref _ r2, e_ref _ r3, e_ref _ r4, e_ref _ r6, m_ref _ r1, m_ref _ r2, m_ref _ r3, m_ref _ r4, m_ref _ r6]
    refine ⟨_, _, _, _, _, e1, e2, ?_⟩
    rw [ups_idn (by decide), ups_idn (by decide)]
    obtain ⟨h1, h2, h3, h4, ⟨a1, a2, a3, a4, a5, a6, a7⟩, h6⟩ := id h
    refine zR_ship h rfl a6 a7.up ⟨fun _ => ⟨rf_kind f (by decide), os_kind o x4 ⟨by decide, by decide⟩, fun _ => t x4, fun _ => ha⟩, fun q => absurd (x1.symm.trans q) (by decide)⟩ ?_
    intro k hk; exact ups_n _ _ _ _ (by omega)
theorem sim_cut {n : Nat} {E M : Nat → Nat → Int32} (hn : n < 1000) (h : zR n E M) : ∃ (r : Int32) (c12 : Nat → Int32) (c28 : Nat → Int32) (d0 : Nat → Int32) (d9 : Nat → Int32), fX7_cut E = some (r, c12, c28) ∧ fX8_cut M = some (r, d0, d9) ∧ zR (n + 1) (ups (ups E 12 c12) 28 c28) (ups (ups M 0 d0) 9 d9) := by
  have ref : ∀ r : Int32, isRef r → fX7_cut E = some (r, E 12, rf1 (E 28) r) → fX8_cut M = some (r, M 0, rf1 (M 9) r) → ∃ (r : Int32) (c12 : Nat → Int32) (c28 : Nat → Int32) (d0 : Nat → Int32) (d9 : Nat → Int32), fX7_cut E = some (r, c12, c28) ∧ fX8_cut M = some (r, d0, d9) ∧ zR (n + 1) (ups (ups E 12 c12) 28 c28) (ups (ups M 0 d0) 9 d9) := fun r hr e1 e2 => ⟨r, _, _, _, _, e1, e2, by simp only [ups_id]; exact zR_ref h r⟩
  obtain ⟨h1, h2, h3, h4, ⟨a1, a2, a3, a4, a5, a6, a7⟩, h6⟩ := id h
  rcases a2 with x0 | x1
  · exact ref (-3) r3 (by simp only [fX7_cut, fX7_cut_21, x0, ups_id, ob1_s, ob2_s, ob3_s, ob4_s, nm_s, ↓reduceIte, i10, e_ref _ r1, e_ref _ r2, e_ref _ r3, e_ref _ r4, e_ref _ r6, m_ref _ r1, m_ref _ r2, m_ref _ r3, m_ref _ r4, m_ref _ r6]) (by simp only [fX8_cut, fX8_cut_15, a1, x0, ups_id, ob1_s, ob2_s, ob3_s, ob4_s, nm_s, ↓reduceIte, i10, e_ref _ r1, e_ref _ r2, e_ref _ r3, e_ref _ r4, e_ref _ r6, m_ref _ r1, m_ref _ r2, m_ref _ r3, m_ref _ r4, m_ref _ r6])
  · obtain ⟨f, o, t⟩ := a3.1 x1
    have e22 := f.2.2.2.2.2.2.2.2.2.1
    by_cases c : E 12 10 = 4
    · have e1 : fX7_cut E = some (E 12 5 - 1, ups (ups (E 12) 5 (E 12 5 - 1)) 10 1, E 28) := by simp only [fX7_cut, x1, c, ups_id, ob1_s, ob2_s, ob3_s, ob4_s, nm_s, ↓reduceIte, i10, e_ref _ r1, e_ref _ r2, e_ref _ r3, e_ref _ r4, e_ref _ r6, m_ref _ r1, m_ref _ r2, m_ref _ r3, m_ref _ r4, m_ref _ r6]
      have e2 : fX8_cut M = some (E 12 5 - 1, ups (ups (M 0) 22 1) 17 (E 12 5 - 1), M 9) := by simp only [fX8_cut, a1, x1, e22, c, f.2.2.2.2.1, ups_id, ob1_s, ob2_s, ob3_s, ob4_s, nm_s, ↓reduceIte, i10, e_ref _ r1, e_ref _ r2, e_ref _ r3, e_ref _ r4, e_ref _ r6, m_ref _ r1, m_ref _ r2, m_ref _ r3, m_ref _ r4, m_ref _ r6]
      refine ⟨_, _, _, _, _, e1, e2, ?_⟩
      rw [ups_idn (by decide), ups_idn (by decide)]
      have hk : (E 12 10).toInt ≤ 4 := by rw [c]; decide
      have han := t.2 (by rw [c]; rfl)
      refine zR_ship h rfl a6 a7.up ⟨fun _ => ⟨?_, ?_, fun _ => t.1 hk, fun q => by rw [ups_s] at q; exact absurd q (by decide)⟩, fun q => absurd (x1.symm.trans q) (by decide)⟩ ?_
      · obtain ⟨f1, f2, f3, f4, f5, f6, f7, f8, f9, f10, f11⟩ := f
        unfold RF; simp only [ups_at]; simp
        exact ⟨f1, f2, f3, f4, f6, f7, f8, f9⟩
      · refine os_kind (s := ups (E 12) 5 (E 12 5 - 1)) ?_ hk ⟨by decide, by decide⟩
        obtain ⟨o2, o3, o4, o5, o6, o7, o8, o10, o11, o12, o1, oc⟩ := o
        unfold OS; simp only [ups_at]; simp
        exact ⟨o2, o3, o4, dec1 han o5.2, o6, o7, o8, o10, o11, o12, o1, oc⟩
      · intro k hk; rw [ups_n _ _ _ _ (by omega), ups_n _ _ _ _ (by omega)]
    · exact ref (-3) r3 (by simp only [fX7_cut, fX7_cut_21, x1, c, ups_id, ob1_s, ob2_s, ob3_s, ob4_s, nm_s, ↓reduceIte, i10, e_ref _ r1, e_ref _ r2, e_ref _ r3, e_ref _ r4, e_ref _ r6, m_ref _ r1, m_ref _ r2, m_ref _ r3, m_ref _ r4, m_ref _ r6]) (by simp only [fX8_cut, fX8_cut_15, a1, x1, e22, c, ups_id, ob1_s, ob2_s, ob3_s, ob4_s, nm_s, ↓reduceIte, i10, e_ref _ r1, e_ref _ r2, e_ref _ r3, e_ref _ r4, e_ref _ r6, m_ref _ r1, m_ref _ r2, m_ref _ r3, m_ref _ r4, m_ref _ r6])
theorem sim_axe {n : Nat} {E M : Nat → Nat → Int32} (hn : n < 1000) (h : zR n E M) : ∃ (r : Int32) (c12 : Nat → Int32) (c28 : Nat → Int32) (d0 : Nat → Int32) (d9 : Nat → Int32), fX7_axe E = some (r, c12, c28) ∧ fX8_axe M = some (r, d0, d9) ∧ zR (n + 1) (ups (ups E 12 c12) 28 c28) (ups (ups M 0 d0) 9 d9) := by
  have ref : ∀ r : Int32, isRef r → fX7_axe E = some (r, E 12, rf1 (E 28) r) → fX8_axe M = some (r, M 0, rf1 (M 9) r) → ∃ (r : Int32) (c12 : Nat → Int32) (c28 : Nat → Int32) (d0 : Nat → Int32) (d9 : Nat → Int32), fX7_axe E = some (r, c12, c28) ∧ fX8_axe M = some (r, d0, d9) ∧ zR (n + 1) (ups (ups E 12 c12) 28 c28) (ups (ups M 0 d0) 9 d9) := fun r hr e1 e2 => ⟨r, _, _, _, _, e1, e2, by simp only [ups_id]; exact zR_ref h r⟩
  rcases alive_cases h with ⟨x1, x2, x3⟩ | ⟨x1, x2, x3, x4, x5, f, o, t⟩ | ⟨x1, x2, x3, x4, x5, f, o, t⟩
  · exact ref (-3) r3 (by simp only [fX7_axe, fX7_axe_21, x3, ups_id, ob1_s, ob2_s, ob3_s, ob4_s, nm_s, ↓reduceIte, i10, e_ref _ r1, e_ref _ r2, e_ref _ r3, e_ref _ r4, e_ref _ r6, m_ref _ r1, m_ref _ r2, m_ref _ r3, m_ref _ r4, m_ref _ r6]) (by simp only [fX8_axe, fX8_axe_21, x2, ups_id, ob1_s, ob2_s, ob3_s, ob4_s, nm_s, ↓reduceIte, i10, e_ref _ r1, e_ref _ r2, e_ref _ r3, e_ref _ r4, e_ref _ r6, m_ref _ r1, m_ref _ r2, m_ref _ r3, m_ref _ r4, m_ref _ r6])
  · have e16 := f.2.2.2.1
    by_cases c : 1 ≤ E 12 4
    · have c' : 1 ≤ (E 12 4).toInt := ile.mp c
      have n0 : ¬ E 12 4 = 0 := fun q => by rw [q] at c'; exact absurd c' (by decide)
      have e1 : fX7_axe E = some (E 12 4 - 1, ups (E 12) 4 (E 12 4 - 1), E 28) := by simp only [fX7_axe, x4, c, ups_id, ob1_s, ob2_s, ob3_s, ob4_s, nm_s, ↓reduceIte, i10, e_ref _ r1, e_ref _ r2, e_ref _ r3, e_ref _ r4, e_ref _ r6, m_ref _ r1, m_ref _ r2, m_ref _ r3, m_ref _ r4, m_ref _ r6]
      have e2 : fX8_axe M = some (E 12 4 - 1, ups (M 0) 16 (E 12 4 - 1), M 9) := by simp only [fX8_axe, x2, x5, e16, n0, ups_id, ob1_s, ob2_s, ob3_s, ob4_s, nm_s, ↓reduceIte, i10, e_ref _ r1, e_ref _ r2, e_ref _ r3, e_ref _ r4, e_ref _ r6, m_ref _ r1, m_ref _ r2, m_ref _ r3, m_ref _ r4, m_ref _ r6]
      refine ⟨_, _, _, _, _, e1, e2, ?_⟩
      rw [ups_idn (by decide), ups_idn (by decide)]
      obtain ⟨h1, h2, h3, h4, ⟨a1, a2, a3, a4, a5, a6, a7⟩, h6⟩ := id h
      refine zR_ship h rfl a6 a7.up ⟨fun _ => ⟨?_, ?_, t⟩, fun q => absurd (x1.symm.trans q) (by decide)⟩ ?_
      · obtain ⟨f1, f2, f3, f4, f5, f6, f7, f8, f9, f10, f11⟩ := f
        unfold RF; simp only [ups_at]; simp
        exact ⟨f1, f2, f3, f5, f6, f7, f8, f9, f10, f11⟩
      · obtain ⟨o2, o3, o4, o5, o6, o7, o8, o10, o11, o12, o1, oc⟩ := o
        unfold OS; simp only [ups_at]; simp
        exact ⟨o2, o3, dec1 c' o4.2, o5, o6, o7, o8, o10, o11, o12, o1, oc⟩
      · intro k hk; exact ups_n _ _ _ _ (by omega)
    · have n0 : E 12 4 = 0 := ieq.mpr (by have := o.2.2.1.1; have := Int.not_le.mp (mt (fun (q : (1 : Int32).toInt ≤ (E 12 4).toInt) => ile.mpr q) c); have e1 : (1 : Int32).toInt = 1 := rfl; show (E 12 4).toInt = 0; omega)
      exact ref (-3) r3 (by simp only [fX7_axe, fX7_axe_21, x4, c, ups_id, ob1_s, ob2_s, ob3_s, ob4_s, nm_s, ↓reduceIte, i10, e_ref _ r1, e_ref _ r2, e_ref _ r3, e_ref _ r4, e_ref _ r6, m_ref _ r1, m_ref _ r2, m_ref _ r3, m_ref _ r4, m_ref _ r6]) (by simp only [fX8_axe, fX8_axe_21, x2, x5, e16, n0, ups_id, ob1_s, ob2_s, ob3_s, ob4_s, nm_s, ↓reduceIte, i10, e_ref _ r1, e_ref _ r2, e_ref _ r3, e_ref _ r4, e_ref _ r6, m_ref _ r1, m_ref _ r2, m_ref _ r3, m_ref _ r4, m_ref _ r6])
  · exact ref (-3) r3 (by simp only [fX7_axe, fX7_axe_21, x4, ups_id, ob1_s, ob2_s, ob3_s, ob4_s, nm_s, ↓reduceIte, i10, e_ref _ r1, e_ref _ r2, e_ref _ r3, e_ref _ r4, e_ref _ r6, m_ref _ r1, m_ref _ r2, m_ref _ r3, m_ref _ r4, m_ref _ r6]) (by simp only [fX8_axe, fX8_axe_21, x2, x5, ups_id, ob1_s, ob2_s, ob3_s, ob4_s, nm_s, ↓reduceIte, i10, e_ref _ r1, e_ref _ r2, e_ref _ r3, e_ref _ r4, e_ref _ r6, m_ref _ r1, m_ref _ r2, m_ref _ r3, m_ref _ r4, m_ref _ r6])
theorem zR_guns {n : Nat} {E M : Nat → Nat → Int32} {x : Int32} {d3 : Nat → Int32} (h : zR n E M) (hx : Rng x 0 9) (h5 : d3 5 = x) (hd : ∀ k, k ≠ 5 → d3 k = M 3 k) : zR (n + 1) (ups E 3 (ups (E 3) 8 x)) (ups M 3 d3) := by
  obtain ⟨⟨q0, q1, q2, q3, q4, q5, q6, q7, q8, q9, q10, q11, q12, q13, q14⟩, ⟨w0, w1, w2, w3, w4, w5, w6, w7, w8, w9⟩, h3, h4, ⟨a1, a2, a3, a4, a5, a6, a7⟩, h6, h7, h8, h9, h10⟩ := h
  have k := hd
  refine ⟨⟨q0, q1, q2, q3, q4, q5, q6, q7, q8, (k 0 (by decide)).trans q9, (k 1 (by decide)).trans q10, (k 2 (by decide)).trans q11, (k 3 (by decide)).trans q12, (k 4 (by decide)).trans q13, (k 6 (by decide)).trans q14⟩, ⟨w0, w1, w2, w3, w4, w5, w6, hx, w8, w9⟩, h5, h4, ⟨a1, a2, a3, a4, a5, a6, a7.up⟩, h6, h7, h8, h9, fun q => ⟨(h10 q).1, (h10 q).2.up⟩⟩
theorem sim_over {n : Nat} {E M : Nat → Nat → Int32} (hn : n < 1000) (h : zR n E M) : ∃ (r : Int32) (c3 : Nat → Int32) (c28 : Nat → Int32) (d3 : Nat → Int32) (d9 : Nat → Int32), fX7_over E = some (r, c3, c28) ∧ fX8_over M = some (r, d3, d9) ∧ zR (n + 1) (ups (ups E 3 c3) 28 c28) (ups (ups M 3 d3) 9 d9) := by
  have ref : ∀ r : Int32, isRef r → fX7_over E = some (r, E 3, rf1 (E 28) r) → fX8_over M = some (r, M 3, rf1 (M 9) r) → ∃ (r : Int32) (c3 : Nat → Int32) (c28 : Nat → Int32) (d3 : Nat → Int32) (d9 : Nat → Int32), fX7_over E = some (r, c3, c28) ∧ fX8_over M = some (r, d3, d9) ∧ zR (n + 1) (ups (ups E 3 c3) 28 c28) (ups (ups M 3 d3) 9 d9) := fun r hr e1 e2 => ⟨r, _, _, _, _, e1, e2, by simp only [ups_id]; exact zR_ref h r⟩
  have h3 := h.2.2.1
  have hg : Rng (E 3 8) 0 9 := h.2.1.2.2.2.2.2.2.2.1
  have q5 : M 3 ((5 : Int32)).toNatClampNeg = E 3 8 := h3
  rcases alive_cases h with ⟨x1, x2, x3⟩ | ⟨x1, x2, x3, x4, x5, f, o, t⟩ | ⟨x1, x2, x3, x4, x5, f, o, t⟩
  · exact ref (-3) r3 (by simp only [fX7_over, fX7_over_21, x3, ups_id, ob1_s, ob2_s, ob3_s, ob4_s, nm_s, ↓reduceIte, i10, e_ref _ r1, e_ref _ r2, e_ref _ r3, e_ref _ r4, e_ref _ r6, m_ref _ r1, m_ref _ r2, m_ref _ r3, m_ref _ r4, m_ref _ r6]) (by simp only [fX8_over, fX8_over_23, x2, ups_id, ob1_s, ob2_s, ob3_s, ob4_s, nm_s, ↓reduceIte, i10, e_ref _ r1, e_ref _ r2, e_ref _ r3, e_ref _ r4, e_ref _ r6, m_ref _ r1, m_ref _ r2, m_ref _ r3, m_ref _ r4, m_ref _ r6])
  · by_cases c : 1 ≤ E 3 8
    · have c' : 1 ≤ (E 3 8).toInt := ile.mp c
      have n0 : ¬ E 3 8 = 0 := fun q => by rw [q] at c'; exact absurd c' (by decide)
      have e1 : fX7_over E = some (E 3 8 - 1, ups (E 3) 8 (E 3 8 - 1), E 28) := by simp only [fX7_over, x4, c, ups_id, ob1_s, ob2_s, ob3_s, ob4_s, nm_s, ↓reduceIte, i10, e_ref _ r1, e_ref _ r2, e_ref _ r3, e_ref _ r4, e_ref _ r6, m_ref _ r1, m_ref _ r2, m_ref _ r3, m_ref _ r4, m_ref _ r6]
      have e2 : fX8_over M = some (E 3 8 - 1, upd (M 3) 5 (E 3 8 - 1), M 9) := by simp only [fX8_over, x2, x5, q5, n0, ups_id, ob1_s, ob2_s, ob3_s, ob4_s, nm_s, ↓reduceIte, i10, e_ref _ r1, e_ref _ r2, e_ref _ r3, e_ref _ r4, e_ref _ r6, m_ref _ r1, m_ref _ r2, m_ref _ r3, m_ref _ r4, m_ref _ r6]; rfl
      refine ⟨_, _, _, _, _, e1, e2, ?_⟩
      rw [ups_idn (by decide), ups_idn (by decide)]
      exact zR_guns h (dec1 c' hg.2) pk_us (fun k hk => pk_un hk)
    · have n0 : E 3 8 = 0 := ieq.mpr (by have := hg.1; have := Int.not_le.mp (mt (fun (q : (1 : Int32).toInt ≤ (E 3 8).toInt) => ile.mpr q) c); have e1 : (1 : Int32).toInt = 1 := rfl; show (E 3 8).toInt = 0; omega)
      exact ref (-3) r3 (by simp only [fX7_over, fX7_over_21, x4, c, ups_id, ob1_s, ob2_s, ob3_s, ob4_s, nm_s, ↓reduceIte, i10, e_ref _ r1, e_ref _ r2, e_ref _ r3, e_ref _ r4, e_ref _ r6, m_ref _ r1, m_ref _ r2, m_ref _ r3, m_ref _ r4, m_ref _ r6]) (by simp only [fX8_over, fX8_over_23, x2, x5, q5, n0, ups_id, ob1_s, ob2_s, ob3_s, ob4_s, nm_s, ↓reduceIte, i10, e_ref _ r1, e_ref _ r2, e_ref _ r3, e_ref _ r4, e_ref _ r6, m_ref _ r1, m_ref _ r2, m_ref _ r3, m_ref _ r4, m_ref _ r6])
  · exact ref (-3) r3 (by simp only [fX7_over, fX7_over_21, x4, ups_id, ob1_s, ob2_s, ob3_s, ob4_s, nm_s, ↓reduceIte, i10, e_ref _ r1, e_ref _ r2, e_ref _ r3, e_ref _ r4, e_ref _ r6, m_ref _ r1, m_ref _ r2, m_ref _ r3, m_ref _ r4, m_ref _ r6]) (by simp only [fX8_over, fX8_over_23, x2, x5, ups_id, ob1_s, ob2_s, ob3_s, ob4_s, nm_s, ↓reduceIte, i10, e_ref _ r1, e_ref _ r2, e_ref _ r3, e_ref _ r4, e_ref _ r6, m_ref _ r1, m_ref _ r2, m_ref _ r3, m_ref _ r4, m_ref _ r6])
