/-! head, wear, haul, run -/
theorem ups_comm {α : Type} {f : Nat → α} {j k : Nat} {x y : α} (h : j ≠ k) : ups (ups f j x) k y = ups (ups f k y) j x := by
  funext i
  by_cases h1 : i = k
  · subst h1; rw [ups_s, ups_n _ _ _ _ (Ne.symm h), ups_s]
  · by_cases h2 : i = j
    · subst h2; rw [ups_n _ _ _ _ h1, ups_s, ups_s]
    · rw [ups_n _ _ _ _ h1, ups_n _ _ _ _ h2, ups_n _ _ _ _ h2, ups_n _ _ _ _ h1]
theorem zR_SS {n : Nat} {E M : Nat → Nat → Int32} (h : zR n E M) (e : E 12 0 = 1) : SS (100 * n) M (sh 3 E) (E 12) := by
  obtain ⟨h1, h2, h3, h4, ⟨a1, a2, a3, a4, a5, a6, a7⟩, h6, h7, h8, h9, h10⟩ := h
  obtain ⟨f, o, t, an⟩ := a3.1 e
  refine ⟨h1, f, ⟨a4.trans a6.2.1.symm, ?_, Or.inl a6.1, Or.inl ⟨a5, a6.2.2⟩⟩, ?_, o, t, an, ⟨a7.1, by have := a7.2; omega⟩, e, a1.trans e⟩
  · rw [a6.2.1]; unfold D8; decide
  · unfold RGn; rw [if_pos a6.1]; exact h3
theorem zR_back {n T : Nat} {E M : Nat → Nat → Int32} {s' u : Nat → Int32} (h : zR n E M) (hT : T ≤ 100 * (n + 1)) (hs : SS T (ups M 0 u) (sh 3 E) s') (f1 : FrS (E 12) s') (f2 : FrG (M 0) u) (e : E 12 0 = 1) : zR (n + 1) (ups E 12 s') (ups M 0 u) := by
  obtain ⟨h1, h2, h3, h4, h5, h6, h7, h8, h9, h10⟩ := hs
  have a6 := h.2.2.2.2.1.2.2.2.2.2.1
  refine zR_ship h (f1 0 (by omega)) ⟨(f1 13 (by omega)).trans a6.1, (f1 14 (by omega)).trans a6.2.1, (f1 15 (by omega)).trans a6.2.2⟩ ⟨h8.1, by have := h8.2; omega⟩ ⟨fun _ => ⟨h2, h5, h6, h7⟩, fun q => absurd (h9.symm.trans q) (by decide)⟩ (fun k hk => f2 k (by omega))
theorem e_dir {x : Int32} (h : D8 x) : fX7_isDirection x = some 1 := by
  unfold fX7_isDirection
  rw [if_neg (nn' h.1), if_neg (fun q => absurd (ile.mp (show (8 : Int32) ≤ x from q)) (Int.not_le.mpr h.2))]
theorem m_dir {x : Int32} (h : D8 x) : fX8_isDirection x = some 1 := by
  unfold fX8_isDirection
  rw [if_neg (nn' h.1), if_neg (fun q => absurd (ile.mp (show (8 : Int32) ≤ x from q)) (Int.not_le.mpr h.2))]
theorem e_dir0 {x : Int32} (h : ¬ D8 x) : fX7_isDirection x = some 0 := by
  unfold fX7_isDirection
  by_cases c : x < 0
  · rw [if_pos c]
  · rw [if_neg c, if_pos (ile.mpr (Int.not_lt.mp (fun q => h ⟨nn c, q⟩)) : (8 : Int32) ≤ x)]
theorem m_dir0 {x : Int32} (h : ¬ D8 x) : fX8_isDirection x = some 0 := by
  unfold fX8_isDirection
  by_cases c : x < 0
  · rw [if_pos c]
  · rw [if_neg c, if_pos (ile.mpr (Int.not_lt.mp (fun q => h ⟨nn c, q⟩)) : (8 : Int32) ≤ x)]
theorem may0 {n : Nat} {E M : Nat → Nat → Int32} {d : Int32} (h : zR n E M) (e : ¬ E 12 0 = 1) : fX5_mayTurn (E 12) (sh 3 E) d = some 0 ∧ fX8_mayTurn M d = some 0 := by
  obtain ⟨h1, h2, h3, h4, ⟨a1, a2, a3, a4, a5, a6, a7⟩, h6⟩ := h
  have e0 : E 12 0 = 0 := a2.resolve_right e
  constructor
  · unfold fX5_mayTurn fX5_isAlive; rw [if_pos e0, ob1_s, if_pos rfl]
  · unfold fX8_mayTurn; rw [if_pos (a1.trans e0)]
theorem sim_wear {n : Nat} {E M : Nat → Nat → Int32} (hn : n < 1000) (h : zR n E M) (a0 : Int32) : ∃ (r : Int32) (c12 : Nat → Int32) (c28 : Nat → Int32) (d0 : Nat → Int32) (d9 : Nat → Int32), fX7_wear E a0 = some (r, c12, c28) ∧ fX8_wear M a0 = some (r, d0, d9) ∧ zR (n + 1) (ups (ups E 12 c12) 28 c28) (ups (ups M 0 d0) 9 d9) := by
  have ref : ∀ r : Int32, isRef r → fX7_wear E a0 = some (r, E 12, rf1 (E 28) r) → fX8_wear M a0 = some (r, M 0, rf1 (M 9) r) → ∃ (r : Int32) (c12 : Nat → Int32) (c28 : Nat → Int32) (d0 : Nat → Int32) (d9 : Nat → Int32), fX7_wear E a0 = some (r, c12, c28) ∧ fX8_wear M a0 = some (r, d0, d9) ∧ zR (n + 1) (ups (ups E 12 c12) 28 c28) (ups (ups M 0 d0) 9 d9) := fun r hr e1 e2 => ⟨r, _, _, _, _, e1, e2, by simp only [ups_id]; exact zR_ref h r⟩
  by_cases hd : D8 a0
  · by_cases e : E 12 0 = 1
    · have hs := zR_SS h e
      rcases ss_may h.2.1 (by omega) hs hd with ⟨x1, x2⟩ | ⟨x1, x2, hk, -⟩
      · exact ref (-3) r3 (by simp only [fX7_wear, e_dir hd, x1, ups_id, ob1_s, ob2_s, ob3_s, ob4_s, nm_s, ↓reduceIte, i10, e_ref _ r1, e_ref _ r2, e_ref _ r3, e_ref _ r4, e_ref _ r6, m_ref _ r1, m_ref _ r2, m_ref _ r3, m_ref _ r4, m_ref _ r6]) (by simp only [fX8_wear, m_dir hd, x2, ups_id, ob1_s, ob2_s, ob3_s, ob4_s, nm_s, ↓reduceIte, i10, e_ref _ r1, e_ref _ r2, e_ref _ r3, e_ref _ r4, e_ref _ r6, m_ref _ r1, m_ref _ r2, m_ref _ r3, m_ref _ r4, m_ref _ r6])
      · obtain ⟨u, s', y1, y2, y3, y4, y5⟩ := ss_wear h.2.1 (by omega) hs hd hk
        have e22 : u 22 = s' 10 := y3.2.1.2.2.2.2.2.2.2.2.2.1
        have e1 : fX7_wear E a0 = some (s' 10, s', E 28) := by simp only [fX7_wear, e_dir hd, x1, y2, ups_id, ob1_s, ob2_s, ob3_s, ob4_s, nm_s, ↓reduceIte, i10, e_ref _ r1, e_ref _ r2, e_ref _ r3, e_ref _ r4, e_ref _ r6, m_ref _ r1, m_ref _ r2, m_ref _ r3, m_ref _ r4, m_ref _ r6]
        have e2 : fX8_wear M a0 = some (s' 10, u, M 9) := by simp only [fX8_wear, m_dir hd, x2, y1, e22, ups_id, ob1_s, ob2_s, ob3_s, ob4_s, nm_s, ↓reduceIte, i10, e_ref _ r1, e_ref _ r2, e_ref _ r3, e_ref _ r4, e_ref _ r6, m_ref _ r1, m_ref _ r2, m_ref _ r3, m_ref _ r4, m_ref _ r6]
        refine ⟨_, _, _, _, _, e1, e2, ?_⟩
        rw [ups_idn (by decide), ups_idn (by decide)]
        exact zR_back h (by omega) y3 y4 y5 e
    · obtain ⟨x1, x2⟩ := may0 (d := a0) h e
      exact ref (-3) r3 (by simp only [fX7_wear, e_dir hd, x1, ups_id, ob1_s, ob2_s, ob3_s, ob4_s, nm_s, ↓reduceIte, i10, e_ref _ r1, e_ref _ r2, e_ref _ r3, e_ref _ r4, e_ref _ r6, m_ref _ r1, m_ref _ r2, m_ref _ r3, m_ref _ r4, m_ref _ r6]) (by simp only [fX8_wear, m_dir hd, x2, ups_id, ob1_s, ob2_s, ob3_s, ob4_s, nm_s, ↓reduceIte, i10, e_ref _ r1, e_ref _ r2, e_ref _ r3, e_ref _ r4, e_ref _ r6, m_ref _ r1, m_ref _ r2, m_ref _ r3, m_ref _ r4, m_ref _ r6])
  · exact ref (-1) r1 (by simp only [fX7_wear, e_dir0 hd, ups_id, ob1_s, ob2_s, ob3_s, ob4_s, nm_s, ↓reduceIte, i10, e_ref _ r1, e_ref _ r2, e_ref _ r3, e_ref _ r4, e_ref _ r6, m_ref _ r1, m_ref _ r2, m_ref _ r3, m_ref _ r4, m_ref _ r6]) (by simp only [fX8_wear, m_dir0 hd, ups_id, ob1_s, ob2_s, ob3_s, ob4_s, nm_s, ↓reduceIte, i10, e_ref _ r1, e_ref _ r2, e_ref _ r3, e_ref _ r4, e_ref _ r6, m_ref _ r1, m_ref _ r2, m_ref _ r3, m_ref _ r4, m_ref _ r6])
theorem sim_haul {n : Nat} {E M : Nat → Nat → Int32} (hn : n < 1000) (h : zR n E M) (a0 : Int32) : ∃ (r : Int32) (c12 : Nat → Int32) (c28 : Nat → Int32) (d0 : Nat → Int32) (d9 : Nat → Int32), fX7_haul E a0 = some (r, c12, c28) ∧ fX8_haul M a0 = some (r, d0, d9) ∧ zR (n + 1) (ups (ups E 12 c12) 28 c28) (ups (ups M 0 d0) 9 d9) := by
  have ref : ∀ r : Int32, isRef r → fX7_haul E a0 = some (r, E 12, rf1 (E 28) r) → fX8_haul M a0 = some (r, M 0, rf1 (M 9) r) → ∃ (r : Int32) (c12 : Nat → Int32) (c28 : Nat → Int32) (d0 : Nat → Int32) (d9 : Nat → Int32), fX7_haul E a0 = some (r, c12, c28) ∧ fX8_haul M a0 = some (r, d0, d9) ∧ zR (n + 1) (ups (ups E 12 c12) 28 c28) (ups (ups M 0 d0) 9 d9) := fun r hr e1 e2 => ⟨r, _, _, _, _, e1, e2, by simp only [ups_id]; exact zR_ref h r⟩
  by_cases hd : D8 a0
  · by_cases e : E 12 0 = 1
    · have hs := zR_SS h e
      rcases ss_may h.2.1 (by omega) hs hd with ⟨x1, x2⟩ | ⟨x1, x2, hk, h4⟩
      · exact ref (-3) r3 (by simp only [fX7_haul, fX7_haul_39, e_dir hd, x1, ups_id, ob1_s, ob2_s, ob3_s, ob4_s, nm_s, ↓reduceIte, i10, e_ref _ r1, e_ref _ r2, e_ref _ r3, e_ref _ r4, e_ref _ r6, m_ref _ r1, m_ref _ r2, m_ref _ r3, m_ref _ r4, m_ref _ r6]) (by simp only [fX8_haul, fX8_haul_28, m_dir hd, x2, ups_id, ob1_s, ob2_s, ob3_s, ob4_s, nm_s, ↓reduceIte, i10, e_ref _ r1, e_ref _ r2, e_ref _ r3, e_ref _ r4, e_ref _ r6, m_ref _ r1, m_ref _ r2, m_ref _ r3, m_ref _ r4, m_ref _ r6])
      · obtain ⟨q1, q2, q3, q4, q5, q6, q7, q8, q9, q10⟩ := hs
        have e17 : M 0 17 = E 12 5 := q2.2.2.2.2.1
        have o5 := q5.2.2.2.1
        by_cases c : 1 ≤ E 12 5
        · have c' : 1 ≤ (E 12 5).toInt := ile.mp c
          have n0 : ¬ E 12 5 = 0 := fun q => by rw [q] at c'; exact absurd c' (by decide)
          have et : fX5_turnRoundAnchor (E 12) a0 = some (ups (ups (ups (E 12) 2 a0) 5 (E 12 5 - 1)) 10 3) := rfl
          have e1 : fX7_haul E a0 = some (E 12 5 - 1, ups (ups (ups (E 12) 2 a0) 5 (E 12 5 - 1)) 10 3, E 28) := by simp only [fX7_haul, e_dir hd, x1, c, et, ups_id, ob1_s, ob2_s, ob3_s, ob4_s, nm_s, ↓reduceIte, i10, e_ref _ r1, e_ref _ r2, e_ref _ r3, e_ref _ r4, e_ref _ r6, m_ref _ r1, m_ref _ r2, m_ref _ r3, m_ref _ r4, m_ref _ r6]; rfl
          have e2 : fX8_haul M a0 = some (E 12 5 - 1, ups (ups (ups (M 0) 14 a0) 22 3) 17 (E 12 5 - 1), M 9) := by simp only [fX8_haul, m_dir hd, x2, e17, n0, ups_id, ob1_s, ob2_s, ob3_s, ob4_s, nm_s, ↓reduceIte, i10, e_ref _ r1, e_ref _ r2, e_ref _ r3, e_ref _ r4, e_ref _ r6, m_ref _ r1, m_ref _ r2, m_ref _ r3, m_ref _ r4, m_ref _ r6]
          refine ⟨_, _, _, _, _, e1, e2, ?_⟩
          rw [ups_idn (by decide), ups_idn (by decide)]
          have fS : FrS (E 12) (ups (ups (ups (E 12) 2 a0) 5 (E 12 5 - 1)) 10 3) := fun k hk => by rw [ups_n _ _ _ _ (by omega), ups_n _ _ _ _ (by omega), ups_n _ _ _ _ (by omega)]
          have fG : FrG (M 0) (ups (ups (ups (M 0) 14 a0) 22 3) 17 (E 12 5 - 1)) := fun k hk => by rw [ups_n _ _ _ _ (by omega), ups_n _ _ _ _ (by omega), ups_n _ _ _ _ (by omega)]
          refine zR_back h (Nat.le_refl _) ⟨q1.root (fG 0 (by omega)) (fG 1 (by omega)) (fG 6 (by omega)) (fG 9 (by omega)), ?_, q3.fr fG fS, q4.fr fS, ?_, fun _ => q6 hk, fun q => ?_, ⟨q8.1, ?_⟩, q9, q10⟩ fS fG e
          · obtain ⟨f1, f2, f3, f4, f5, f6, f7, f8, f9, f10, f11⟩ := q2
            rw [ups_s]
            unfold RF; simp only [ups_at]; simp
            exact ⟨f1, f3, f4, f6, f7, f8, f9⟩
          · refine os_kind (s := ups (ups (E 12) 2 a0) 5 (E 12 5 - 1)) ?_ hk ⟨by decide, by decide⟩
            obtain ⟨o2, o3, o4, o5, o6, o7, o8, o10, o11, o12, o1, oc⟩ := q5
            unfold OS; simp only [ups_at]; simp
            exact ⟨hd, o3, o4, dec1 c' o5.2, o6, o7, o8, o10, o11, o12, o1, oc⟩
          · rw [ups_s] at q; exact absurd q (by decide)
          · rw [ups_n _ _ _ _ (by decide), ups_n _ _ _ _ (by decide), ups_n _ _ _ _ (by decide)]; have := q8.2; omega
        · have n0 : E 12 5 = 0 := ieq.mpr (by have := o5.1; have := Int.not_le.mp (mt (fun (q : (1 : Int32).toInt ≤ (E 12 5).toInt) => ile.mpr q) c); have e1 : (1 : Int32).toInt = 1 := rfl; show (E 12 5).toInt = 0; omega)
          exact ref (-3) r3 (by simp only [fX7_haul, fX7_haul_39, e_dir hd, x1, c, ups_id, ob1_s, ob2_s, ob3_s, ob4_s, nm_s, ↓reduceIte, i10, e_ref _ r1, e_ref _ r2, e_ref _ r3, e_ref _ r4, e_ref _ r6, m_ref _ r1, m_ref _ r2, m_ref _ r3, m_ref _ r4, m_ref _ r6]) (by simp only [fX8_haul, fX8_haul_28, m_dir hd, x2, e17, n0, ups_id, ob1_s, ob2_s, ob3_s, ob4_s, nm_s, ↓reduceIte, i10, e_ref _ r1, e_ref _ r2, e_ref _ r3, e_ref _ r4, e_ref _ r6, m_ref _ r1, m_ref _ r2, m_ref _ r3, m_ref _ r4, m_ref _ r6])
    · obtain ⟨x1, x2⟩ := may0 (d := a0) h e
      exact ref (-3) r3 (by simp only [fX7_haul, fX7_haul_39, e_dir hd, x1, ups_id, ob1_s, ob2_s, ob3_s, ob4_s, nm_s, ↓reduceIte, i10, e_ref _ r1, e_ref _ r2, e_ref _ r3, e_ref _ r4, e_ref _ r6, m_ref _ r1, m_ref _ r2, m_ref _ r3, m_ref _ r4, m_ref _ r6]) (by simp only [fX8_haul, fX8_haul_28, m_dir hd, x2, ups_id, ob1_s, ob2_s, ob3_s, ob4_s, nm_s, ↓reduceIte, i10, e_ref _ r1, e_ref _ r2, e_ref _ r3, e_ref _ r4, e_ref _ r6, m_ref _ r1, m_ref _ r2, m_ref _ r3, m_ref _ r4, m_ref _ r6])
  · exact ref (-1) r1 (by simp only [fX7_haul, e_dir0 hd, ups_id, ob1_s, ob2_s, ob3_s, ob4_s, nm_s, ↓reduceIte, i10, e_ref _ r1, e_ref _ r2, e_ref _ r3, e_ref _ r4, e_ref _ r6, m_ref _ r1, m_ref _ r2, m_ref _ r3, m_ref _ r4, m_ref _ r6]) (by simp only [fX8_haul, m_dir0 hd, ups_id, ob1_s, ob2_s, ob3_s, ob4_s, nm_s, ↓reduceIte, i10, e_ref _ r1, e_ref _ r2, e_ref _ r3, e_ref _ r4, e_ref _ r6, m_ref _ r1, m_ref _ r2, m_ref _ r3, m_ref _ r4, m_ref _ r6])
/-- whether the wind lies on the way: the two ways to ask, over all directions -/
def thM (a d v : Int32) : Int32 := if zrem ((d - a) + 8) 8 = 4 then 0 else if zrem ((v - a) + 8) 8 = 0 then 0 else if 4 ≤ zrem ((d - a) + 8) 8 then (if zrem ((v - a) + 8) 8 ≤ zrem ((d - a) + 8) 8 then 0 else 1) else (if zrem ((d - a) + 8) 8 ≤ zrem ((v - a) + 8) 8 then 0 else 1)
def thE (a d v : Int32) : Int32 := if zap a d = 4 then 0 else if v = a then 0 else if v = d then 0 else if zap a v + zap v d = zap a d then 1 else 0
set_option maxRecDepth 100000 in
theorem th_eq {a d v : Int32} (ha : D8 a) (hd : D8 d) (hv : D8 v) : thM a d v = thE a d v := by
  rcases c8 ha.1 ha.2 with rfl | rfl | rfl | rfl | rfl | rfl | rfl | rfl <;> rcases c8 hd.1 hd.2 with rfl | rfl | rfl | rfl | rfl | rfl | rfl | rfl <;> rcases c8 hv.1 hv.2 with rfl | rfl | rfl | rfl | rfl | rfl | rfl | rfl <;> decide +kernel
theorem m_through {m : Nat → Nat → Int32} {d v : Int32} (hwm : fX8_wind_ m (m 0 21) = some v) : fX8_through m d = some (thM (m 0 14) d v) := by
  unfold fX8_through thM
  rw [hwm, ob1_s]
  repeat' split
  all_goals rfl
theorem e_passes {s : Nat → Int32} {d v : Int32} : fX5_passesWind s v d = some (thE (s 2) d v) := by
  have h1 : fX7_apart (s 2) d = some (zap (s 2) d) := rfl
  have h2 : fX7_apart (s 2) v = some (zap (s 2) v) := rfl
  have h3 : fX7_apart v d = some (zap v d) := rfl
  unfold fX5_passesWind thE
  rw [h1, ob1_s, h2, ob1_s, h3, ob1_s]
  repeat' split
  all_goals rfl
theorem th01 (a d v : Int32) : thE a d v = 0 ∨ thE a d v = 1 := by
  unfold thE
  repeat' split
  all_goals first | exact Or.inl rfl | exact Or.inr rfl
theorem sim_head {n : Nat} {E M : Nat → Nat → Int32} (hn : n < 1000) (h : zR n E M) (a0 : Int32) : ∃ (r : Int32) (c12 : Nat → Int32) (c28 : Nat → Int32) (d0 : Nat → Int32) (d9 : Nat → Int32), fX7_head E a0 = some (r, c12, c28) ∧ fX8_head M a0 = some (r, d0, d9) ∧ zR (n + 1) (ups (ups E 12 c12) 28 c28) (ups (ups M 0 d0) 9 d9) := by
  have ref : ∀ r : Int32, isRef r → fX7_head E a0 = some (r, E 12, rf1 (E 28) r) → fX8_head M a0 = some (r, M 0, rf1 (M 9) r) → ∃ (r : Int32) (c12 : Nat → Int32) (c28 : Nat → Int32) (d0 : Nat → Int32) (d9 : Nat → Int32), fX7_head E a0 = some (r, c12, c28) ∧ fX8_head M a0 = some (r, d0, d9) ∧ zR (n + 1) (ups (ups E 12 c12) 28 c28) (ups (ups M 0 d0) 9 d9) := fun r hr e1 e2 => ⟨r, _, _, _, _, e1, e2, by simp only [ups_id]; exact zR_ref h r⟩
  by_cases hd : D8 a0
  · by_cases e : E 12 0 = 1
    · have hs := zR_SS h e
      rcases ss_may h.2.1 (by omega) hs hd with ⟨x1, x2⟩ | ⟨x1, x2, hk, h4⟩
      · exact ref (-3) r3 (by simp only [fX7_head, e_dir hd, x1, ups_id, ob1_s, ob2_s, ob3_s, ob4_s, nm_s, ↓reduceIte, i10, e_ref _ r1, e_ref _ r2, e_ref _ r3, e_ref _ r4, e_ref _ r6, m_ref _ r1, m_ref _ r2, m_ref _ r3, m_ref _ r4, m_ref _ r6]) (by simp only [fX8_head, fX8_head_39, m_dir hd, x2, ups_id, ob1_s, ob2_s, ob3_s, ob4_s, nm_s, ↓reduceIte, i10, e_ref _ r1, e_ref _ r2, e_ref _ r3, e_ref _ r4, e_ref _ r6, m_ref _ r1, m_ref _ r2, m_ref _ r3, m_ref _ r4, m_ref _ r6])
      · obtain ⟨q1, q2, q3, q4, q5, q6, q7, q8, q9, q10⟩ := hs
        have hw := h.2.1
        have e21 : M 0 21 = E 12 9 := q2.2.2.2.2.2.2.2.2.1
        have e14 : M 0 14 = E 12 2 := q2.2.1
        have q0 : M 3 ((0 : Int32)).toNatClampNeg = E 3 3 := q1.2.2.2.2.2.2.2.2.2.1
        have ht : (E 12 9).toInt < 2147483647 := by have := q8.2; omega
        have hD : D8 (wnd (E 12) (sh 3 E)) := wnd_r q3 ht
        have hwm : fX8_wind_ M (M 0 21) = some (wnd (E 12) (sh 3 E)) := by rw [e21]; exact m_wndAt hw q1 q3 ht
        have hwm2 : fX8_wind_ (ups M 0 (ups (M 0) 14 a0)) (M 0 21) = some (wnd (E 12) (sh 3 E)) := by rw [e21]; exact m_wndAt hw (show RW (ups M 0 (ups (M 0) 14 a0)) (sh 3 E) from q1) (show RM ((ups M 0 (ups (M 0) 14 a0)) 0) (E 12) from q3) ht
        have hwe : fX5_windIn (E 12) (sh 3 E) = some (wnd (E 12) (sh 3 E)) := e_wnd hw
        have hwe2 : fX5_windIn (ups (E 12) 2 a0) (sh 3 E) = some (wnd (E 12) (sh 3 E)) := e_wnd hw
        have hap : fX7_apart a0 (wnd (E 12) (sh 3 E)) = some (zap a0 (wnd (E 12) (sh 3 E))) := rfl
        have hth := m_through (d := a0) hwm
        rw [e14, th_eq q5.1 hd hD] at hth
        have hpw : fX5_passesWind (E 12) (wnd (E 12) (sh 3 E)) a0 = some (thE (E 12 2) a0 (wnd (E 12) (sh 3 E))) := e_passes
        have hsea : (sh 3 E) 0 3 = E 3 3 := rfl
        have yes : fX7_head E a0 = some (zap a0 (wnd (E 12) (sh 3 E)), ups (E 12) 2 a0, E 28) → fX8_head M a0 = some (zap a0 (wnd (E 12) (sh 3 E)), ups (M 0) 14 a0, M 9) → ∃ (r : Int32) (c12 : Nat → Int32) (c28 : Nat → Int32) (d0 : Nat → Int32) (d9 : Nat → Int32), fX7_head E a0 = some (r, c12, c28) ∧ fX8_head M a0 = some (r, d0, d9) ∧ zR (n + 1) (ups (ups E 12 c12) 28 c28) (ups (ups M 0 d0) 9 d9) := fun e1 e2 => by
          refine ⟨_, _, _, _, _, e1, e2, ?_⟩
          rw [ups_idn (by decide), ups_idn (by decide)]
          have fS : FrS (E 12) (ups (E 12) 2 a0) := fun k hk => ups_n _ _ _ _ (by omega)
          have fG : FrG (M 0) (ups (M 0) 14 a0) := fun k hk => ups_n _ _ _ _ (by omega)
          refine zR_back h (Nat.le_refl _) ⟨q1.root (fG 0 (by omega)) (fG 1 (by omega)) (fG 6 (by omega)) (fG 9 (by omega)), ?_, q3.fr fG fS, q4.fr fS, ?_, q6, q7, ⟨q8.1, ?_⟩, q9, q10⟩ fS fG e
          · obtain ⟨f1, f2, f3, f4, f5, f6, f7, f8, f9, f10, f11⟩ := q2
            rw [ups_s]
            unfold RF; simp only [ups_at]; simp
            exact ⟨f1, f3, f4, f5, f6, f7, f8, f9, f10, f11⟩
          · obtain ⟨o2, o3, o4, o5, o6, o7, o8, o10, o11, o12, o1, oc⟩ := q5
            unfold OS; simp only [ups_at]; simp
            exact ⟨hd, o3, o4, o5, o6, o7, o8, o10, o11, o12, o1, oc⟩
          · rw [ups_n _ _ _ _ (by decide)]; have := q8.2; omega
        by_cases c : E 3 3 ≤ 5
        · refine yes ?_ ?_
          · simp only [fX7_head, e_dir hd, x1, fX5_wouldFailInStays, hsea, c, hwe2, hap, ups_id, ob1_s, ob2_s, ob3_s, ob4_s, nm_s, ↓reduceIte, i10, e_ref _ r1, e_ref _ r2, e_ref _ r3, e_ref _ r4, e_ref _ r6, m_ref _ r1, m_ref _ r2, m_ref _ r3, m_ref _ r4, m_ref _ r6]
          · simp only [fX8_head, fX8_head_46, m_dir hd, x2, q0, c, ups_idn (f := M) (j := 0) (k := 9) (by decide), hwm2, m_apart hd hD, ups_id, ob1_s, ob2_s, ob3_s, ob4_s, nm_s, ↓reduceIte, i10, e_ref _ r1, e_ref _ r2, e_ref _ r3, e_ref _ r4, e_ref _ r6, m_ref _ r1, m_ref _ r2, m_ref _ r3, m_ref _ r4, m_ref _ r6]
        · rcases th01 (E 12 2) a0 (wnd (E 12) (sh 3 E)) with t | t
          · rw [t] at hth hpw
            refine yes ?_ ?_
            · simp only [fX7_head, e_dir hd, x1, fX5_wouldFailInStays, hsea, c, hwe, hpw, hwe2, hap, ups_id, ob1_s, ob2_s, ob3_s, ob4_s, nm_s, ↓reduceIte, i10, e_ref _ r1, e_ref _ r2, e_ref _ r3, e_ref _ r4, e_ref _ r6, m_ref _ r1, m_ref _ r2, m_ref _ r3, m_ref _ r4, m_ref _ r6]
            · simp only [fX8_head, fX8_head_46, m_dir hd, x2, q0, c, hth, ups_idn (f := M) (j := 0) (k := 9) (by decide), hwm2, m_apart hd hD, ups_id, ob1_s, ob2_s, ob3_s, ob4_s, nm_s, ↓reduceIte, i10, e_ref _ r1, e_ref _ r2, e_ref _ r3, e_ref _ r4, e_ref _ r6, m_ref _ r1, m_ref _ r2, m_ref _ r3, m_ref _ r4, m_ref _ r6]
          · rw [t] at hth hpw
            exact ref (-3) r3 (by simp only [fX7_head, e_dir hd, x1, fX5_wouldFailInStays, hsea, c, hwe, hpw, ups_id, ob1_s, ob2_s, ob3_s, ob4_s, nm_s, ↓reduceIte, i10, e_ref _ r1, e_ref _ r2, e_ref _ r3, e_ref _ r4, e_ref _ r6, m_ref _ r1, m_ref _ r2, m_ref _ r3, m_ref _ r4, m_ref _ r6]) (by simp only [fX8_head, fX8_head_39, m_dir hd, x2, q0, c, hth, ups_id, ob1_s, ob2_s, ob3_s, ob4_s, nm_s, ↓reduceIte, i10, e_ref _ r1, e_ref _ r2, e_ref _ r3, e_ref _ r4, e_ref _ r6, m_ref _ r1, m_ref _ r2, m_ref _ r3, m_ref _ r4, m_ref _ r6])
    · obtain ⟨x1, x2⟩ := may0 (d := a0) h e
      exact ref (-3) r3 (by simp only [fX7_head, e_dir hd, x1, ups_id, ob1_s, ob2_s, ob3_s, ob4_s, nm_s, ↓reduceIte, i10, e_ref _ r1, e_ref _ r2, e_ref _ r3, e_ref _ r4, e_ref _ r6, m_ref _ r1, m_ref _ r2, m_ref _ r3, m_ref _ r4, m_ref _ r6]) (by simp only [fX8_head, fX8_head_39, m_dir hd, x2, ups_id, ob1_s, ob2_s, ob3_s, ob4_s, nm_s, ↓reduceIte, i10, e_ref _ r1, e_ref _ r2, e_ref _ r3, e_ref _ r4, e_ref _ r6, m_ref _ r1, m_ref _ r2, m_ref _ r3, m_ref _ r4, m_ref _ r6])
  · exact ref (-1) r1 (by simp only [fX7_head, e_dir0 hd, ups_id, ob1_s, ob2_s, ob3_s, ob4_s, nm_s, ↓reduceIte, i10, e_ref _ r1, e_ref _ r2, e_ref _ r3, e_ref _ r4, e_ref _ r6, m_ref _ r1, m_ref _ r2, m_ref _ r3, m_ref _ r4, m_ref _ r6]) (by simp only [fX8_head, m_dir0 hd, ups_id, ob1_s, ob2_s, ob3_s, ob4_s, nm_s, ↓reduceIte, i10, e_ref _ r1, e_ref _ r2, e_ref _ r3, e_ref _ r4, e_ref _ r6, m_ref _ r1, m_ref _ r2, m_ref _ r3, m_ref _ r4, m_ref _ r6])
theorem sim_run {n : Nat} {E M : Nat → Nat → Int32} (hn : n < 1000) (h : zR n E M) (a0 : Int32) : ∃ (r : Int32) (c12 : Nat → Int32) (c28 : Nat → Int32) (d0 : Nat → Int32) (d9 : Nat → Int32), fX7_run E a0 = some (r, c12, c28) ∧ fX8_run M a0 = some (r, d0, d9) ∧ zR (n + 1) (ups (ups E 12 c12) 28 c28) (ups (ups M 0 d0) 9 d9) := by
  have ref : ∀ r : Int32, isRef r → fX7_run E a0 = some (r, E 12, rf1 (E 28) r) → fX8_run M a0 = some (r, M 0, rf1 (M 9) r) → ∃ (r : Int32) (c12 : Nat → Int32) (c28 : Nat → Int32) (d0 : Nat → Int32) (d9 : Nat → Int32), fX7_run E a0 = some (r, c12, c28) ∧ fX8_run M a0 = some (r, d0, d9) ∧ zR (n + 1) (ups (ups E 12 c12) 28 c28) (ups (ups M 0 d0) 9 d9) := fun r hr e1 e2 => ⟨r, _, _, _, _, e1, e2, by simp only [ups_id]; exact zR_ref h r⟩
  by_cases c1 : 1 ≤ a0
  · by_cases c2 : a0 ≤ 99
    · by_cases e : E 12 0 = 1
      · have hs := zR_SS h e
        have n0 : ¬ E 12 0 = 0 := by rw [e]; decide
        have m0 : ¬ M 0 12 = 0 := by rw [hs.2.2.2.2.2.2.2.2.2]; decide
        have b1 : 1 ≤ a0.toInt := ile.mp c1
        have b2 : a0.toInt ≤ 99 := ile.mp c2
        have eN : a0 = nI a0.toInt.toNat := nI_of' (by omega)
        obtain ⟨g', y1, y2, y3, y4⟩ := m_tens (w := sh 3 E) (B := ups M 9 (M 9)) h.2.1 (N := a0.toInt.toNat) (by omega) (fun f g i => zl4 (fX8_run_41 M) f g (M 9) a0 i) (fun g => some (g 22, g, M 9)) (fun f g i => by
          show fX8_run_41 M (zl4 (fX8_run_41 M) f) g (M 9) a0 i = _
          unfold fX8_run_41
          rw [← eN, ups_comm (by decide : (0 : Nat) ≠ 9)]) zFU 0 (100 * n) (M 0) (E 12) (by omega) (by omega) (by unfold zFU; omega) (by rw [ups_id, ups_id]; exact hs)
        rw [ups_id, Nat.sub_zero] at y2
        rw [Nat.sub_zero] at y3
        have e22 : g' 22 = tens (sh 3 E) a0.toInt.toNat (E 12) 10 := y2.2.1.2.2.2.2.2.2.2.2.2.1
        have et := e_tens (w := sh 3 E) (B := M) h.2.1 (N := a0.toInt.toNat) (by omega) (g := M 0) (s := E 12) (T := 100 * n) (by omega) (by rw [ups_id]; exact hs)
        rw [← eN] at et
        have y1' : zl4 (fX8_run_41 M) zFU (M 0) (M 9) a0 0 = some (g' 22, g', M 9) := y1
        have e1 : fX7_run E a0 = some (tens (sh 3 E) a0.toInt.toNat (E 12) 10, tens (sh 3 E) a0.toInt.toNat (E 12), E 28) := by simp only [fX7_run, c1, c2, n0, et, ups_id, ob1_s, ob2_s, ob3_s, ob4_s, nm_s, ↓reduceIte, i10, e_ref _ r1, e_ref _ r2, e_ref _ r3, e_ref _ r4, e_ref _ r6, m_ref _ r1, m_ref _ r2, m_ref _ r3, m_ref _ r4, m_ref _ r6]
        have e2 : fX8_run M a0 = some (tens (sh 3 E) a0.toInt.toNat (E 12) 10, g', M 9) := by simp only [fX8_run, c1, c2, m0, y1', e22, ups_id, ob1_s, ob2_s, ob3_s, ob4_s, nm_s, ↓reduceIte, i10, e_ref _ r1, e_ref _ r2, e_ref _ r3, e_ref _ r4, e_ref _ r6, m_ref _ r1, m_ref _ r2, m_ref _ r3, m_ref _ r4, m_ref _ r6]
        refine ⟨_, _, _, _, _, e1, e2, ?_⟩
        rw [ups_idn (by decide), ups_idn (by decide)]
        exact zR_back h (by omega) y2 y3 y4 e
      · have e0 : E 12 0 = 0 := h.2.2.2.2.1.2.1.resolve_right e
        have m0 : M 0 12 = 0 := h.2.2.2.2.1.1.trans e0
        exact ref (-3) r3 (by simp only [fX7_run, c1, c2, e0, ups_id, ob1_s, ob2_s, ob3_s, ob4_s, nm_s, ↓reduceIte, i10, e_ref _ r1, e_ref _ r2, e_ref _ r3, e_ref _ r4, e_ref _ r6, m_ref _ r1, m_ref _ r2, m_ref _ r3, m_ref _ r4, m_ref _ r6]) (by simp only [fX8_run, c1, c2, m0, ups_id, ob1_s, ob2_s, ob3_s, ob4_s, nm_s, ↓reduceIte, i10, e_ref _ r1, e_ref _ r2, e_ref _ r3, e_ref _ r4, e_ref _ r6, m_ref _ r1, m_ref _ r2, m_ref _ r3, m_ref _ r4, m_ref _ r6])
    · exact ref (-6) r6 (by simp only [fX7_run, c1, c2, ups_id, ob1_s, ob2_s, ob3_s, ob4_s, nm_s, ↓reduceIte, i10, e_ref _ r1, e_ref _ r2, e_ref _ r3, e_ref _ r4, e_ref _ r6, m_ref _ r1, m_ref _ r2, m_ref _ r3, m_ref _ r4, m_ref _ r6]) (by simp only [fX8_run, c1, c2, ups_id, ob1_s, ob2_s, ob3_s, ob4_s, nm_s, ↓reduceIte, i10, e_ref _ r1, e_ref _ r2, e_ref _ r3, e_ref _ r4, e_ref _ r6, m_ref _ r1, m_ref _ r2, m_ref _ r3, m_ref _ r4, m_ref _ r6])
  · exact ref (-4) r4 (by simp only [fX7_run, c1, ups_id, ob1_s, ob2_s, ob3_s, ob4_s, nm_s, ↓reduceIte, i10, e_ref _ r1, e_ref _ r2, e_ref _ r3, e_ref _ r4, e_ref _ r6, m_ref _ r1, m_ref _ r2, m_ref _ r3, m_ref _ r4, m_ref _ r6]) (by simp only [fX8_run, c1, ups_id, ob1_s, ob2_s, ob3_s, ob4_s, nm_s, ↓reduceIte, i10, e_ref _ r1, e_ref _ r2, e_ref _ r3, e_ref _ r4, e_ref _ r6, m_ref _ r1, m_ref _ r2, m_ref _ r3, m_ref _ r4, m_ref _ r6])
