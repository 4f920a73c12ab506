/-! judge, night, worth, stood -/
theorem GR.ss' {T : Nat} {M w : Nat → Nat → Int32} {g s K : Nat → Int32} (h : SS T M w s) (h0 : s 13 = 0 ∧ s 14 = 0 ∧ s 15 = 2147483647) (hu : GR (M 0) g) : SS T (ups (ups (ups M 3 (M 3)) 11 K) 0 g) w s := GR.ss h h0 hu
theorem judge_loop {M w wl : Nat → Nat → Int32} {K : Nat → Int32} (hw : OW w) {L : Nat} (hL : L ≤ 12) (e8 : M 8 = wl 1) (el : wl 0 1 = nI L) : ∀ (f j T : Nat) (g s : Nat → Int32), T + (L - j) < 1000000 → j ≤ L → L + 1 < f + j → SS T (ups (ups (ups M 3 (M 3)) 11 K) 0 g) w s → g 28 = nI L → ∃ (r : Int32) (g' s' : Nat → Int32), zl6 (fX8_judge_23 M) f g (M 3) (M 9) K (-9) (nI j) = fX8_judge_72 M g' (M 3) (M 9) K r ∧ zl2 (fX4_firstWrong_2 wl w) f s (nI j) = some (r, s') ∧ FrG g g' := by
  intro f
  induction f with
  | zero => intro j T g s hT h1 h2 h hg; omega
  | succ f ih =>
    intro j T g s hT h1 h2 h hg
    show ∃ (r : Int32) (g' s' : Nat → Int32), fX8_judge_23 M (zl6 (fX8_judge_23 M) f) g (M 3) (M 9) K (-9) (nI j) = fX8_judge_72 M g' (M 3) (M 9) K r ∧ fX4_firstWrong_2 wl w (zl2 (fX4_firstWrong_2 wl w) f) s (nI j) = some (r, s') ∧ FrG g g'
    generalize hz1 : zl6 (fX8_judge_23 M) f = Z1
    generalize hz2 : zl2 (fX4_firstWrong_2 wl w) f = Z2
    unfold fX8_judge_23 fX4_firstWrong_2
    rw [hg, el]
    by_cases c : j = L
    · subst c
      rw [if_pos (by rw [nI_leI (by omega) (by omega)]; omega), if_pos (by rw [nI_leI (by omega) (by omega)]; omega)]
      exact ⟨_, g, s, rfl, rfl, FrG.rf⟩
    · have hj12 : j < 12 := by omega
      have n9 : ¬ (0 : Int32) ≤ -9 := by decide
      have cN : ¬ nI L ≤ nI j := by rw [nI_leI (by omega) (by omega)]; omega
      rw [if_neg cN, if_neg n9, if_neg cN, bun4]
      obtain ⟨u, a1, a2, a3, a4, a5⟩ := ss_ten hw (by omega) h
      rw [ups2] at a3
      rw [ups_s] at a5
      rw [a1, a2, ob1_s, ob1_s]
      have e13 : u 13 = ten w s 1 := a3.2.1.1
      have hp : Plc (ten w s 1) := a3.2.2.2.2.1.2.2.2.2.2.2.2.2.2.2.1
      have tv : fX7_valueAt 12 (wl 1) (nI j) = some (wl 1 (nI j).toNatClampNeg) := e_tab (by decide) (by rw [nI_toInt (by omega)]; omega) (by rw [nI_toInt (by omega)]; omega)
      have fin : ∀ t : Int32, ∃ (r : Int32) (g' s' : Nat → Int32), fX8_judge_55 M Z1 u (M 3) (M 9) K (-9) (nI j) t = fX8_judge_72 M g' (M 3) (M 9) K r ∧ fX4_firstWrong_33 wl w Z2 (ten w s) (nI j) t = some (r, s') ∧ FrG g g' := fun t => by
        unfold fX8_judge_55 fX4_firstWrong_33 fX8_judge_66
        rw [gd_s (vp_in_nI (by omega) (by omega)), tv, ob1_s, e8, nI_1]
        by_cases ct : t = wl 1 (nI j).toNatClampNeg
        · rw [if_pos ct, if_pos ct.symm, ← hz1, ← hz2]
          obtain ⟨r, g', s', b1, b2, b3⟩ := ih (j + 1) (T + 1) u (ten w s) (by omega) (by omega) (by omega) a3 ((a5 28 (by omega)).trans hg)
          exact ⟨r, g', s', b1, b2, a5.tr b3⟩
        · rw [if_neg ct, if_neg (fun q => ct q.symm), ← hz1]
          refine ⟨nI j, u, ten w s, ?_, rfl, a5⟩
          obtain ⟨f', rfl⟩ : ∃ f', f = f' + 1 := ⟨f - 1, by omega⟩
          show fX8_judge_23 M (zl6 (fX8_judge_23 M) f') u (M 3) (M 9) K (nI j) (nI (j + 1)) = _
          generalize zl6 (fX8_judge_23 M) f' = Z3
          unfold fX8_judge_23
          rw [if_pos (nI_pos' (by omega))]
          split <;> rfl
      rw [e13]
      rcases hp.2 with q | q
      · rw [if_pos q, if_neg (by rw [q]; decide)]
        exact fin 99
      · rw [if_pos (show (0 : Int32) ≤ ten w s 1 from ile.mpr q), if_neg (fun e => by rw [e] at q; exact absurd q (by decide))]
        exact fin _
theorem zR_log0 {n : Nat} {E M : Nat → Nat → Int32} (h : zR n E M) : zR n (ups E 26 (ups (E 26) 1 0)) (ups M 0 (ups (M 0) 28 0)) := by
  obtain ⟨h1, h2, h3, h4, h5, ⟨l1, l2, l3⟩, h7, h8, h9, h10⟩ := h
  exact ⟨h1, h2, h3, h4, h5, ⟨rfl, (show Rng 0 0 12 from ⟨by decide, by decide⟩), l3⟩, h7, h8, h9, h10⟩
theorem sim_judge {n : Nat} {E M : Nat → Nat → Int32} (hn : n < 1000) (h : zR n E M) : ∃ (r : Int32) (c13 : Nat → Int32) (c26 : Nat → Int32) (c28 : Nat → Int32) (d0 : Nat → Int32) (d3 : Nat → Int32) (d9 : Nat → Int32) (d11 : Nat → Int32), fX7_judge E = some (r, c13, c26, c28) ∧ fX8_judge M = some (r, d0, d3, d9, d11) ∧ zR (n + 1) (ups (ups (ups E 13 c13) 26 c26) 28 c28) (ups (ups (ups (ups M 0 d0) 3 d3) 9 d9) 11 d11) := by
  have ref : ∀ r : Int32, isRef r → fX7_judge E = some (r, E 13, E 26, rf1 (E 28) r) → fX8_judge M = some (r, M 0, M 3, rf1 (M 9) r, M 11) → ∃ (r : Int32) (c13 : Nat → Int32) (c26 : Nat → Int32) (c28 : Nat → Int32) (d0 : Nat → Int32) (d3 : Nat → Int32) (d9 : Nat → Int32) (d11 : Nat → Int32), fX7_judge E = some (r, c13, c26, c28) ∧ fX8_judge M = some (r, d0, d3, d9, d11) ∧ zR (n + 1) (ups (ups (ups E 13 c13) 26 c26) 28 c28) (ups (ups (ups (ups M 0 d0) 3 d3) 9 d9) 11 d11) := fun r hr e1 e2 => ⟨r, _, _, _, _, _, _, _, e1, e2, by first | exact zR_ref h r | (simp only [ups_id]; exact zR_ref h r)⟩
  by_cases e : E 12 0 = 1
  · have hs := zR_SS h e
    have hw := h.2.1
    have hid := h.2.2.2.2.1.2.2.2.2.2.1
    have ho := hs.2.2.2.2.1
    have n0 : ¬ E 12 0 = 0 := by rw [e]; decide
    have m0 : ¬ M 0 12 = 0 := by rw [hs.2.2.2.2.2.2.2.2.2]; decide
    have hcp := e_cpy (E 13) (s := E 12) (Or.inr e) ho.2.2.2.2.2.2.2.2.2.1 (Or.inl hid.1)
    obtain ⟨l1, l2, l3⟩ := h.2.2.2.2.2.1
    obtain ⟨K, k1, k2⟩ := m_keep M
    have eL : E 26 1 = nI (E 26 1).toInt.toNat := nI_of' l2.1
    have hL : (E 26 1).toInt.toNat ≤ 12 := by have := l2.2; omega
    have s1 : SS (100 * n) (ups (ups (ups M 3 (M 3)) 11 K) 0 (M 0)) (sh 3 E) (cpy (E 13) (E 12)) := (GR.ss (K := K) hs hid (Or.inr rfl)).ext (cpy_at (E 13) (E 12))
    obtain ⟨r, g', s', y1, y2, y3⟩ := judge_loop (wl := sh 26 E) hw hL l3 eL zFU 0 (100 * n) (M 0) _ (by omega) (by omega) (by unfold zFU; omega) s1 (l1.trans eL)
    rw [nI_0] at y1 y2
    obtain ⟨u, z1, z2⟩ := again4 (d := M 3) k2 y3.k (fun _ _ => rfl)
    have e1 : fX7_judge E = some (r, s', ups (E 26) 1 0, E 28) := by
      unfold fX7_judge fX4_firstWrong
      rw [if_neg n0, hcp, ob1_s, ups_id, y2, ob2_s]
    have e2 : fX8_judge M = some (r, ups u 28 0, M 3, M 9, K) := by
      unfold fX8_judge
      rw [if_neg m0]
      simp only [ups_id]
      rw [k1, ob1_s, y1]
      unfold fX8_judge_72
      rw [z1, ob2_s]
    refine ⟨_, _, _, _, _, _, _, _, e1, e2, ?_⟩
    have t := zR_log0 (zR_mind (c := s') (K := K) h e z2)
    have b0 : (ups (ups M 0 u) 11 K) 0 = u := rfl
    have b1 : ups (ups E 13 s') 26 (E 26) = ups E 13 s' := ups_idn (by decide)
    have b2 : (ups E 13 s') 26 = E 26 := rfl
    rw [b0, b2] at t
    have b3 : ups (ups (ups E 13 s') 26 (ups (E 26) 1 0)) 28 (E 28) = ups (ups E 13 s') 26 (ups (E 26) 1 0) := by
      funext k
      by_cases q : k = 28
      · subst q; rfl
      · rw [ups_n _ _ _ _ q]
    have b4 : ups (ups (ups (ups M 0 (ups u 28 0)) 3 (M 3)) 9 (M 9)) 11 K = ups (ups (ups M 0 u) 11 K) 0 (ups u 28 0) := by
      have d3 : ups (ups M 0 (ups u 28 0)) 3 (M 3) = ups M 0 (ups u 28 0) := ups_idn (by decide)
      have d9 : ups (ups M 0 (ups u 28 0)) 9 (M 9) = ups M 0 (ups u 28 0) := ups_idn (by decide)
      rw [d3, d9, ups_comm (f := ups M 0 u) (j := 11) (k := 0) (by decide), ups2]
    rw [b3, b4]
    exact t
  · have e0 : E 12 0 = 0 := h.2.2.2.2.1.2.1.resolve_right e
    have m0 : M 0 12 = 0 := h.2.2.2.2.1.1.trans e0
    exact ref (-3) r3 (by simp only [fX7_judge, e0, ups_id, ob1_s, ob2_s, ob3_s, ob4_s, nm_s, ↓reduceIte, i10, e_ref _ r1, e_ref _ r2, e_ref _ r3, e_ref _ r4, e_ref _ r6, m_ref _ r1, m_ref _ r2, m_ref _ r3, m_ref _ r4, m_ref _ r6]) (by simp only [fX8_judge, m0, ups_id, ob1_s, ob2_s, ob3_s, ob4_s, nm_s, ↓reduceIte, i10, e_ref _ r1, e_ref _ r2, e_ref _ r3, e_ref _ r4, e_ref _ r6, m_ref _ r1, m_ref _ r2, m_ref _ r3, m_ref _ r4, m_ref _ r6])
theorem drawn_r (x m : Int32) (hm : m = 8 ∨ m = 10) : 0 ≤ (zrem ((x &&& 2147483647) / 256) m).toInt ∧ (zrem ((x &&& 2147483647) / 256) m).toInt < m.toInt := by
  obtain ⟨j, hj, e⟩ := pk_andE x (m := 2147483647) 31 (by decide)
  have h0 : 0 ≤ (x &&& 2147483647 : Int32).toInt := by rw [e, nI_toInt (by omega)]; omega
  have h1 : 0 ≤ ((x &&& 2147483647 : Int32) / 256).toInt := by rw [idv h0 (by decide)]; exact Int.ediv_nonneg h0 (by decide)
  rcases hm with rfl | rfl
  · rw [irm h1 (by decide)]
    exact ⟨Int.emod_nonneg _ (by decide), Int.emod_lt_of_pos _ (by decide)⟩
  · rw [irm h1 (by decide)]
    exact ⟨Int.emod_nonneg _ (by decide), Int.emod_lt_of_pos _ (by decide)⟩
theorem ss_seed {T : Nat} {B w : Nat → Nat → Int32} {g s : Nat → Int32} (h : SS T (ups B 0 g) w s) (a : Int32) : SS T (ups B 0 (ups g 36 a)) w s := h
theorem ss_veer {T : Nat} {B w : Nat → Nat → Int32} {g s : Nat → Int32} {x : Int32} (h : SS T (ups B 0 g) w s) (hx : D8 x) : SS T (ups B 0 (ups g 25 x)) w (ups s 14 x) := by
  obtain ⟨h1, h2, h3, h4, h5, h6, h7, h8, h9, h10⟩ := h
  refine ⟨h1, h2, ?_, h4, h5, h6, h7, h8, h9, h10⟩
  exact ⟨rfl, hx, h3.2.2⟩
theorem night_loop {M E w : Nat → Nat → Int32} {K : Nat → Int32} (hw : OW w) (hEw : sh 3 E = w) {N : Nat} (hN : N ≤ 99) : ∀ (f j T : Nat) (g s : Nat → Int32), T + (N - j) < 1000000 → j ≤ N → N < f + j → SS T (ups (ups (ups M 3 (M 3)) 11 K) 0 g) w s → ∃ (r : Int32) (g' s' : Nat → Int32), zl6 (fX8_night_50 M) f g (M 3) (M 9) K (nI N) (nI j) = ob2 (fX8_again (ups (ups (ups (ups M 0 g') 3 (M 3)) 9 (M 9)) 11 K)) (fun u6 u7 => some (r, u6, u7, M 9, K)) ∧ zl5 (fX7_night_58 E) f s (E 28) (nI N) (g 36) (nI j) = some (r, s', E 28) ∧ (∀ k, k < 13 ∨ k = 28 ∨ k = 31 → g' k = g k) := by
  intro f
  induction f with
  | zero => intro j T g s hT h1 h2 h; omega
  | succ f ih =>
    intro j T g s hT h1 h2 h
    show ∃ (r : Int32) (g' s' : Nat → Int32), fX8_night_50 M (zl6 (fX8_night_50 M) f) g (M 3) (M 9) K (nI N) (nI j) = ob2 (fX8_again (ups (ups (ups (ups M 0 g') 3 (M 3)) 9 (M 9)) 11 K)) (fun u6 u7 => some (r, u6, u7, M 9, K)) ∧ fX7_night_58 E (zl5 (fX7_night_58 E) f) s (E 28) (nI N) (g 36) (nI j) = some (r, s', E 28) ∧ (∀ k, k < 13 ∨ k = 28 ∨ k = 31 → g' k = g k)
    generalize hz1 : zl6 (fX8_night_50 M) f = Z1
    generalize hz2 : zl5 (fX7_night_58 E) f = Z2
    unfold fX8_night_50 fX7_night_58
    rw [hEw]
    by_cases c : j = N
    · subst c
      rw [if_pos (by rw [nI_leI (by omega) (by omega)]; omega), if_pos (by rw [nI_leI (by omega) (by omega)]; omega)]
      have hl : fX8_lives (ups (ups (ups (ups M 0 g) 3 (M 3)) 9 (M 9)) 11 K) = some (lvs w s) := by rw [bun4]; exact m_lives h.1 h.2.1
      rw [hl, ob1_s, e_lives, ob1_s]
      exact ⟨_, g, s, rfl, rfl, fun _ _ => rfl⟩
    · rw [if_neg (by rw [nI_leI (by omega) (by omega)]; omega), if_neg (by rw [nI_leI (by omega) (by omega)]; omega)]
      have dr : ∀ (g : Nat → Int32) (m : Int32), (m = 8 ∨ m = 10) → fX8_draw (ups (ups (ups (ups M 0 g) 3 (M 3)) 9 (M 9)) 11 K) m = some (zrem (((g 36 * 1664525 + 1013904223) &&& 2147483647) / 256) m, ups g 36 (g 36 * 1664525 + 1013904223)) := fun g m hm => by
        rcases hm with rfl | rfl <;> rfl
      have de : ∀ (x m : Int32), (m = 8 ∨ m = 10) → fX7_drawn x m = some (zrem ((x &&& 2147483647) / 256) m) := fun x m hm => by
        unfold fX7_drawn
        rcases hm with rfl | rfl
        · rw [if_neg (by decide), dv_s (by decide)]
        · rw [if_neg (by decide), dv_s (by decide)]
      have fin : ∀ (g2 s2 : Nat → Int32), SS T (ups (ups (ups M 3 (M 3)) 11 K) 0 g2) w s2 → (∀ k, k < 13 ∨ k = 28 ∨ k = 31 → g2 k = g k) → ∃ (r : Int32) (g' s' : Nat → Int32), fX8_night_82 M Z1 g2 (M 3) (M 9) K (nI N) (nI j) = ob2 (fX8_again (ups (ups (ups (ups M 0 g') 3 (M 3)) 9 (M 9)) 11 K)) (fun u6 u7 => some (r, u6, u7, M 9, K)) ∧ fX7_night_107 E Z2 s2 (E 28) (nI N) (g2 36) (nI j) = some (r, s', E 28) ∧ (∀ k, k < 13 ∨ k = 28 ∨ k = 31 → g' k = g k) := fun g2 s2 h2' hk => by
        obtain ⟨u, a1, a2, a3, a4, a5⟩ := ss_ten hw (by omega) h2'
        rw [ups2] at a3
        rw [ups_s] at a5
        unfold fX8_night_82 fX7_night_107
        rw [bun4, a1, hEw, a2, ob1_s, ob1_s, nI_1, ← hz1, ← hz2]
        obtain ⟨r, g', s', b1, b2, b3⟩ := ih (j + 1) (T + 1) u (ten w s2) (by omega) (by omega) (by omega) a3
        have e36 : u 36 = g2 36 := a5 36 (by omega)
        rw [e36] at b2
        exact ⟨r, g', s', b1, b2, fun k q => (b3 k q).trans ((a5 k (by omega)).trans (hk k q))⟩
      have sa : ∀ x : Int32, fX7_seedAfter x = some (x * 1664525 + 1013904223) := fun _ => rfl
      rw [dr g 10 (Or.inr rfl), ob2_s, sa, ob1_s, de _ 10 (Or.inr rfl), ob1_s]
      generalize hX : g 36 * 1664525 + 1013904223 = X
      by_cases c0 : zrem ((X &&& 2147483647) / 256) 10 = 0
      · rw [if_pos c0, if_pos c0, dr _ 8 (Or.inl rfl), ob2_s, sa, ob1_s, de _ 8 (Or.inl rfl), ob1_s]
        have x36 : ups g 36 X 36 = X := ups_s _ _ _
        rw [x36]
        have hr8 := drawn_r (X * 1664525 + 1013904223) 8 (Or.inl rfl)
        generalize hY : X * 1664525 + 1013904223 = Y at *
        generalize zrem ((Y &&& 2147483647) / 256) 8 = D at *
        have hd : D8 D := hr8
        have hs14 : D8 (s 14) := h.2.2.1.2.1
        have e25 : ups g 36 X 25 = s 14 := h.2.2.1.1
        have gr : fX7_goneRound (s 14 + D) = some ((s 14 + D) &&& 7) := rfl
        rw [gr, ob1_s, e25, d8_add hs14 hd]
        have s2 := ss_veer (x := (s 14 + D) &&& 7) (ss_seed (ss_seed h X) Y) (and7 _)
        exact fin _ _ s2 (fun k q => (ups_n _ _ _ _ (by omega)).trans ((ups_n _ _ _ _ (by omega)).trans (ups_n _ _ _ _ (by omega))))
      · rw [if_neg c0, if_neg c0]
        exact fin _ _ (ss_seed h X) (fun k q => ups_n _ _ _ _ (by omega))
theorem sim_night {n : Nat} {E M : Nat → Nat → Int32} (hn : n < 1000) (h : zR n E M) (a0 : Int32) (a1 : Int32) : ∃ (r : Int32) (c13 : Nat → Int32) (c28 : Nat → Int32) (d0 : Nat → Int32) (d3 : Nat → Int32) (d9 : Nat → Int32) (d11 : Nat → Int32), fX7_night E a0 a1 = some (r, c13, c28) ∧ fX8_night M a0 a1 = some (r, d0, d3, d9, d11) ∧ zR (n + 1) (ups (ups E 13 c13) 28 c28) (ups (ups (ups (ups M 0 d0) 3 d3) 9 d9) 11 d11) := by
  have ref : ∀ r : Int32, isRef r → fX7_night E a0 a1 = some (r, E 13, rf1 (E 28) r) → fX8_night M a0 a1 = some (r, M 0, M 3, rf1 (M 9) r, M 11) → ∃ (r : Int32) (c13 : Nat → Int32) (c28 : Nat → Int32) (d0 : Nat → Int32) (d3 : Nat → Int32) (d9 : Nat → Int32) (d11 : Nat → Int32), fX7_night E a0 a1 = some (r, c13, c28) ∧ fX8_night M a0 a1 = some (r, d0, d3, d9, d11) ∧ zR (n + 1) (ups (ups E 13 c13) 28 c28) (ups (ups (ups (ups M 0 d0) 3 d3) 9 d9) 11 d11) := fun r hr e1 e2 => ⟨r, _, _, _, _, _, _, e1, e2, by first | exact zR_ref h r | (simp only [ups_id]; exact zR_ref h r)⟩
  have c1 : (1 : Int32) ≤ a0 ∨ ¬ (1 : Int32) ≤ a0 := Classical.em _
  rcases c1 with c1 | c1
  · by_cases c2 : a0 ≤ 99
    · by_cases e : E 12 0 = 1
      · have hs := zR_SS h e
        have hw := h.2.1
        have hid := h.2.2.2.2.1.2.2.2.2.2.1
        have ho := hs.2.2.2.2.1
        have n0 : ¬ E 12 0 = 0 := by rw [e]; decide
        have m0 : ¬ M 0 12 = 0 := by rw [hs.2.2.2.2.2.2.2.2.2]; decide
        have hcp := e_cpy (E 13) (s := E 12) (Or.inr e) ho.2.2.2.2.2.2.2.2.2.1 (Or.inl hid.1)
        obtain ⟨K, k1, k2⟩ := m_keep M
        have q1 : (1 : Int) ≤ a0.toInt := ile.mp c1
        have q2 : a0.toInt ≤ (99 : Int) := ile.mp c2
        have eN : a0 = nI a0.toInt.toNat := nI_of' (by omega)
        have s1 : SS (100 * n) (ups (ups (ups M 3 (M 3)) 11 K) 0 (ups (M 0) 36 a1)) (sh 3 E) (cpy (E 13) (E 12)) := ss_seed ((GR.ss (K := K) hs hid (Or.inr rfl)).ext (cpy_at (E 13) (E 12))) a1
        obtain ⟨r, g', s', y1, y2, y3⟩ := night_loop (M := M) (E := E) (K := K) hw rfl (N := a0.toInt.toNat) (by omega) zFU 0 (100 * n) _ _ (by omega) (by omega) (by unfold zFU; omega) s1
        rw [nI_0, ← eN] at y1 y2
        rw [ups_s] at y2
        obtain ⟨u, z1, z2⟩ := again4 (g := g') (d := M 3) k2 (fun k q => (y3 k q).trans (ups_n _ _ _ _ (by omega))) (fun _ _ => rfl)
        have e1 : fX7_night E a0 a1 = some (r, s', E 28) := by
          unfold fX7_night
          rw [if_pos c1, if_pos c2, if_neg n0, hcp, ob1_s, y2]
        have e2 : fX8_night M a0 a1 = some (r, u, M 3, M 9, K) := by
          unfold fX8_night
          rw [if_pos c1, if_pos c2, if_neg m0]
          simp only [ups_id]
          rw [k1, ob1_s, y1, z1, ob2_s]
        refine ⟨_, _, _, _, _, _, _, e1, e2, ?_⟩
        rw [ups_idn (by decide), ups_idn (by decide), ups_idn (by decide)]
        exact zR_mind h e z2
      · have e0 : E 12 0 = 0 := h.2.2.2.2.1.2.1.resolve_right e
        have m0 : M 0 12 = 0 := h.2.2.2.2.1.1.trans e0
        exact ref (-3) r3 (by simp only [fX7_night, c1, c2, e0, ups_id, ob1_s, ob2_s, ob3_s, ob4_s, nm_s, ↓reduceIte, i10, e_ref _ r1, e_ref _ r2, e_ref _ r3, e_ref _ r4, e_ref _ r6, m_ref _ r1, m_ref _ r2, m_ref _ r3, m_ref _ r4, m_ref _ r6]) (by simp only [fX8_night, c1, c2, m0, ups_id, ob1_s, ob2_s, ob3_s, ob4_s, nm_s, ↓reduceIte, i10, e_ref _ r1, e_ref _ r2, e_ref _ r3, e_ref _ r4, e_ref _ r6, m_ref _ r1, m_ref _ r2, m_ref _ r3, m_ref _ r4, m_ref _ r6])
    · exact ref (-6) r6 (by simp only [fX7_night, c1, c2, ups_id, ob1_s, ob2_s, ob3_s, ob4_s, nm_s, ↓reduceIte, i10, e_ref _ r1, e_ref _ r2, e_ref _ r3, e_ref _ r4, e_ref _ r6, m_ref _ r1, m_ref _ r2, m_ref _ r3, m_ref _ r4, m_ref _ r6]) (by simp only [fX8_night, c1, c2, ups_id, ob1_s, ob2_s, ob3_s, ob4_s, nm_s, ↓reduceIte, i10, e_ref _ r1, e_ref _ r2, e_ref _ r3, e_ref _ r4, e_ref _ r6, m_ref _ r1, m_ref _ r2, m_ref _ r3, m_ref _ r4, m_ref _ r6])
  · exact ref (-4) r4 (by simp only [fX7_night, c1, ups_id, ob1_s, ob2_s, ob3_s, ob4_s, nm_s, ↓reduceIte, i10, e_ref _ r1, e_ref _ r2, e_ref _ r3, e_ref _ r4, e_ref _ r6, m_ref _ r1, m_ref _ r2, m_ref _ r3, m_ref _ r4, m_ref _ r6]) (by simp only [fX8_night, c1, ups_id, ob1_s, ob2_s, ob3_s, ob4_s, nm_s, ↓reduceIte, i10, e_ref _ r1, e_ref _ r2, e_ref _ r3, e_ref _ r4, e_ref _ r6, m_ref _ r1, m_ref _ r2, m_ref _ r3, m_ref _ r4, m_ref _ r6])
theorem ss_told {T : Nat} {B w : Nat → Nat → Int32} {g s : Nat → Int32} {v d : Int32} (h : SS T (ups B 0 g) w s) (hv : 0 ≤ v.toInt) (hd : D8 d) : SS T (ups B 0 (ups (ups g 26 v) 27 d)) w (ups (ups s 15 v) 16 d) := by
  obtain ⟨h1, h2, h3, h4, h5, h6, h7, h8, h9, h10⟩ := h
  refine ⟨h1, h2, ?_, h4, h5, h6, h7, h8, h9, h10⟩
  exact ⟨h3.1, h3.2.1, h3.2.2.1, Or.inr ⟨hv, rfl, rfl, hd⟩⟩
theorem sim_worth {n : Nat} {E M : Nat → Nat → Int32} (hn : n < 1000) (h : zR n E M) (a0 : Int32) (a1 : Int32) : ∃ (r : Int32) (c13 : Nat → Int32) (c28 : Nat → Int32) (d0 : Nat → Int32) (d3 : Nat → Int32) (d9 : Nat → Int32) (d11 : Nat → Int32), fX7_worth E a0 a1 = some (r, c13, c28) ∧ fX8_worth M a0 a1 = some (r, d0, d3, d9, d11) ∧ zR (n + 1) (ups (ups E 13 c13) 28 c28) (ups (ups (ups (ups M 0 d0) 3 d3) 9 d9) 11 d11) := by
  have ref : ∀ r : Int32, isRef r → fX7_worth E a0 a1 = some (r, E 13, rf1 (E 28) r) → fX8_worth M a0 a1 = some (r, M 0, M 3, rf1 (M 9) r, M 11) → ∃ (r : Int32) (c13 : Nat → Int32) (c28 : Nat → Int32) (d0 : Nat → Int32) (d3 : Nat → Int32) (d9 : Nat → Int32) (d11 : Nat → Int32), fX7_worth E a0 a1 = some (r, c13, c28) ∧ fX8_worth M a0 a1 = some (r, d0, d3, d9, d11) ∧ zR (n + 1) (ups (ups E 13 c13) 28 c28) (ups (ups (ups (ups M 0 d0) 3 d3) 9 d9) 11 d11) := fun r hr e1 e2 => ⟨r, _, _, _, _, _, _, e1, e2, by first | exact zR_ref h r | (simp only [ups_id]; exact zR_ref h r)⟩
  have far : ∀ r : Int32, isRef r → fX7_worth E a0 a1 = some (1000000000 - r, E 13, rf1 (E 28) r) → fX8_worth M a0 a1 = some (1000000000 - r, M 0, M 3, rf1 (M 9) r, M 11) → ∃ (r : Int32) (c13 : Nat → Int32) (c28 : Nat → Int32) (d0 : Nat → Int32) (d3 : Nat → Int32) (d9 : Nat → Int32) (d11 : Nat → Int32), fX7_worth E a0 a1 = some (r, c13, c28) ∧ fX8_worth M a0 a1 = some (r, d0, d3, d9, d11) ∧ zR (n + 1) (ups (ups E 13 c13) 28 c28) (ups (ups (ups (ups M 0 d0) 3 d3) 9 d9) 11 d11) := fun r hr e1 e2 => by
    refine ⟨_, _, _, _, _, _, _, e1, e2, ?_⟩
    simp only [ups_id]
    have : ups (ups M 9 (rf1 (M 9) r)) 11 (M 11) = ups M 9 (rf1 (M 9) r) := ups_idn (by decide)
    rw [this]
    exact zR_ref h r
  by_cases cd : D8 a1
  · have d1 := e_dir cd
    have d2 := m_dir cd
    by_cases c1 : (0 : Int32) ≤ a0
    · by_cases c2 : a0 < 30
      · have c2' : a0 ≤ 29 := by
          have q2 : a0.toInt < (30 : Int) := ilt.mp c2
          exact ile.mpr (show a0.toInt ≤ (29 : Int) by omega)
        by_cases e : E 12 0 = 1
        · have hs := zR_SS h e
          have hw := h.2.1
          have hid := h.2.2.2.2.1.2.2.2.2.2.1
          have ho := hs.2.2.2.2.1
          have n0 : ¬ E 12 0 = 0 := by rw [e]; decide
          have m0 : ¬ M 0 12 = 0 := by rw [hs.2.2.2.2.2.2.2.2.2]; decide
          obtain ⟨K, k1, k2⟩ := m_keep M
          have q1 : (0 : Int) ≤ a0.toInt := ile.mp c1
          have q2 : a0.toInt ≤ (29 : Int) := ile.mp c2'
          obtain ⟨t1, t2⟩ := h.2.2.2.2.1.2.2.2.2.2.2
          have ev : (E 12 9 + a0).toInt = (E 12 9).toInt + a0.toInt := by rw [ia] <;> omega
          have hcp := e_cpy (E 13) (s := E 12) (Or.inr e) ho.2.2.2.2.2.2.2.2.2.1 (Or.inl hid.1)
          have k30 : (30 : Int32) = nI 30 := rfl
          have hB : ∀ g : Nat → Int32, ups (ups (ups (ups M 0 g) 3 (M 3)) 9 (M 9)) 11 K = ups (ups (ups M 3 (M 3)) 11 K) 0 g := fun g => bun4
          obtain ⟨A, hA⟩ : ∃ A, tens (sh 3 E) 30 (ups (ups (cpy (E 13) (E 12)) 15 (E 12 9 + a0)) 16 a1) = A := ⟨_, rfl⟩
          have hcp2 := e_cpy A (s := E 12) (Or.inr e) ho.2.2.2.2.2.2.2.2.2.1 (Or.inl hid.1)
          have s1 : SS (100 * n) (ups (ups (ups M 3 (M 3)) 11 K) 0 (M 0)) (sh 3 E) (cpy A (E 12)) := (GR.ss (K := K) hs hid (Or.inr rfl)).ext (cpy_at A (E 12))
          obtain ⟨V1, hV1⟩ : ∃ V1, lvs (sh 3 E) (tens (sh 3 E) 30 (cpy A (E 12))) = V1 := ⟨_, rfl⟩
          obtain ⟨g1, y1, y2, y3, y4⟩ := m_tens (w := sh 3 E) (B := ups (ups M 3 (M 3)) 11 K) hw (N := 30) (by decide) (fun F G i => zl7 (fX8_worth_69 M) F G (M 3) (M 9) K a0 a1 i) (fun G => ob1 (fX8_lives (ups (ups (ups (ups M 0 G) 3 (M 3)) 9 (M 9)) 11 K)) (fun r6 => ob2 (fX8_again (ups (ups (ups (ups M 0 G) 3 (M 3)) 9 (M 9)) 11 K)) (fun u8 u9 => zl6 (fX8_worth_112 M) zFU (ups (ups u8 26 (u8 21 + a0)) 27 a1) u9 (M 9) K r6 0))) (fun F G i => by
            show fX8_worth_69 M (zl7 (fX8_worth_69 M) F) G (M 3) (M 9) K a0 a1 i = _
            unfold fX8_worth_69
            rw [← hB G]
            rfl) zFU 0 (100 * n) _ _ (by omega) (by omega) (by unfold zFU; omega) s1
          have y1' : zl7 (fX8_worth_69 M) zFU (M 0) (M 3) (M 9) K a0 a1 0 = ob1 (fX8_lives (ups (ups (ups (ups M 0 g1) 3 (M 3)) 9 (M 9)) 11 K)) (fun r6 => ob2 (fX8_again (ups (ups (ups (ups M 0 g1) 3 (M 3)) 9 (M 9)) 11 K)) (fun u8 u9 => zl6 (fX8_worth_112 M) zFU (ups (ups u8 26 (u8 21 + a0)) 27 a1) u9 (M 9) K r6 0)) := y1
          rw [Nat.sub_zero] at y2 y3
          obtain ⟨u1, z1, z2⟩ := again4 (d := M 3) k2 y4.k (fun _ _ => rfl)
          have hl1 : fX8_lives (ups (ups (ups (ups M 0 g1) 3 (M 3)) 9 (M 9)) 11 K) = some V1 := by rw [hB, ← hV1]; exact m_lives y2.1 y2.2.1
          have e21 : u1 21 = E 12 9 := (z2.1 21 (by omega) (by omega)).trans hs.2.1.2.2.2.2.2.2.2.2.1
          have s2 : SS (100 * n) (ups (ups (ups M 3 (M 3)) 11 K) 0 (ups (ups u1 26 (E 12 9 + a0)) 27 a1)) (sh 3 E) (ups (ups (cpy (E 13) (E 12)) 15 (E 12 9 + a0)) 16 a1) := ss_told ((GR.ss (K := K) hs hid (Or.inl z2)).ext (cpy_at (E 13) (E 12))) (by rw [ev]; omega) cd
          obtain ⟨g2, v1, v2, v3, v4⟩ := m_tens (w := sh 3 E) (B := ups (ups M 3 (M 3)) 11 K) hw (N := 30) (by decide) (fun F G i => zl6 (fX8_worth_112 M) F G (M 3) (M 9) K V1 i) (fun G => ob1 (fX8_lives (ups (ups (ups (ups M 0 G) 3 (M 3)) 9 (M 9)) 11 K)) (fun r11 => ob2 (fX8_again (ups (ups (ups (ups M 0 G) 3 (M 3)) 9 (M 9)) 11 K)) (fun u13 u14 => some (r11 - V1, u13, u14, M 9, K)))) (fun F G i => by
            show fX8_worth_112 M (zl6 (fX8_worth_112 M) F) G (M 3) (M 9) K _ i = _
            unfold fX8_worth_112
            rw [← hB G]
            rfl) zFU 0 (100 * n) _ _ (by omega) (by omega) (by unfold zFU; omega) s2
          have v1' : zl6 (fX8_worth_112 M) zFU (ups (ups u1 26 (E 12 9 + a0)) 27 a1) (M 3) (M 9) K V1 0 = ob1 (fX8_lives (ups (ups (ups (ups M 0 g2) 3 (M 3)) 9 (M 9)) 11 K)) (fun r11 => ob2 (fX8_again (ups (ups (ups (ups M 0 g2) 3 (M 3)) 9 (M 9)) 11 K)) (fun u13 u14 => some (r11 - V1, u13, u14, M 9, K))) := v1
          rw [Nat.sub_zero, hA] at v2 v3
          have kf2 : ∀ k, k < 13 ∨ k = 28 ∨ k = 31 → g2 k = M 0 k := fun k hk => (v4 k (by omega)).trans ((ups_n _ _ _ _ (by omega)).trans ((ups_n _ _ _ _ (by omega)).trans (z2.2.2.2.2 k hk)))
          obtain ⟨u2, x1, x2⟩ := again4 (d := M 3) k2 kf2 (fun _ _ => rfl)
          have hl2 : fX8_lives (ups (ups (ups (ups M 0 g2) 3 (M 3)) 9 (M 9)) 11 K) = some (lvs (sh 3 E) A) := by rw [hB]; exact m_lives v2.1 v2.2.1
          have e2 : fX8_worth M a0 a1 = some (lvs (sh 3 E) A - V1, u2, M 3, M 9, K) := by
            unfold fX8_worth
            rw [d2, ob1_s, if_neg (by decide), if_pos c1, if_pos c2', if_neg m0]
            simp only [ups_id]
            rw [k1, ob1_s, y1', hl1, ob1_s, z1, ob2_s, e21, v1', hl2, ob1_s, x1, ob2_s]
          have et1 := e_tens (w := sh 3 E) (B := ups (ups M 3 (M 3)) 11 K) hw (N := 30) (by decide) (by omega) s2
          rw [hA] at et1
          have et2 := e_tens (w := sh 3 E) (B := ups (ups M 3 (M 3)) 11 K) hw (N := 30) (by decide) (by omega) s1
          have e1 : fX7_worth E a0 a1 = some (lvs (sh 3 E) A - V1, tens (sh 3 E) 30 (cpy A (E 12)), E 28) := by
            unfold fX7_worth
            rw [d1, ob1_s, if_neg (by decide), if_pos c1, if_pos c2, if_neg n0, hcp, ob1_s, k30, et1, ob1_s, e_lives, ob1_s, hcp2, ob1_s, et2, ob1_s, e_lives, ob1_s, hV1]
          refine ⟨_, _, _, _, _, _, _, e1, e2, ?_⟩
          rw [ups_idn (by decide), ups_idn (by decide), ups_idn (by decide)]
          exact zR_mind h e x2
        · have e0 : E 12 0 = 0 := h.2.2.2.2.1.2.1.resolve_right e
          have m0 : M 0 12 = 0 := h.2.2.2.2.1.1.trans e0
          exact far (-3) r3 (by simp only [fX7_worth, d1, c1, c2, e0, ups_id, ob1_s, ob2_s, ob3_s, ob4_s, nm_s, ↓reduceIte, i10, e_ref _ r1, e_ref _ r2, e_ref _ r3, e_ref _ r4, e_ref _ r6, m_ref _ r1, m_ref _ r2, m_ref _ r3, m_ref _ r4, m_ref _ r6]) (by simp only [fX8_worth, d2, c1, c2', m0, ups_id, ob1_s, ob2_s, ob3_s, ob4_s, nm_s, ↓reduceIte, i10, e_ref _ r1, e_ref _ r2, e_ref _ r3, e_ref _ r4, e_ref _ r6, m_ref _ r1, m_ref _ r2, m_ref _ r3, m_ref _ r4, m_ref _ r6])
      · have c2' : ¬ a0 ≤ 29 := fun q => by
          have q2 : a0.toInt ≤ (29 : Int) := ile.mp q
          exact c2 (ilt.mpr (show a0.toInt < (30 : Int) by omega))
        exact far (-6) r6 (by simp only [fX7_worth, d1, c1, c2, ups_id, ob1_s, ob2_s, ob3_s, ob4_s, nm_s, ↓reduceIte, i10, e_ref _ r1, e_ref _ r2, e_ref _ r3, e_ref _ r4, e_ref _ r6, m_ref _ r1, m_ref _ r2, m_ref _ r3, m_ref _ r4, m_ref _ r6]) (by simp only [fX8_worth, d2, c1, c2', ups_id, ob1_s, ob2_s, ob3_s, ob4_s, nm_s, ↓reduceIte, i10, e_ref _ r1, e_ref _ r2, e_ref _ r3, e_ref _ r4, e_ref _ r6, m_ref _ r1, m_ref _ r2, m_ref _ r3, m_ref _ r4, m_ref _ r6])
    · exact far (-4) r4 (by simp only [fX7_worth, d1, c1, ups_id, ob1_s, ob2_s, ob3_s, ob4_s, nm_s, ↓reduceIte, i10, e_ref _ r1, e_ref _ r2, e_ref _ r3, e_ref _ r4, e_ref _ r6, m_ref _ r1, m_ref _ r2, m_ref _ r3, m_ref _ r4, m_ref _ r6]) (by simp only [fX8_worth, d2, c1, ups_id, ob1_s, ob2_s, ob3_s, ob4_s, nm_s, ↓reduceIte, i10, e_ref _ r1, e_ref _ r2, e_ref _ r3, e_ref _ r4, e_ref _ r6, m_ref _ r1, m_ref _ r2, m_ref _ r3, m_ref _ r4, m_ref _ r6])
  · have d1 := e_dir0 cd
    have d2 := m_dir0 cd
    exact far (-1) r1 (by simp only [fX7_worth, d1, ups_id, ob1_s, ob2_s, ob3_s, ob4_s, nm_s, ↓reduceIte, i10, e_ref _ r1, e_ref _ r2, e_ref _ r3, e_ref _ r4, e_ref _ r6, m_ref _ r1, m_ref _ r2, m_ref _ r3, m_ref _ r4, m_ref _ r6]) (by simp only [fX8_worth, d2, ups_id, ob1_s, ob2_s, ob3_s, ob4_s, nm_s, ↓reduceIte, i10, e_ref _ r1, e_ref _ r2, e_ref _ r3, e_ref _ r4, e_ref _ r6, m_ref _ r1, m_ref _ r2, m_ref _ r3, m_ref _ r4, m_ref _ r6])
