/-! light -/
theorem walk {M w : Nat → Nat → Int32} {s7 : Int32 → Int32 → Int32 → Option Int32} {s38 : Int32 → Int32 → Int32 → Int32 → Int32 → Option Int32} (hr : RW M w) (hw : OW w) {c d x1 x2 : Int32} (hc : CellOk w c) (hd : D8 d) : ∀ (k i f f2 s a : Nat) (q : Int32), i + k = 8 → Pos w c d i q → k + 1 ≤ f → k + 1 ≤ f2 → ∃ t : Nat, t ≤ k ∧ zl4 (fX1_seaSeenBy_13 (sh 1 w)) f d (nI s) q (nI i) = some (nI (s + t)) ∧ zl6 (fX8_light_54 M s7 s38) f2 x1 x2 c (nI a) d (if q = -1 then -9 else q) = s38 x1 x2 c (nI (a + t)) (d + 1) := by
  intro k
  induction k with
  | zero =>
    intro i f f2 s a q hi hp hf hf2
    obtain ⟨f', rfl⟩ : ∃ f', f = f' + 1 := ⟨f - 1, by omega⟩
    obtain ⟨f2', rfl⟩ : ∃ f2', f2 = f2' + 1 := ⟨f2 - 1, by omega⟩
    have i8 : i = 8 := by omega
    subst i8
    have q1 := pos_8 hw.1 hc hd hp
    refine ⟨0, Nat.le_refl _, ?_, ?_⟩
    · show fX1_seaSeenBy_13 (sh 1 w) (zl4 (fX1_seaSeenBy_13 (sh 1 w)) f') d (nI s) q (nI 8) = _
      generalize zl4 (fX1_seaSeenBy_13 (sh 1 w)) f' = Z
      unfold fX1_seaSeenBy_13
      rw [if_pos (by decide)]
      rfl
    · show fX8_light_54 M s7 s38 (zl6 (fX8_light_54 M s7 s38) f2') x1 x2 c (nI a) d (if q = -1 then -9 else q) = _
      generalize zl6 (fX8_light_54 M s7 s38) f2' = Z
      unfold fX8_light_54 fX8_light_97
      rw [if_pos q1, if_pos (by decide)]
      rfl
  | succ k ih =>
    intro i f f2 s a q hi hp hf hf2
    obtain ⟨f', rfl⟩ : ∃ f', f = f' + 1 := ⟨f - 1, by omega⟩
    obtain ⟨f2', rfl⟩ : ∃ f2', f2 = f2' + 1 := ⟨f2 - 1, by omega⟩
    show ∃ t : Nat, t ≤ k + 1 ∧ fX1_seaSeenBy_13 (sh 1 w) (zl4 (fX1_seaSeenBy_13 (sh 1 w)) f') d (nI s) q (nI i) = some (nI (s + t)) ∧ fX8_light_54 M s7 s38 (zl6 (fX8_light_54 M s7 s38) f2') x1 x2 c (nI a) d (if q = -1 then -9 else q) = s38 x1 x2 c (nI (a + t)) (d + 1)
    have ih2 := fun s a q => ih (i + 1) f' f2' s a q (by omega)
    generalize zl4 (fX1_seaSeenBy_13 (sh 1 w)) f' = Z1 at *
    generalize zl6 (fX8_light_54 M s7 s38) f2' = Z2 at *
    have n8 : ¬ (8 : Int32) ≤ nI i := by
      have k8 : (8 : Int32) = nI 8 := rfl
      rw [k8, nI_leI (by omega) (by omega)]; omega
    unfold fX1_seaSeenBy_13 fX1_seaSeenBy_52 fX8_light_54 fX8_light_84 fX8_light_97
    rw [if_neg n8]
    rcases hp with q1 | ⟨h0, h1, h2⟩
    · refine ⟨0, Nat.zero_le _, ?_, ?_⟩
      · rw [if_pos q1]; rfl
      · rw [if_pos q1, if_pos (by decide)]; rfl
    · have q1 : ¬ q = -1 := fun e => by rw [e] at h0; exact absurd h0.1 (by decide)
      have hb : M 1 = w 2 := hr.2.2.2.2.1
      have hg := hw.2.1 q.toNatClampNeg
      rw [if_neg q1, if_neg q1, if_neg (nn' h0.1), e_ground hw.1 h0, ob1_s, hb, gd_s (cell_in hw.1 h0), gd_s (cell_in hw.1 h0)]
      have be : fX1_beside (sh 1 w) q d = some (nbr (w 1 1) (w 1 2) q d) := e_beside hw.1 h0 hd
      have bm := m_beside hr hw.1 h0 hd
      have hn := pos_next hw.1 hd h0 h1 h2
      by_cases c0 : w 2 q.toNatClampNeg = 0
      · refine ⟨0, Nat.zero_le _, ?_, ?_⟩
        · rw [if_pos c0]; rfl
        · rw [if_pos c0]; rfl
      · rw [if_neg c0, if_neg c0, ob1_s, be, bm, ob1_s, ob1_s]
        unfold fX7_isSea
        rcases hg with g | g | g
        · exact absurd g c0
        · rw [g, if_neg (by decide), if_pos (by decide), if_pos (by decide), ob1_s, if_pos rfl, nI_1]
          obtain ⟨t, t1, t2, t3⟩ := ih2 s a _ hn (by omega) (by omega)
          exact ⟨t, by omega, t2, t3⟩
        · have p0 : ¬ w 2 q.toNatClampNeg ≤ 0 := fun e => by have := ile.mp e; have k0 : (0 : Int32).toInt = 0 := rfl; have := g.1; omega
          have p20 : ¬ (20 : Int32) < w 2 q.toNatClampNeg := fun e => by have := ilt.mp e; have k0 : (20 : Int32).toInt = 20 := rfl; have := g.2; omega
          have p30 : ¬ (30 : Int32) ≤ w 2 q.toNatClampNeg := fun e => by have := ile.mp e; have k0 : (30 : Int32).toInt = 30 := rfl; have := g.2; omega
          rw [if_neg p0, if_neg p20, if_neg p30, ob1_s, if_neg (by decide), nI_1, nI_1, nI_1]
          obtain ⟨t, t1, t2, t3⟩ := ih2 (s + 1) (a + 1) _ hn (by omega) (by omega)
          refine ⟨t + 1, by omega, ?_, ?_⟩
          · rw [t2]
            have : s + 1 + t = s + (t + 1) := by omega
            rw [this]
          · rw [ob1_s, t3]
            have : a + 1 + t = a + (t + 1) := by omega
            rw [this]
theorem seen_by {M w : Nat → Nat → Int32} {s7 : Int32 → Int32 → Int32 → Option Int32} {s38 : Int32 → Int32 → Int32 → Int32 → Int32 → Option Int32} (hr : RW M w) (hw : OW w) {c d x1 x2 : Int32} (hc : CellOk w c) (hd : D8 d) (a : Nat) : ∃ t : Nat, t ≤ 7 ∧ fX1_seaSeenBy (sh 1 w) c d = some (nI t) ∧ ob1 (fX8_beside M c d) (fun r3 => zl6 (fX8_light_54 M s7 s38) zFU x1 x2 c (nI a) d r3) = s38 x1 x2 c (nI (a + t)) (d + 1) := by
  have be : fX1_beside (sh 1 w) c d = some (nbr (w 1 1) (w 1 2) c d) := e_beside hw.1 hc hd
  have bm := m_beside hr hw.1 hc hd
  have hn : Pos w c d 1 (nbr (w 1 1) (w 1 2) c d) := pos_next (i := 0) hw.1 hd hc (by simp) (by simp)
  obtain ⟨t, t1, t2, t3⟩ := walk (s7 := s7) (s38 := s38) (x1 := x1) (x2 := x2) hr hw hc hd 7 1 zFU zFU 0 a _ (by omega) hn (by unfold zFU; omega) (by unfold zFU; omega)
  refine ⟨t, t1, ?_, ?_⟩
  · unfold fX1_seaSeenBy
    rw [be, ob1_s]
    have e0 : nI 0 = (0 : Int32) := rfl
    have e1 : nI 1 = (1 : Int32) := rfl
    rw [e0, e1] at t2
    rw [t2, Nat.zero_add]
  · rw [bm, ob1_s, t3]
theorem seen_all {M w : Nat → Nat → Int32} {s7 : Int32 → Int32 → Int32 → Option Int32} (hr : RW M w) (hw : OW w) {c x1 x2 : Int32} (hc : CellOk w c) : ∀ (k j f f2 a : Nat), j + k = 8 → k + 1 ≤ f → k + 1 ≤ f2 → ∃ t : Nat, t ≤ 7 * k ∧ zl3 (fX1_seaSeenFrom_4 (sh 1 w)) f c (nI a) (nI j) = some (nI (a + t)) ∧ zl5 (fX8_light_38 M s7) f2 x1 x2 c (nI a) (nI j) = (if x2 < nI (a + t) then fX8_light_117 M s7 c (nI (a + t)) c else fX8_light_117 M s7 x1 x2 c) := by
  have k8 : (8 : Int32) = nI 8 := rfl
  intro k
  induction k with
  | zero =>
    intro j f f2 a hj hf hf2
    obtain ⟨f', rfl⟩ : ∃ f', f = f' + 1 := ⟨f - 1, by omega⟩
    obtain ⟨f2', rfl⟩ : ∃ f2', f2 = f2' + 1 := ⟨f2 - 1, by omega⟩
    have j8 : j = 8 := by omega
    subst j8
    refine ⟨0, Nat.le_refl _, ?_, ?_⟩
    · show fX1_seaSeenFrom_4 (sh 1 w) (zl3 (fX1_seaSeenFrom_4 (sh 1 w)) f') c (nI a) (nI 8) = _
      generalize zl3 (fX1_seaSeenFrom_4 (sh 1 w)) f' = Z
      unfold fX1_seaSeenFrom_4
      rw [if_pos (by decide)]
      rfl
    · show fX8_light_38 M s7 (zl5 (fX8_light_38 M s7) f2') x1 x2 c (nI a) (nI 8) = _
      generalize zl5 (fX8_light_38 M s7) f2' = Z
      unfold fX8_light_38
      rw [if_pos (by decide)]
      rfl
  | succ k ih =>
    intro j f f2 a hj hf hf2
    obtain ⟨f', rfl⟩ : ∃ f', f = f' + 1 := ⟨f - 1, by omega⟩
    obtain ⟨f2', rfl⟩ : ∃ f2', f2 = f2' + 1 := ⟨f2 - 1, by omega⟩
    have hd : D8 (nI j) := by unfold D8; rw [nI_toInt (by omega)]; omega
    have n8 : ¬ (8 : Int32) ≤ nI j := by rw [k8, nI_leI (by omega) (by omega)]; omega
    obtain ⟨t, t1, t2, t3⟩ := seen_by (s7 := s7) (s38 := zl5 (fX8_light_38 M s7) f2') (x1 := x1) (x2 := x2) hr hw hc hd a
    obtain ⟨t', u1, u2, u3⟩ := ih (j + 1) f' f2' (a + t) (by omega) (by omega) (by omega)
    refine ⟨t + t', by omega, ?_, ?_⟩
    · show fX1_seaSeenFrom_4 (sh 1 w) (zl3 (fX1_seaSeenFrom_4 (sh 1 w)) f') c (nI a) (nI j) = _
      generalize zl3 (fX1_seaSeenFrom_4 (sh 1 w)) f' = Z at *
      unfold fX1_seaSeenFrom_4
      rw [if_neg n8, t2, ob1_s, nI_1, nI_add, u2, Nat.add_assoc]
    · show fX8_light_38 M s7 (zl5 (fX8_light_38 M s7) f2') x1 x2 c (nI a) (nI j) = _
      rw [nI_1] at t3
      rw [← Nat.add_assoc, ← u3, ← t3]
      generalize zl5 (fX8_light_38 M s7) f2' = Z at *
      unfold fX8_light_38
      rw [if_neg n8]
theorem light_loop {M E : Nat → Nat → Int32} (hr : RW M (sh 3 E)) (hw : OW (sh 3 E)) {N : Nat} (hN : N ≤ 64) (hc : sh 3 E 1 1 * sh 3 E 1 2 = nI N) (hcell : ∀ j, j < N → CellOk (sh 3 E) (nI j)) : ∀ (f j : Nat) (b v : Int32), -1 ≤ v.toInt → j ≤ N → N < f + j → ∃ r, zl3 (fX7_light_7 E) f b v (nI j) = some r ∧ zl3 (fX8_light_7 M) f b v (nI j) = some r := by
  have hcm : M 0 0 * M 0 1 = nI N := by rw [hr.1, hr.2.1]; exact hc
  have hcw : fX1_cells (sh 4 E) = some (nI N) := by unfold fX1_cells; rw [← hc]; rfl
  have hb : M 1 = sh 3 E 2 := hr.2.2.2.2.1
  intro f
  induction f with
  | zero => intro j b v hv h1 h2; omega
  | succ f ih =>
    intro j b v hv h1 h2
    show ∃ r, fX7_light_7 E (zl3 (fX7_light_7 E) f) b v (nI j) = some r ∧ fX8_light_7 M (zl3 (fX8_light_7 M) f) b v (nI j) = some r
    by_cases c : j = N
    · subst c
      generalize zl3 (fX7_light_7 E) f = Z1 at *
      generalize zl3 (fX8_light_7 M) f = Z2 at *
      unfold fX7_light_7 fX8_light_7
      rw [hcm, hcw, ob1_s, if_pos (by rw [nI_leI (by omega) (by omega)]; omega), if_pos (by rw [nI_leI (by omega) (by omega)]; omega)]
      exact ⟨b, rfl, rfl⟩
    · have hok := hcell j (by omega)
      obtain ⟨t, t1, t2, t3⟩ := seen_all (s7 := zl3 (fX8_light_7 M) f) (x1 := b) (x2 := v) hr hw hok 8 0 zFU zFU 0 (by omega) (by unfold zFU; omega) (by unfold zFU; omega)
      have i2 := fun b v hv => ih (j + 1) b v hv (by omega) (by omega)
      generalize zl3 (fX7_light_7 E) f = Z1 at *
      generalize zl3 (fX8_light_7 M) f = Z2 at *
      have e0 : nI 0 = (0 : Int32) := rfl
      rw [e0] at t2 t3
      rw [Nat.zero_add] at t2 t3
      unfold fX8_light_117 at t3
      rw [nI_1] at t3
      have t2' : fX1_seaSeenFrom (sh 4 E) (nI j) = some (nI t) := t2
      have cN : ¬ nI N ≤ nI j := by rw [nI_leI (by omega) (by omega)]; omega
      have hg : fX1_groundAt (sh 4 E) (nI j) = some (sh 3 E 2 (nI j).toNatClampNeg) := e_ground hw.1 hok
      unfold fX7_light_7 fX8_light_7 fX7_light_50 fX7_light_63 fX8_light_117
      rw [hcm, hcw, ob1_s, hb, hg]
      simp only [if_neg cN, ob1_s, nI_1]
      rw [gd_s (vp_in_nI (by omega) (by omega))]
      by_cases c0 : sh 3 E 2 (nI j).toNatClampNeg = 0
      · rw [if_pos c0, if_pos c0, t2', ob1_s, t3]
        rcases le_or (x := nI t) (y := v) with ⟨d1, d2⟩ | ⟨d1, d2⟩
        · rw [if_pos d1, if_neg d2]
          exact i2 b v hv
        · rw [if_neg d1, if_pos d2]
          exact i2 _ _ (by rw [nI_toInt (by omega)]; omega)
      · rw [if_neg c0, if_neg c0, if_pos (show (-1 : Int32) ≤ v from ile.mpr hv)]
        exact i2 b v hv
theorem sim_light {n : Nat} {E M : Nat → Nat → Int32} (hn : n < 1000) (h : zR n E M) : ∃ (r : Int32), fX7_light E = some r ∧ fX8_light M = some r ∧ zR (n + 1) E M := by
  obtain ⟨N, n1, n2, n3, n4⟩ := cellN h.2.1
  obtain ⟨r, a1, a2⟩ := light_loop h.1 h.2.1 n1 n2 n3 zFU 0 (-9) (-1) (by decide) (by omega) (by unfold zFU; omega)
  exact ⟨r, a1, a2, zR_mono h⟩
