/-! stood, count, holds, beachBest -/
theorem nI_dn {t : Nat} (ht : t < 1000) : nI (t + 1) + -1 = nI t := by
  apply ieq.mpr
  have a1 : (nI (t + 1)).toInt = t + 1 := nI_toInt (by omega)
  have a2 : (-1 : Int32).toInt = -1 := rfl
  have a3 : (nI t).toInt = t := nI_toInt (by omega)
  rw [ia] <;> omega
theorem stood_step {n : Nat} {E M : Nat → Nat → Int32} {K : Nat → Int32} {a0 a1 : Int32} (hn : n < 1000) (h : zR n E M) (e : E 12 0 = 1) (hK : Kept K (M 0) (M 3 5)) (hc : CellOk (sh 3 E) a0) (hd : D8 a1) (t : Nat) (ht : t ≤ 40) (f : Nat) (g c : Nat → Int32) (hg : GR (M 0) g) : ∃ u c' : Nat → Int32, RST (M 0) u ∧ ((zl8 (fX8_stood_54 M) (f + 1) g (M 3) (M 9) K a0 a1 (-9) (nI t) = zl8 (fX8_stood_54 M) f u (M 3) (M 9) K a0 a1 (nI t) (nI t + -1) ∧ zl5 (fX7_stood_58 E) (f + 1) c (E 28) a0 a1 (nI t) = some (nI t, c', E 28)) ∨ (zl8 (fX8_stood_54 M) (f + 1) g (M 3) (M 9) K a0 a1 (-9) (nI t) = zl8 (fX8_stood_54 M) f u (M 3) (M 9) K a0 a1 (-9) (nI t + -1) ∧ zl5 (fX7_stood_58 E) (f + 1) c (E 28) a0 a1 (nI t) = zl5 (fX7_stood_58 E) f c' (E 28) a0 a1 (nI t + -1))) := by
  have hs := zR_SS h e
  have hw := h.2.1
  have hr := h.1
  have hid := h.2.2.2.2.1.2.2.2.2.2.1
  have ho := hs.2.2.2.2.1
  have g25 : g 25 = 0 := by
    rcases hg with q | q
    · exact q.2.2.1
    · rw [q]; exact h.2.2.2.2.1.2.2.2.1
  have g26 : g 26 = -1 := by
    rcases hg with q | q
    · exact q.2.2.2.1
    · rw [q]; exact h.2.2.2.2.1.2.2.2.2.1
  have g15 : g 15 = E 12 3 := by
    have m15 : M 0 15 = E 12 3 := hs.2.1.2.2.1
    rcases hg with q | q
    · exact (q.1 15 (by omega) (by omega)).trans m15
    · rw [q]; exact m15
  have hB : ∀ g : Nat → Int32, ups (ups (ups (ups M 0 g) 3 (M 3)) 9 (M 9)) 11 K = ups (ups (ups M 3 (M 3)) 11 K) 0 g := fun g => bun4
  have hrg : RW (ups (ups (ups M 3 (M 3)) 11 K) 0 g) (sh 3 E) := (GR.ss (K := K) hs hid hg).1
  obtain ⟨y1, y2⟩ := m_lay (m := ups (ups (ups M 3 (M 3)) 11 K) 0 g) (s := E 12) (c := a0) hw hrg g25 g26
  have y0 : (ups (ups (ups M 3 (M 3)) 11 K) 0 g) 0 = g := rfl
  rw [y0] at y1
  obtain ⟨x1, x2, x3, x4, x5, x6, x7, x8, x9, x10, x11⟩ := layM_at g a0
  have k0 : (nI t).toInt = t := nI_toInt (by omega)
  have n3 : ¬ nI t < 0 := nI_pos (by omega)
  have n9 : ¬ (0 : Int32) ≤ -9 := by decide
  have kg : ∀ k, k < 13 ∨ k = 28 ∨ k = 31 → g k = M 0 k := hg.k
  obtain ⟨L, hL⟩ : ∃ L, lee (wnd (layE (E 12) a0) (sh 3 E)) = L := ⟨_, rfl⟩
  rw [hL] at y1
  have s1 : SS 40 (ups (ups (ups M 3 (M 3)) 11 K) 0 (ups (ups (ups (ups (layM g a0) 14 L) 15 (g 15)) 14 a1) 21 (nI t))) (sh 3 E) (ups (ups (ups (layE c a0) 2 a1) 3 (E 12 3)) 9 (nI t)) := by
    have q := ss_lay (T := 40) (m := ups (ups (ups M 3 (M 3)) 11 K) 0 g) (s := c) (g' := ups (ups (ups (ups (layM g a0) 14 L) 15 (g 15)) 14 a1) 21 (nI t)) (c := a0) (hd := a1) (sl := E 12 3) (tn := nI t) hrg g25 g26 h.2.2.1 hc (by have := cell_64 hw.1 hc; omega) hd ho.2.1 ⟨by omega, by omega⟩ x1 x2 (by rw [ups_n _ _ _ _ (by decide), ups_s]) (by rw [ups_n _ _ _ _ (by decide), ups_n _ _ _ _ (by decide), ups_s]; exact g15) x4 x5 x6 x7 x8 (by rw [ups_s]) x10 (fun k hk => by rw [ups_n _ _ _ _ (by omega), ups_n _ _ _ _ (by omega), ups_n _ _ _ _ (by omega), ups_n _ _ _ _ (by omega)]; exact x11 k hk)
    rw [ups2] at q
    exact q
  obtain ⟨S0, hS0⟩ : ∃ S0, ups (ups (ups (layE c a0) 2 a1) 3 (E 12 3)) 9 (nI t) = S0 := ⟨_, rfl⟩
  rw [hS0] at s1
  have k60 : (60 : Int32) = nI 60 := rfl
  obtain ⟨g', v1, v2, v3, v4⟩ := m_tens (w := sh 3 E) (B := ups (ups M 3 (M 3)) 11 K) hw (N := 60) (by decide) (fun F G i => zl9 (fX8_stood_94 M (zl8 (fX8_stood_54 M) f)) F G (M 3) (M 9) K a0 a1 (-9) (nI t) i) (fun G => if G 22 = 8 then fX8_stood_123 M (zl8 (fX8_stood_54 M) f) G (M 3) (M 9) K a0 a1 (nI t) (nI t) else fX8_stood_123 M (zl8 (fX8_stood_54 M) f) G (M 3) (M 9) K a0 a1 (-9) (nI t)) (fun F G i => by
    show fX8_stood_94 M (zl8 (fX8_stood_54 M) f) (zl9 (fX8_stood_94 M (zl8 (fX8_stood_54 M) f)) F) G (M 3) (M 9) K a0 a1 (-9) (nI t) i = _
    unfold fX8_stood_94
    rw [← hB G]
    rfl) zFU 0 40 _ _ (by omega) (by omega) (by unfold zFU; omega) s1
  have v1' : zl9 (fX8_stood_94 M (zl8 (fX8_stood_54 M) f)) zFU (ups (ups (ups (ups (layM g a0) 14 L) 15 (g 15)) 14 a1) 21 (nI t)) (M 3) (M 9) K a0 a1 (-9) (nI t) 0 = (if g' 22 = 8 then fX8_stood_123 M (zl8 (fX8_stood_54 M) f) g' (M 3) (M 9) K a0 a1 (nI t) (nI t) else fX8_stood_123 M (zl8 (fX8_stood_54 M) f) g' (M 3) (M 9) K a0 a1 (-9) (nI t)) := v1
  rw [Nat.sub_zero] at v2 v3
  have kf : ∀ k, k < 13 ∨ k = 28 ∨ k = 31 → g' k = M 0 k := fun k hk => by
    refine (v4 k (by omega)).trans ?_
    rw [ups_n _ _ _ _ (by omega), ups_n _ _ _ _ (by omega), ups_n _ _ _ _ (by omega), ups_n _ _ _ _ (by omega)]
    by_cases k12 : k = 12
    · subst k12; exact x1.trans hs.2.2.2.2.2.2.2.2.2.symm
    · exact (x11 k (by omega)).trans (kg k hk)
  obtain ⟨u, z1, z2⟩ := again4 (d := M 3) hK kf (fun _ _ => rfl)
  have et := e_tens (w := sh 3 E) (B := ups (ups M 3 (M 3)) 11 K) hw (N := 60) (by decide) (by omega) s1
  have e22 : g' 22 = tens (sh 3 E) 60 S0 10 := v2.2.1.2.2.2.2.2.2.2.2.2.1
  have mM : ∀ x : Int32, fX8_stood_123 M (zl8 (fX8_stood_54 M) f) g' (M 3) (M 9) K a0 a1 x (nI t) = zl8 (fX8_stood_54 M) f u (M 3) (M 9) K a0 a1 x (nI t + -1) := fun x => by
    unfold fX8_stood_123
    rw [z1, ob2_s]
  refine ⟨u, tens (sh 3 E) 60 S0, z2, ?_⟩
  have hM : zl8 (fX8_stood_54 M) (f + 1) g (M 3) (M 9) K a0 a1 (-9) (nI t) = (if g' 22 = 8 then fX8_stood_123 M (zl8 (fX8_stood_54 M) f) g' (M 3) (M 9) K a0 a1 (nI t) (nI t) else fX8_stood_123 M (zl8 (fX8_stood_54 M) f) g' (M 3) (M 9) K a0 a1 (-9) (nI t)) := by
    show fX8_stood_54 M (zl8 (fX8_stood_54 M) f) g (M 3) (M 9) K a0 a1 (-9) (nI t) = _
    rw [← v1']
    generalize zl8 (fX8_stood_54 M) f = Z
    unfold fX8_stood_54
    rw [if_neg n3, if_neg n9, hB, y1, ob1_s]
  have hE : zl5 (fX7_stood_58 E) (f + 1) c (E 28) a0 a1 (nI t) = (if tens (sh 3 E) 60 S0 10 = 8 then some (nI t, tens (sh 3 E) 60 S0, E 28) else zl5 (fX7_stood_58 E) f (tens (sh 3 E) 60 S0) (E 28) a0 a1 (nI t + -1)) := by
    show fX7_stood_58 E (zl5 (fX7_stood_58 E) f) c (E 28) a0 a1 (nI t) = _
    unfold fX7_stood_58
    rw [if_neg n3, e_lay, ob1_s, hS0, k60, et, ob1_s]
  rw [hM, hE, e22]
  by_cases c8 : tens (sh 3 E) 60 S0 10 = 8
  · left
    rw [if_pos c8, if_pos c8]
    exact ⟨mM _, rfl⟩
  · right
    rw [if_neg c8, if_neg c8]
    exact ⟨mM _, rfl⟩
theorem stood_done {M : Nat → Nat → Int32} {u K : Nat → Int32} {a0 a1 : Int32} (f v : Nat) (hv : v < 1000) (x : Int32) : zl8 (fX8_stood_54 M) (f + 1) u (M 3) (M 9) K a0 a1 (nI v) x = some (nI v, u, M 3, M 9, K) := by
  show fX8_stood_54 M (zl8 (fX8_stood_54 M) f) u (M 3) (M 9) K a0 a1 (nI v) x = _
  generalize zl8 (fX8_stood_54 M) f = Z
  unfold fX8_stood_54
  by_cases c : x < 0
  · rw [if_pos c]
  · rw [if_neg c, if_pos (nI_pos' (by omega))]
theorem stood_all {n : Nat} {E M : Nat → Nat → Int32} {K : Nat → Int32} {a0 a1 : Int32} (hn : n < 1000) (h : zR n E M) (e : E 12 0 = 1) (hK : Kept K (M 0) (M 3 5)) (hc : CellOk (sh 3 E) a0) (hd : D8 a1) : ∀ (t f : Nat) (g c : Nat → Int32), t ≤ 40 → t + 3 ≤ f → GR (M 0) g → ∃ (r : Int32) (u c' : Nat → Int32), RST (M 0) u ∧ zl8 (fX8_stood_54 M) f g (M 3) (M 9) K a0 a1 (-9) (nI t) = some (r, u, M 3, M 9, K) ∧ zl5 (fX7_stood_58 E) f c (E 28) a0 a1 (nI t) = some (r, c', E 28) := by
  intro t
  induction t with
  | zero =>
    intro f g c ht hf hg
    obtain ⟨f', rfl⟩ : ∃ f', f = f' + 1 := ⟨f - 1, by omega⟩
    obtain ⟨f2, rfl⟩ : ∃ f2, f' = f2 + 1 := ⟨f' - 1, by omega⟩
    obtain ⟨u, c', z, ⟨a1', a2'⟩ | ⟨a1', a2'⟩⟩ := stood_step hn h e hK hc hd 0 ht (f2 + 1) g c hg
    · exact ⟨nI 0, u, c', z, a1'.trans (stood_done f2 0 (by omega) _), a2'⟩
    · refine ⟨-9, u, c', z, a1'.trans ?_, a2'.trans ?_⟩
      · show fX8_stood_54 M (zl8 (fX8_stood_54 M) f2) u (M 3) (M 9) K a0 a1 (-9) (nI 0 + -1) = _
        generalize zl8 (fX8_stood_54 M) f2 = Z
        unfold fX8_stood_54
        rw [if_pos (by decide)]
      · show fX7_stood_58 E (zl5 (fX7_stood_58 E) f2) c' (E 28) a0 a1 (nI 0 + -1) = _
        generalize zl5 (fX7_stood_58 E) f2 = Z
        unfold fX7_stood_58
        rw [if_pos (by decide)]
  | succ t ih =>
    intro f g c ht hf hg
    obtain ⟨f', rfl⟩ : ∃ f', f = f' + 1 := ⟨f - 1, by omega⟩
    obtain ⟨u, c', z, ⟨a1', a2'⟩ | ⟨a1', a2'⟩⟩ := stood_step hn h e hK hc hd (t + 1) ht f' g c hg
    · obtain ⟨f2, rfl⟩ : ∃ f2, f' = f2 + 1 := ⟨f' - 1, by omega⟩
      exact ⟨nI (t + 1), u, c', z, a1'.trans (stood_done f2 (t + 1) (by omega) _), a2'⟩
    · rw [nI_dn (by omega)] at a1' a2'
      obtain ⟨r, u2, c2, b1, b2, b3⟩ := ih f' u c' (by omega) (by omega) (Or.inl z)
      exact ⟨r, u2, c2, b1, a1'.trans b2, a2'.trans b3⟩
theorem sim_stood {n : Nat} {E M : Nat → Nat → Int32} (hn : n < 1000) (h : zR n E M) (a0 : Int32) (a1 : Int32) : ∃ (r : Int32) (c13 : Nat → Int32) (c28 : Nat → Int32) (d0 : Nat → Int32) (d3 : Nat → Int32) (d9 : Nat → Int32) (d11 : Nat → Int32), fX7_stood E a0 a1 = some (r, c13, c28) ∧ fX8_stood M a0 a1 = some (r, d0, d3, d9, d11) ∧ zR (n + 1) (ups (ups E 13 c13) 28 c28) (ups (ups (ups (ups M 0 d0) 3 d3) 9 d9) 11 d11) := by
  have ref : ∀ r : Int32, isRef r → fX7_stood E a0 a1 = some (r, E 13, rf1 (E 28) r) → fX8_stood M a0 a1 = some (r, M 0, M 3, rf1 (M 9) r, M 11) → ∃ (r : Int32) (c13 : Nat → Int32) (c28 : Nat → Int32) (d0 : Nat → Int32) (d3 : Nat → Int32) (d9 : Nat → Int32) (d11 : Nat → Int32), fX7_stood E a0 a1 = some (r, c13, c28) ∧ fX8_stood M a0 a1 = some (r, d0, d3, d9, d11) ∧ zR (n + 1) (ups (ups E 13 c13) 28 c28) (ups (ups (ups (ups M 0 d0) 3 d3) 9 d9) 11 d11) := fun r hr e1 e2 => ⟨r, _, _, _, _, _, _, e1, e2, by first | exact zR_ref h r | (simp only [ups_id]; exact zR_ref h r)⟩
  have hw := h.2.1
  have hr := h.1
  by_cases hc : CellOk (sh 3 E) a0
  · have x1 := e_has1 hw.1 hc
    have x2 := m_isCell1 hr hw.1 hc
    have x3 := e_fl hw.1 hc
    have x4 := m_fl hr hw hc
    by_cases cd : D8 a1
    · have d1 := e_dir cd
      have d2 := m_dir cd
      rcases fl01 (sh 3 E) a0 with t | t
      · rw [t] at x3 x4
        exact ref (-3) r3 (by simp only [fX7_stood, fX7_stood_48, h4has, x1, x3, d1, ups_id, ob1_s, ob2_s, ob3_s, ob4_s, nm_s, ↓reduceIte, i10, e_ref _ r1, e_ref _ r2, e_ref _ r3, e_ref _ r4, e_ref _ r6, m_ref _ r1, m_ref _ r2, m_ref _ r3, m_ref _ r4, m_ref _ r6]) (by simp only [fX8_stood, fX8_stood_36, x2, x4, d2, ups_id, ob1_s, ob2_s, ob3_s, ob4_s, nm_s, ↓reduceIte, i10, e_ref _ r1, e_ref _ r2, e_ref _ r3, e_ref _ r4, e_ref _ r6, m_ref _ r1, m_ref _ r2, m_ref _ r3, m_ref _ r4, m_ref _ r6])
      · rw [t] at x3 x4
        by_cases e : E 12 0 = 1
        · have hs := zR_SS h e
          have n0 : ¬ E 12 0 = 0 := by rw [e]; decide
          have m0 : ¬ M 0 12 = 0 := by rw [hs.2.2.2.2.2.2.2.2.2]; decide
          have n1 : ¬ (1 : Int32) = 0 := by decide
          obtain ⟨K, k1, k2⟩ := m_keep M
          obtain ⟨r, u, c', y1, y2, y3⟩ := stood_all hn h e k2 hc cd 40 zFU (M 0) (E 13) (by omega) (by unfold zFU; omega) (Or.inr rfl)
          have l40 : nI 40 = (40 : Int32) := rfl
          rw [l40] at y2 y3
          have e1 : fX7_stood E a0 a1 = some (r, c', E 28) := by
            unfold fX7_stood
            rw [h4has, x1, ob1_s, if_neg n1, d1, ob1_s, if_neg n1, x3, ob1_s, if_neg n1, if_neg n0, y3]
          have e2 : fX8_stood M a0 a1 = some (r, u, M 3, M 9, K) := by
            unfold fX8_stood
            simp only [ups_id]
            rw [x2, ob1_s, if_neg n1, d2, ob1_s, if_neg n1, x4, ob1_s, if_neg n1, if_neg m0, k1, ob1_s, y2]
          refine ⟨_, _, _, _, _, _, _, e1, e2, ?_⟩
          rw [ups_idn (by decide), ups_idn (by decide), ups_idn (by decide)]
          exact zR_mind h e y1
        · have e0 : E 12 0 = 0 := h.2.2.2.2.1.2.1.resolve_right e
          have m0 : M 0 12 = 0 := h.2.2.2.2.1.1.trans e0
          exact ref (-3) r3 (by simp only [fX7_stood, fX7_stood_48, h4has, x1, x3, d1, e0, ups_id, ob1_s, ob2_s, ob3_s, ob4_s, nm_s, ↓reduceIte, i10, e_ref _ r1, e_ref _ r2, e_ref _ r3, e_ref _ r4, e_ref _ r6, m_ref _ r1, m_ref _ r2, m_ref _ r3, m_ref _ r4, m_ref _ r6]) (by simp only [fX8_stood, fX8_stood_36, x2, x4, d2, m0, ups_id, ob1_s, ob2_s, ob3_s, ob4_s, nm_s, ↓reduceIte, i10, e_ref _ r1, e_ref _ r2, e_ref _ r3, e_ref _ r4, e_ref _ r6, m_ref _ r1, m_ref _ r2, m_ref _ r3, m_ref _ r4, m_ref _ r6])
    · have d1 := e_dir0 cd
      have d2 := m_dir0 cd
      exact ref (-1) r1 (by simp only [fX7_stood, fX7_stood_21, h4has, x1, d1, ups_id, ob1_s, ob2_s, ob3_s, ob4_s, nm_s, ↓reduceIte, i10, e_ref _ r1, e_ref _ r2, e_ref _ r3, e_ref _ r4, e_ref _ r6, m_ref _ r1, m_ref _ r2, m_ref _ r3, m_ref _ r4, m_ref _ r6]) (by simp only [fX8_stood, fX8_stood_15, x2, d2, ups_id, ob1_s, ob2_s, ob3_s, ob4_s, nm_s, ↓reduceIte, i10, e_ref _ r1, e_ref _ r2, e_ref _ r3, e_ref _ r4, e_ref _ r6, m_ref _ r1, m_ref _ r2, m_ref _ r3, m_ref _ r4, m_ref _ r6])
  · have x1 := e_has0 hw.1 hc
    have x2 := m_isCell0 hr hw.1 hc
    exact ref (-1) r1 (by simp only [fX7_stood, fX7_stood_21, h4has, x1, ups_id, ob1_s, ob2_s, ob3_s, ob4_s, nm_s, ↓reduceIte, i10, e_ref _ r1, e_ref _ r2, e_ref _ r3, e_ref _ r4, e_ref _ r6, m_ref _ r1, m_ref _ r2, m_ref _ r3, m_ref _ r4, m_ref _ r6]) (by simp only [fX8_stood, fX8_stood_15, x2, ups_id, ob1_s, ob2_s, ob3_s, ob4_s, nm_s, ↓reduceIte, i10, e_ref _ r1, e_ref _ r2, e_ref _ r3, e_ref _ r4, e_ref _ r6, m_ref _ r1, m_ref _ r2, m_ref _ r3, m_ref _ r4, m_ref _ r6])
theorem sim_count {n : Nat} {E M : Nat → Nat → Int32} (hn : n < 1000) (h : zR n E M) (a0 : Int32) : ∃ (r : Int32), fX7_count E a0 = some r ∧ fX8_count M a0 = some r ∧ zR (n + 1) E M := by
  have q0 : M 0 0 = E 4 1 := h.1.1
  have q1 : M 0 1 = E 4 2 := h.1.2.1
  have q2 : M 0 6 = E 6 2 := h.1.2.2.1
  have q3 : M 0 9 = E 9 2 := h.1.2.2.2.1
  have q4 : M 0 28 = E 26 1 := h.2.2.2.2.2.1.1
  have q5 : M 0 3 = E 1 1 := h.2.2.2.1.1
  have q6 : M 0 12 = E 12 0 := h.2.2.2.2.1.1
  have q7 : M 9 = E 28 := h.2.2.2.2.2.2.1
  unfold fX7_count fX8_count
  rw [q0, q1, q2, q3, q4, q5, q6, q7]
  by_cases c0 : a0 = 0
  · rw [if_pos c0, if_pos c0]; exact ⟨_, rfl, rfl, zR_mono h⟩
  by_cases c1 : a0 = 1
  · rw [if_neg c0, if_neg c0, if_pos c1, if_pos c1]; exact ⟨_, rfl, rfl, zR_mono h⟩
  by_cases c2 : a0 = 2
  · rw [if_neg c0, if_neg c0, if_neg c1, if_neg c1, if_pos c2, if_pos c2]; exact ⟨_, rfl, rfl, zR_mono h⟩
  by_cases c3 : a0 = 3
  · rw [if_neg c0, if_neg c0, if_neg c1, if_neg c1, if_neg c2, if_neg c2, if_pos c3, if_pos c3]; exact ⟨_, rfl, rfl, zR_mono h⟩
  by_cases c4 : a0 = 4
  · rw [if_neg c0, if_neg c0, if_neg c1, if_neg c1, if_neg c2, if_neg c2, if_neg c3, if_neg c3, if_pos c4, if_pos c4]; exact ⟨_, rfl, rfl, zR_mono h⟩
  by_cases c5 : a0 = 5
  · rw [if_neg c0, if_neg c0, if_neg c1, if_neg c1, if_neg c2, if_neg c2, if_neg c3, if_neg c3, if_neg c4, if_neg c4, if_pos c5, if_pos c5]; exact ⟨_, rfl, rfl, zR_mono h⟩
  by_cases c6 : a0 = 6
  · rw [if_neg c0, if_neg c0, if_neg c1, if_neg c1, if_neg c2, if_neg c2, if_neg c3, if_neg c3, if_neg c4, if_neg c4, if_neg c5, if_neg c5, if_pos c6, if_pos c6]
    by_cases d : E 12 0 = 0
    · rw [if_pos d]; exact ⟨_, rfl, rfl, zR_mono h⟩
    · rw [if_neg d]; exact ⟨_, rfl, rfl, zR_mono h⟩
  rw [if_neg c0, if_neg c0, if_neg c1, if_neg c1, if_neg c2, if_neg c2, if_neg c3, if_neg c3, if_neg c4, if_neg c4, if_neg c5, if_neg c5, if_neg c6, if_neg c6]
  by_cases c7 : a0 ≤ 10
  · rw [if_pos c7, if_pos c7]; exact ⟨_, rfl, rfl, zR_mono h⟩
  · rw [if_neg c7, if_neg c7]
    have p7 : (10 : Int) < a0.toInt := Int.not_le.mp (fun q => c7 (ile.mpr q))
    by_cases c8 : 16 < a0
    · have p8 : (16 : Int) < a0.toInt := ilt.mp c8
      rw [if_pos c8, if_pos (show (17 : Int32) ≤ a0 from ile.mpr (show (17 : Int) ≤ a0.toInt by omega))]
      exact ⟨_, rfl, rfl, zR_mono h⟩
    · have p8 : a0.toInt ≤ (16 : Int) := Int.not_lt.mp (fun q => c8 (ilt.mpr q))
      have k10 : (10 : Int32).toInt = 10 := rfl
      have e10 : (a0 - 10).toInt = a0.toInt - 10 := by rw [is'] <;> omega
      have tv : fX7_valueAt 7 (E 28) (a0 - 10) = some (E 28 (a0 - 10).toNatClampNeg) := e_tab (by decide) (by omega) (by omega)
      rw [if_neg c8, if_neg (fun q => by have : (17 : Int) ≤ a0.toInt := ile.mp q; omega), tv, ob1_s, gd_s (vin_of (by omega) (by omega))]
      exact ⟨_, rfl, rfl, zR_mono h⟩
theorem holds_loop {E : Nat → Nat → Int32} {x2 x3 x4 : Int32} {H X : Nat} (eH : 2 * zmin 9 (x4 + x3) + 3 = nI H) (eX : x2 = nI X) (hH : H < 100) (hX : X ≤ H) : ∀ (t f : Nat), t ≤ 9 → t + 2 ≤ f → zl5 (fX7_holds_84 E) f (E 28) x2 x3 x4 (nI t) = some (nI (min t ((H - X) / 2)), E 28) := by
  have hh : fX7_holdOf x4 x3 = some (nI H) := by rw [← eH]; rfl
  have hl : ∀ t : Nat, fX7_loadOf (nI t) x2 = some (nI (2 * t + X)) := fun t => by
    have k2 : (2 : Int32) = nI 2 := rfl
    unfold fX7_loadOf
    rw [eX, k2, show nI 2 * nI t = nI (2 * t) from (Int32.ofNat_mul 2 t).symm, nI_add]
  intro t
  induction t with
  | zero =>
    intro f ht hf
    obtain ⟨f', rfl⟩ : ∃ f', f = f' + 1 := ⟨f - 1, by omega⟩
    show fX7_holds_84 E (zl5 (fX7_holds_84 E) f') (E 28) x2 x3 x4 (nI 0) = _
    unfold fX7_holds_84
    rw [if_neg (nI_pos (by omega)), hl, ob1_s, hh, ob1_s, if_neg (by rw [nI_ltI (by omega) (by omega)]; omega)]
    rw [Nat.zero_min]
  | succ t ih =>
    intro f ht hf
    obtain ⟨f', rfl⟩ : ∃ f', f = f' + 1 := ⟨f - 1, by omega⟩
    show fX7_holds_84 E (zl5 (fX7_holds_84 E) f') (E 28) x2 x3 x4 (nI (t + 1)) = _
    have i2 := ih f' (by omega) (by omega)
    generalize zl5 (fX7_holds_84 E) f' = Z at *
    unfold fX7_holds_84
    rw [if_neg (nI_pos (by omega)), hl, ob1_s, hh, ob1_s]
    by_cases c : H < 2 * (t + 1) + X
    · rw [if_pos (by rw [nI_ltI (by omega) (by omega)]; omega), nI_dn (by omega), i2]
      have : min t ((H - X) / 2) = min (t + 1) ((H - X) / 2) := by omega
      rw [this]
    · rw [if_neg (by rw [nI_ltI (by omega) (by omega)]; omega)]
      have : min (t + 1) ((H - X) / 2) = t + 1 := by omega
      rw [this]
theorem sim_holds {n : Nat} {E M : Nat → Nat → Int32} (hn : n < 1000) (h : zR n E M) (a0 : Int32) (a1 : Int32) (a2 : Int32) : ∃ (r : Int32) (c28 : Nat → Int32) (d9 : Nat → Int32), fX7_holds E a0 a1 a2 = some (r, c28) ∧ fX8_holds M a0 a1 a2 = some (r, d9) ∧ zR (n + 1) (ups E 28 c28) (ups M 9 d9) := by
  have ref : ∀ r : Int32, isRef r → fX7_holds E a0 a1 a2 = some (r, rf1 (E 28) r) → fX8_holds M a0 a1 a2 = some (r, rf1 (M 9) r) → ∃ (r : Int32) (c28 : Nat → Int32) (d9 : Nat → Int32), fX7_holds E a0 a1 a2 = some (r, c28) ∧ fX8_holds M a0 a1 a2 = some (r, d9) ∧ zR (n + 1) (ups E 28 c28) (ups M 9 d9) := fun r hr e1 e2 => ⟨r, _, _, e1, e2, by first | exact zR_ref h r | (simp only [ups_id]; exact zR_ref h r)⟩
  have hw := h.2.1
  have hr := h.1
  by_cases hc : CellOk (sh 3 E) a0
  · have x1 := e_has1 hw.1 hc
    have x2 := m_isCell1 hr hw.1 hc
    by_cases c1 : a1 < 0
    · exact ref (-4) r4 (by simp only [fX7_holds, fX7_holds_28, h4has, x1, c1, ups_id, ob1_s, ob2_s, ob3_s, ob4_s, nm_s, ↓reduceIte, i10, e_ref _ r1, e_ref _ r2, e_ref _ r3, e_ref _ r4, e_ref _ r6, m_ref _ r1, m_ref _ r2, m_ref _ r3, m_ref _ r4, m_ref _ r6]) (by simp only [fX8_holds, fX8_holds_22, x2, c1, ups_id, ob1_s, ob2_s, ob3_s, ob4_s, nm_s, ↓reduceIte, i10, e_ref _ r1, e_ref _ r2, e_ref _ r3, e_ref _ r4, e_ref _ r6, m_ref _ r1, m_ref _ r2, m_ref _ r3, m_ref _ r4, m_ref _ r6])
    · by_cases c2 : (0 : Int32) ≤ a2
      · by_cases c3 : 3 < a1
        · exact ref (-6) r6 (by simp only [fX7_holds, fX7_holds_45, h4has, x1, c1, c2, c3, ups_id, ob1_s, ob2_s, ob3_s, ob4_s, nm_s, ↓reduceIte, i10, e_ref _ r1, e_ref _ r2, e_ref _ r3, e_ref _ r4, e_ref _ r6, m_ref _ r1, m_ref _ r2, m_ref _ r3, m_ref _ r4, m_ref _ r6]) (by simp only [fX8_holds, fX8_holds_39, x2, c1, c2, c3, ups_id, ob1_s, ob2_s, ob3_s, ob4_s, nm_s, ↓reduceIte, i10, e_ref _ r1, e_ref _ r2, e_ref _ r3, e_ref _ r4, e_ref _ r6, m_ref _ r1, m_ref _ r2, m_ref _ r3, m_ref _ r4, m_ref _ r6])
        · by_cases c4 : a2 ≤ 5
          · have x3 := e_ground hw.1 hc
            have x4 := m_sea hr hw hc
            have hv := hw.2.1 a0.toNatClampNeg
            have hb : M 1 = sh 3 E 2 := hr.2.2.2.2.1
            have hin := cell_in hw.1 hc
            have gdc : ∀ {α : Type} (k : Option α), gd a0 64 k = k := fun k => gd_s hin
            generalize hV : sh 3 E 2 a0.toNatClampNeg = v at *
            have x5 : fX7_isSea v = some (if v ≤ 0 then 0 else if 20 < v then 0 else 1) := by
              unfold fX7_isSea
              by_cases t1 : v ≤ 0
              · rw [if_pos t1, if_pos t1]
              · rw [if_neg t1, if_neg t1]
                by_cases t2 : 20 < v
                · rw [if_pos t2, if_pos t2]
                · rw [if_neg t2, if_neg t2]
            by_cases t1 : v ≤ 0
            · rw [if_pos t1] at x4 x5
              exact ref (-3) r3 (by simp only [fX7_holds, h4has, x1, c1, c2, c3, c4, x3, x5, ups_id, ob1_s, ob2_s, ob3_s, ob4_s, nm_s, ↓reduceIte, i10, e_ref _ r1, e_ref _ r2, e_ref _ r3, e_ref _ r4, e_ref _ r6, m_ref _ r1, m_ref _ r2, m_ref _ r3, m_ref _ r4, m_ref _ r6]) (by simp only [fX8_holds, x2, c1, c2, c3, c4, x4, ups_id, ob1_s, ob2_s, ob3_s, ob4_s, nm_s, ↓reduceIte, i10, e_ref _ r1, e_ref _ r2, e_ref _ r3, e_ref _ r4, e_ref _ r6, m_ref _ r1, m_ref _ r2, m_ref _ r3, m_ref _ r4, m_ref _ r6])
            · by_cases t2 : 20 < v
              · rw [if_neg t1, if_pos t2] at x4 x5
                exact ref (-3) r3 (by simp only [fX7_holds, h4has, x1, c1, c2, c3, c4, x3, x5, ups_id, ob1_s, ob2_s, ob3_s, ob4_s, nm_s, ↓reduceIte, i10, e_ref _ r1, e_ref _ r2, e_ref _ r3, e_ref _ r4, e_ref _ r6, m_ref _ r1, m_ref _ r2, m_ref _ r3, m_ref _ r4, m_ref _ r6]) (by simp only [fX8_holds, x2, c1, c2, c3, c4, x4, ups_id, ob1_s, ob2_s, ob3_s, ob4_s, nm_s, ↓reduceIte, i10, e_ref _ r1, e_ref _ r2, e_ref _ r3, e_ref _ r4, e_ref _ r6, m_ref _ r1, m_ref _ r2, m_ref _ r3, m_ref _ r4, m_ref _ r6])
              · rw [if_neg t1, if_neg t2] at x4 x5
                have q1 : 0 ≤ a1.toInt := nn c1
                have q2 : a1.toInt ≤ (3 : Int) := Int.not_lt.mp (fun q => c3 (ilt.mpr q))
                have q3 : (0 : Int) ≤ a2.toInt := ile.mp c2
                have q4 : a2.toInt ≤ (5 : Int) := ile.mp c4
                have q5 : (0 : Int) < v.toInt := Int.not_le.mp (fun q => t1 (ile.mpr q))
                have q6 : v.toInt ≤ (20 : Int) := Int.not_lt.mp (fun q => t2 (ilt.mpr q))
                have eX : a1 = nI a1.toInt.toNat := nI_of' q1
                have s1 : (v + a2).toInt = v.toInt + a2.toInt := by rw [ia] <;> omega
                have s2 : (zmin 9 (v + a2)).toInt = min 9 (v.toInt + a2.toInt) := by rw [zmin_i, s1]; rfl
                have k2 : (2 : Int32).toInt = 2 := rfl
                have k3 : (3 : Int32).toInt = 3 := rfl
                have k9 : (9 : Int32).toInt = 9 := rfl
                have s3 : (2 * zmin 9 (v + a2)).toInt = 2 * min 9 (v.toInt + a2.toInt) := by rw [im] <;> rw [s2, k2] <;> omega
                have s4 : (2 * zmin 9 (v + a2) + 3).toInt = 2 * min 9 (v.toInt + a2.toInt) + 3 := by rw [ia] <;> rw [s3, k3] <;> omega
                have eH : 2 * zmin 9 (v + a2) + 3 = nI (2 * zmin 9 (v + a2) + 3).toInt.toNat := nI_of' (by omega)
                generalize hHH : 2 * zmin 9 (v + a2) + 3 = HH at *
                have y1 := holds_loop (E := E) (x2 := a1) (x3 := a2) (x4 := v) (H := HH.toInt.toNat) (X := a1.toInt.toNat) (by rw [hHH]; exact eH) eX (by omega) (by omega) 9 zFU (by omega) (by unfold zFU; omega)
                have l9 : nI 9 = (9 : Int32) := rfl
                rw [l9] at y1
                have e1 : fX7_holds E a0 a1 a2 = some (nI (min 9 ((HH.toInt.toNat - a1.toInt.toNat) / 2)), E 28) := by
                  simp only [fX7_holds, h4has, x1, c1, c2, c3, c4, x3, x5, y1, ups_id, ob1_s, ob2_s, ob3_s, ob4_s, nm_s, ↓reduceIte, i10, e_ref _ r1, e_ref _ r2, e_ref _ r3, e_ref _ r4, e_ref _ r6, m_ref _ r1, m_ref _ r2, m_ref _ r3, m_ref _ r4, m_ref _ r6]
                have z1 : (HH - a1).toInt = HH.toInt - a1.toInt := by rw [is'] <;> omega
                have z2 : ((HH - a1) / 2).toInt = (HH.toInt - a1.toInt) / 2 := by rw [idv (by omega) (by decide), z1, k2]
                have z3 : zmin 9 ((HH - a1) / 2) = nI (min 9 ((HH.toInt.toNat - a1.toInt.toNat) / 2)) := by
                  apply ieq.mpr
                  rw [zmin_i, z2, nI_toInt (by omega), k9]
                  omega
                have e2 : fX8_holds M a0 a1 a2 = some (nI (min 9 ((HH.toInt.toNat - a1.toInt.toNat) / 2)), M 9) := by
                  have t4 : a1 ≤ HH := ile.mpr (by omega)
                  simp only [fX8_holds, x2, c1, c2, c3, c4, x4, gdc, hb, hV, hHH, t4, z3, ups_id, ob1_s, ob2_s, ob3_s, ob4_s, nm_s, ↓reduceIte, i10, e_ref _ r1, e_ref _ r2, e_ref _ r3, e_ref _ r4, e_ref _ r6, m_ref _ r1, m_ref _ r2, m_ref _ r3, m_ref _ r4, m_ref _ r6]
                refine ⟨_, _, _, e1, e2, ?_⟩
                simp only [ups_id]
                exact zR_mono h
          · exact ref (-6) r6 (by simp only [fX7_holds, fX7_holds_45, h4has, x1, c1, c2, c3, c4, ups_id, ob1_s, ob2_s, ob3_s, ob4_s, nm_s, ↓reduceIte, i10, e_ref _ r1, e_ref _ r2, e_ref _ r3, e_ref _ r4, e_ref _ r6, m_ref _ r1, m_ref _ r2, m_ref _ r3, m_ref _ r4, m_ref _ r6]) (by simp only [fX8_holds, fX8_holds_39, x2, c1, c2, c3, c4, ups_id, ob1_s, ob2_s, ob3_s, ob4_s, nm_s, ↓reduceIte, i10, e_ref _ r1, e_ref _ r2, e_ref _ r3, e_ref _ r4, e_ref _ r6, m_ref _ r1, m_ref _ r2, m_ref _ r3, m_ref _ r4, m_ref _ r6])
      · exact ref (-4) r4 (by simp only [fX7_holds, fX7_holds_28, h4has, x1, c1, c2, ups_id, ob1_s, ob2_s, ob3_s, ob4_s, nm_s, ↓reduceIte, i10, e_ref _ r1, e_ref _ r2, e_ref _ r3, e_ref _ r4, e_ref _ r6, m_ref _ r1, m_ref _ r2, m_ref _ r3, m_ref _ r4, m_ref _ r6]) (by simp only [fX8_holds, fX8_holds_22, x2, c1, c2, ups_id, ob1_s, ob2_s, ob3_s, ob4_s, nm_s, ↓reduceIte, i10, e_ref _ r1, e_ref _ r2, e_ref _ r3, e_ref _ r4, e_ref _ r6, m_ref _ r1, m_ref _ r2, m_ref _ r3, m_ref _ r4, m_ref _ r6])
  · have x1 := e_has0 hw.1 hc
    have x2 := m_isCell0 hr hw.1 hc
    exact ref (-1) r1 (by simp only [fX7_holds, h4has, x1, ups_id, ob1_s, ob2_s, ob3_s, ob4_s, nm_s, ↓reduceIte, i10, e_ref _ r1, e_ref _ r2, e_ref _ r3, e_ref _ r4, e_ref _ r6, m_ref _ r1, m_ref _ r2, m_ref _ r3, m_ref _ r4, m_ref _ r6]) (by simp only [fX8_holds, x2, ups_id, ob1_s, ob2_s, ob3_s, ob4_s, nm_s, ↓reduceIte, i10, e_ref _ r1, e_ref _ r2, e_ref _ r3, e_ref _ r4, e_ref _ r6, m_ref _ r1, m_ref _ r2, m_ref _ r3, m_ref _ r4, m_ref _ r6])
