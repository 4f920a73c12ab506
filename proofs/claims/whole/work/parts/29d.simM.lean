/-! still and clears -/
theorem cn_all (p : Int32 → Bool) (t : Nat → Int32) : ∀ n, (∀ i, i < n → p (t i) = true) → cn p t n = n := by
  intro n
  induction n with
  | zero => intro _; rfl
  | succ n ih =>
    intro h
    unfold cn
    rw [ih (fun i hi => h i (by omega)), if_pos (h n (by omega))]
theorem m_wipe {m : Nat → Nat → Int32} (x1 v l : Int32) (Q : Nat → Int32) : ∀ (f s : Nat) (A : Nat → Int32), s ≤ 192 → 192 < f + s → (∀ i, i < s → A i = -1) → ∃ A' : Nat → Int32, zl6 (fX8_moves_41 m) f A Q x1 v l (nI s) = (nm (upd Q 0 (3 * x1)) (fun g5 => gd (3 * x1) 192 (nm (upd A' (3 * x1).toNatClampNeg 0) (fun g7 => zl6 (fX8_moves_91 m) zFU g7 g5 v l 0 (0 + 1))))) ∧ (∀ i, i < 192 → A' i = -1) := by
  have k192 : (192 : Int32) = nI 192 := rfl
  intro f
  induction f with
  | zero => intro s A h1 h2; omega
  | succ f ih =>
    intro s A h1 h2 h3
    show ∃ A' : Nat → Int32, fX8_moves_41 m (zl6 (fX8_moves_41 m) f) A Q x1 v l (nI s) = _ ∧ _
    have i2 := ih (s + 1)
    generalize zl6 (fX8_moves_41 m) f = Z at *
    unfold fX8_moves_41
    by_cases q : s = 192
    · rw [if_pos (by rw [q]; decide)]
      exact ⟨A, rfl, fun i hi => h3 i (by omega)⟩
    · rw [if_neg (by rw [k192, nI_leI (by omega) (by omega)]; omega), gd_s (vp_in_nI (by omega) (by omega)), nI_clamp (by omega), nm_s, nI_1]
      refine i2 (upd A s (-1)) (by omega) (by omega) (fun i hi => ?_)
      by_cases e : i = s
      · subst e; exact pk_us
      · rw [pk_un e]; exact h3 i (by omega)
/-- how many moves, by the model, from a cell -/
theorem m_moves {m w : Nat → Nat → Int32} (hr : RW m w) (hw : OW w) {v c : Int32} (hv : D8 v) (hc : CellOk w c) (hwm : fX8_wind_ (ups (ups m 12 (m 12)) 13 (m 13)) (if m 0 12 = 0 then 0 else m 0 21) = some v) : ∃ (r : Int32) (A' Q' : Nat → Int32), fX8_moves m c = some (r, A', Q') ∧ ((fl w c = 1 ∧ ∃ F : Nat, F < 192 ∧ r = nI (F + 1) ∧ Lv w v (F + 1) c 0 ∧ ¬ Lv w v F c 0) ∨ (r = -9 ∧ (fl w c = 1 → ∀ k, ¬ Lv w v k c 0))) := by
  have hr2 : RW (ups (ups m 12 (m 12)) 13 (m 13)) w := hr
  unfold fX8_moves
  rw [m_fl hr2 hw hc, ob1_s]
  rcases fl01 w c with q | q
  · rw [if_pos q]
    exact ⟨-9, _, _, rfl, Or.inr ⟨rfl, fun h => by rw [q] at h; exact absurd h (by decide)⟩⟩
  · rw [if_neg (by rw [q]; decide)]
    have h64 := cell_64 hw.1 hc
    have h0 := hc.1
    obtain ⟨C, hC, eC⟩ : ∃ C : Nat, C < 64 ∧ c = nI C := ⟨c.toInt.toNat, by omega, nI_of' h0⟩
    have e3 : (3 : Int32) * c = nI (3 * C) := by
      rw [eC, show (3 : Int32) = nI 3 from rfl]
      exact (Int32.ofNat_mul 3 C).symm
    have es : nI (3 * C / 3) = c := by rw [show 3 * C / 3 = C by omega, eC]
    have em : 3 * C % 3 = 0 := by omega
    have m27 : ∀ t : Int32, fX8_wind_ (ups (ups m 12 (m 12)) 13 (m 13)) t = some v → ∃ (r : Int32) (A' Q' : Nat → Int32), fX8_moves_27 m (m 12) (m 13) c t = some (r, A', Q') ∧ ((∃ F : Nat, F < 192 ∧ r = nI (F + 1) ∧ LM w v (F + 1) (3 * C) ∧ ¬ LM w v F (3 * C)) ∨ (r = -9 ∧ ∀ k, ¬ LM w v k (3 * C))) := fun t ht => by
      obtain ⟨A, a1, a2⟩ := m_wipe (m := m) c v (lee v) (m 13) zFU 0 (m 12) (by omega) (by unfold zFU; omega) (fun i hi => by omega)
      have z0 : (0 : Int32) = nI 0 := rfl
      have z1 : (0 : Int32) + 1 = nI 1 := by decide
      have hA : (upd A (3 * C) (nI 0) (3 * C)).toInt = 0 := by rw [pk_us]; rfl
      have q0 : qn (upd (m 13) 0 (nI (3 * C))) 0 = 3 * C := by unfold qn; rw [pk_us, nI_toInt (by omega)]; omega
      have hB : Bfs w v (3 * C) (upd A (3 * C) (nI 0)) (upd (m 13) 0 (nI (3 * C))) 1 := by
        refine ⟨fun i hi => ?_, fun σ hs => ?_, ?_, fun i j hij hj => ?_, fun σ hs h k hk => ?_, by omega, hA⟩
        · have : i = 0 := by omega
          subst this
          rw [q0, pk_us, hA, es]
          exact ⟨rfl, by omega, hc, Int.le_refl _, by omega⟩
        · by_cases e : σ = 3 * C
          · exact Or.inr ⟨0, by omega, by rw [q0, e]⟩
          · left; rw [pk_un e, a2 σ hs]; rfl
        · have u1 := cn_upd isN A (3 * C) (nI 0) (by rw [a2 _ (by omega)]; rfl) rfl 192 (by omega)
          have u2 := cn_all isN A 192 (fun i hi => by rw [a2 i hi]; rfl)
          omega
        · have hi0 : i = 0 := by omega
          have hj0 : j = 0 := by omega
          rw [hi0, hj0]
          exact Int.le_refl _
        · by_cases e : σ = 3 * C
          · subst e
            rw [hA, show (0 : Int).toNat + k = k by simp]
            exact hk
          · rw [pk_un e, a2 σ hs] at h
            exact absurd h (by decide)
      obtain ⟨r, A', Q', b1, b2⟩ := bfs_loop hr hw hv zFU 0 _ _ 1 (by omega) (by unfold zFU; omega) hB (fun _ i hi => by
        have : i = 0 := by omega
        subst this
        rw [q0, hA]; omega) (fun i hi => by omega)
      refine ⟨r, A', Q', ?_, b2⟩
      have ml : zrem (v + 4) 8 = lee v := m_lee hv
      unfold fX8_moves_27
      rw [ht, ob1_s, ml, z0, a1, nm_s, e3, gd_s (vp_in_nI (by omega) (by omega)), nm_s, nI_clamp (by omega), z1]
      rw [← z0] at b1
      exact b1
    have fin : ∃ (r : Int32) (A' Q' : Nat → Int32), (if m 0 12 = 0 then fX8_moves_27 m (m 12) (m 13) c 0 else fX8_moves_27 m (m 12) (m 13) c (m 0 21)) = some (r, A', Q') ∧ ((∃ F : Nat, F < 192 ∧ r = nI (F + 1) ∧ LM w v (F + 1) (3 * C) ∧ ¬ LM w v F (3 * C)) ∨ (r = -9 ∧ ∀ k, ¬ LM w v k (3 * C))) := by
      by_cases s12 : m 0 12 = 0
      · rw [if_pos s12] at hwm ⊢
        exact m27 _ hwm
      · rw [if_neg s12] at hwm ⊢
        exact m27 _ hwm
    obtain ⟨r, A', Q', b1, b2⟩ := fin
    refine ⟨r, A', Q', b1, ?_⟩
    unfold LM at b2
    rw [es, em] at b2
    rcases b2 with ⟨F, f1, f2, f3, f4⟩ | ⟨f1, f2⟩
    · exact Or.inl ⟨q, F, f1, f2, f3, f4⟩
    · exact Or.inr ⟨f1, fun _ => f2⟩
/-- the class's table says the same -/
theorem tab_eq {w : Nat → Nat → Int32} (hd : RDim (w 1 1) (w 1 2)) {v r : Int32} {t : Nat → Int32} (hF : Fin9 w v t) {C : Nat} (hc : CellOk w (nI C)) (hC : C < 64) (h : (fl w (nI C) = 1 ∧ ∃ F : Nat, F < 192 ∧ r = nI (F + 1) ∧ Lv w v (F + 1) (nI C) 0 ∧ ¬ Lv w v F (nI C) 0) ∨ (r = -9 ∧ (fl w (nI C) = 1 → ∀ k, ¬ Lv w v k (nI C) 0))) : t C = r ∧ (r = -9 ∨ 0 ≤ r.toInt) := by
  have e1 : C % 64 = C := by omega
  have e2 : C / 64 = 0 := by omega
  have lx : ∀ j, Lx w v j C ↔ (fl w (nI C) = 1 ∧ Lv w v j (nI C) 0) := fun j => by
    unfold Lx Fs
    rw [e1, e2]
    exact ⟨fun q => ⟨q.1.2, q.2⟩, fun q => ⟨⟨hc, q.1⟩, q.2⟩⟩
  rcases h with ⟨q, F, f1, f2, f3, f4⟩ | ⟨f1, f2⟩
  · refine ⟨?_, Or.inr (by rw [f2, nI_toInt (by omega)]; omega)⟩
    rcases hF C (by omega) with ⟨-, g⟩ | ⟨j, j1, j2, j3, j4, j5⟩
    · exact absurd ((lx _).mpr ⟨q, f3⟩) (g _)
    · have k1 := ((lx _).mp j4).2
      have a1 : F < j := by
        apply Nat.lt_of_not_le
        intro z
        exact f4 (k1.le z)
      have a2 : j ≤ F + 1 := by
        apply Nat.le_of_not_lt
        intro z
        exact j5 ((lx _).mpr ⟨q, f3.le (by omega)⟩)
      rw [j3, f2, show j = F + 1 by omega]
  · refine ⟨?_, Or.inl f1⟩
    rcases hF C (by omega) with ⟨g, -⟩ | ⟨j, j1, j2, j3, j4, j5⟩
    · rw [g, f1]
    · have k1 := (lx _).mp j4
      exact absurd k1.2 (f2 k1.1 j)
theorem zR_rm {n : Nat} {E M : Nat → Nat → Int32} (h : zR n E M) : RM (M 0) (E 12) := by
  obtain ⟨a1, a2, a3, a4, a5, ⟨d1, d2, d3⟩, a7⟩ := h.2.2.2.2.1
  exact ⟨a4.trans d2.symm, by rw [d2]; exact ⟨by decide, by decide⟩, Or.inl d1, Or.inl ⟨a5, d3⟩⟩
theorem zR_wnd {n : Nat} {E M : Nat → Nat → Int32} (hn : n < 1000) (h : zR n E M) (A Q : Nat → Int32) : fX8_wind_ (ups (ups M 12 A) 13 Q) (if M 0 12 = 0 then 0 else M 0 21) = some (wnd (E 12) (sh 3 E)) ∧ D8 (wnd (E 12) (sh 3 E)) := by
  have hm := zR_rm h
  obtain ⟨a1, a2, a3, a4, a5, a6, a7⟩ := h.2.2.2.2.1
  have hx : (E 12 9).toInt < 2147483647 := by have := a7.2; omega
  have e : (if M 0 12 = 0 then 0 else M 0 21) = E 12 9 := by
    rw [a1]
    rcases a2 with q | q
    · rw [if_pos q, (a3.2 q).1]
    · rw [if_neg (by rw [q]; decide)]
      exact (a3.1 q).1.2.2.2.2.2.2.2.2.1
  rw [e]
  exact ⟨m_wndAt h.2.1 (show RW (ups (ups M 12 A) 13 Q) (sh 3 E) from h.1) (show RM ((ups (ups M 12 A) 13 Q) 0) (E 12) from hm) hx, wnd_r hm hx⟩
theorem e_movesFrom {w0 : Nat → Nat → Int32} {C : Nat} (hC : C < 64) : fX2_movesFrom w0 (nI C) = some (w0 1 C) := by
  have k64 : (64 : Int32) = nI 64 := rfl
  have tv : fX7_valueAt 192 (w0 1) (nI C) = some (w0 1 (nI C).toNatClampNeg) := e_tab (by decide) (by rw [nI_toInt (by omega)]; omega) (by rw [nI_toInt (by omega)]; omega)
  unfold fX2_movesFrom
  rw [if_neg (nI_pos (by omega)), k64, if_neg (by rw [nI_leI (by omega) (by omega)]; omega), tv, ob1_s, nI_clamp (by omega)]
theorem sim_still {n : Nat} {E M : Nat → Nat → Int32} (hn : n < 1000) (h : zR n E M) (a0 : Int32) : ∃ (r : Int32) (c25 : Nat → Int32) (c28 : Nat → Int32) (d9 : Nat → Int32) (d12 : Nat → Int32) (d13 : Nat → Int32), fX7_still E a0 = some (r, c25, c28) ∧ fX8_still M a0 = some (r, d9, d12, d13) ∧ zR (n + 1) (ups (ups E 25 c25) 28 c28) (ups (ups (ups M 9 d9) 12 d12) 13 d13) := by
  have ref : ∀ r : Int32, isRef r → fX7_still E a0 = some (r, E 25, rf1 (E 28) r) → fX8_still M a0 = some (r, rf1 (M 9) r, M 12, M 13) → ∃ (r : Int32) (c25 : Nat → Int32) (c28 : Nat → Int32) (d9 : Nat → Int32) (d12 : Nat → Int32) (d13 : Nat → Int32), fX7_still E a0 = some (r, c25, c28) ∧ fX8_still M a0 = some (r, d9, d12, d13) ∧ zR (n + 1) (ups (ups E 25 c25) 28 c28) (ups (ups (ups M 9 d9) 12 d12) 13 d13) := fun r hr e1 e2 => ⟨r, _, _, _, _, _, e1, e2, by first | exact zR_ref h r | (simp only [ups_id]; exact zR_ref h r)⟩
  have hw := h.2.1
  have hr := h.1
  by_cases hc : CellOk (sh 3 E) a0
  · have x1 := e_has1 hw.1 hc
    have x2 := m_isCell1 hr hw.1 hc
    obtain ⟨hwm, hD⟩ := zR_wnd hn h (M 12) (M 13)
    obtain ⟨C, hC, eC⟩ : ∃ C : Nat, C < 64 ∧ a0 = nI C := ⟨a0.toInt.toNat, by have := cell_64 hw.1 hc; have := hc.1; omega, nI_of' hc.1⟩
    obtain ⟨t, t1, t2⟩ := e_reckon (w0 := sh 24 E) hw (wnd (E 12) (sh 3 E))
    obtain ⟨r, A', Q', m1, m2⟩ := m_moves hr hw hD hc hwm
    rw [eC] at m2
    obtain ⟨u1, u2⟩ := tab_eq hw.1 t2 (by rw [← eC]; exact hc) hC m2
    have hwe : fX5_windIn (E 12) (sh 3 E) = some (wnd (E 12) (sh 3 E)) := e_wnd hw
    have mf : fX2_movesFrom (sh 24 (ups E 25 t)) (nI C) = some (t C) := e_movesFrom hC
    have n1 : ¬ (1 : Int32) = 0 := by decide
    have e1 : fX7_still E a0 = some (r, t, E 28) := by
      unfold fX7_still
      simp only [ups_id]
      rw [h4has, x1, ob1_s, if_neg n1, hwe, ob1_s, t1, ob1_s, eC, mf, ob1_s, u1]
    have e2 : fX8_still M a0 = some (r, M 9, A', Q') := by
      unfold fX8_still
      simp only [ups_id]
      rw [x2, ob1_s, if_neg n1, m1, ob3_s]
    exact ⟨_, _, _, _, _, _, e1, e2, zR_mono h⟩
  · have x1 := e_has0 hw.1 hc
    have x2 := m_isCell0 hr hw.1 hc
    have e1 : fX7_still E a0 = some (-1, E 25, rf1 (E 28) (-1)) := by simp only [fX7_still, h4has, x1, ups_id, ob1_s, ob2_s, ob3_s, ob4_s, nm_s, ↓reduceIte, i10, e_ref _ r1, e_ref _ r2, e_ref _ r3, e_ref _ r4, e_ref _ r6, m_ref _ r1, m_ref _ r2, m_ref _ r3, m_ref _ r4, m_ref _ r6]
    have e2 : fX8_still M a0 = some (-1, rf1 (M 9) (-1), M 12, M 13) := by simp only [fX8_still, x2, ups_id, ob1_s, ob2_s, ob3_s, ob4_s, nm_s, ↓reduceIte, i10, e_ref _ r1, e_ref _ r2, e_ref _ r3, e_ref _ r4, e_ref _ r6, m_ref _ r1, m_ref _ r2, m_ref _ r3, m_ref _ r4, m_ref _ r6]
    exact ⟨_, _, _, _, _, _, e1, e2, zR_ref h (-1)⟩
theorem clears_loop {n : Nat} {E M : Nat → Nat → Int32} (hn : n < 1000) (h : zR n E M) {t : Nat → Int32} (ht : Fin9 (sh 3 E) (wnd (E 12) (sh 3 E)) t) {N : Nat} (hN : N ≤ 64) (hc : sh 3 E 1 1 * sh 3 E 1 2 = nI N) (hcell : ∀ j, j < N → CellOk (sh 3 E) (nI j)) : ∀ (f j : Nat) (x : Int32) (A Q : Nat → Int32), j ≤ N → N < f + j → ∃ (r : Int32) (A' Q' : Nat → Int32), zl3 (fX7_clears_26 E) f t x (nI j) = some (r, t) ∧ zl4 (fX8_clears_4 M) f A Q x (nI j) = some (r, A', Q') := by
  have hcm : M 0 0 * M 0 1 = nI N := by rw [h.1.1, h.1.2.1]; exact hc
  have hcw : fX1_cells (sh 4 E) = some (nI N) := by unfold fX1_cells; rw [← hc]; rfl
  intro f
  induction f with
  | zero => intro j x A Q h1 h2; omega
  | succ f ih =>
    intro j x A Q h1 h2
    show ∃ (r : Int32) (A' Q' : Nat → Int32), fX7_clears_26 E (zl3 (fX7_clears_26 E) f) t x (nI j) = some (r, t) ∧ fX8_clears_4 M (zl4 (fX8_clears_4 M) f) A Q x (nI j) = some (r, A', Q')
    have i2 := fun x A Q => ih (j + 1) x A Q
    generalize zl3 (fX7_clears_26 E) f = Z1 at *
    generalize zl4 (fX8_clears_4 M) f = Z2 at *
    unfold fX7_clears_26 fX7_clears_56 fX8_clears_4 fX8_clears_28
    rw [hcm, hcw, ob1_s]
    by_cases c : j = N
    · subst c
      rw [if_pos (Int32.le_refl _), if_pos (Int32.le_refl _)]
      exact ⟨x, A, Q, rfl, rfl⟩
    · have cN : ¬ nI N ≤ nI j := by rw [nI_leI (by omega) (by omega)]; omega
      have hok := hcell j (by omega)
      obtain ⟨hwm, hD⟩ := zR_wnd hn h A Q
      have hwm' : fX8_wind_ (ups (ups (ups (ups M 12 A) 13 Q) 12 ((ups (ups M 12 A) 13 Q) 12)) 13 ((ups (ups M 12 A) 13 Q) 13)) (if (ups (ups M 12 A) 13 Q) 0 12 = 0 then 0 else (ups (ups M 12 A) 13 Q) 0 21) = some (wnd (E 12) (sh 3 E)) := by
        rw [ups_id, ups_id]
        exact hwm
      obtain ⟨r, A', Q', m1, m2⟩ := m_moves (m := ups (ups M 12 A) 13 Q) (show RW (ups (ups M 12 A) 13 Q) (sh 3 E) from h.1) h.2.1 hD hok hwm'
      obtain ⟨u1, u2⟩ := tab_eq h.2.1.1 ht hok (by omega) m2
      have mf : fX2_movesFrom (sh 24 (ups E 25 t)) (nI j) = some (t j) := e_movesFrom (by omega)
      rw [if_neg cN, if_neg cN, mf, ob1_s, m1, ob3_s, u1, nI_1]
      rcases u2 with q | q
      · rw [if_pos q, if_pos (by rw [q]; decide)]
        exact i2 x A' Q' (by omega) (by omega)
      · rw [if_neg (fun e => by rw [e] at q; exact absurd q (by decide)), if_neg (nn' q)]
        exact i2 (x + 1) A' Q' (by omega) (by omega)
theorem sim_clears {n : Nat} {E M : Nat → Nat → Int32} (hn : n < 1000) (h : zR n E M) : ∃ (r : Int32) (c25 : Nat → Int32) (d12 : Nat → Int32) (d13 : Nat → Int32), fX7_clears E = some (r, c25) ∧ fX8_clears M = some (r, d12, d13) ∧ zR (n + 1) (ups E 25 c25) (ups (ups M 12 d12) 13 d13) := by
  have hw := h.2.1
  obtain ⟨N, n1, n2, n3, n4⟩ := cellN hw
  obtain ⟨t, t1, t2⟩ := e_reckon (w0 := sh 24 E) hw (wnd (E 12) (sh 3 E))
  obtain ⟨r, A', Q', a1, a2⟩ := clears_loop hn h t2 n1 n2 n3 zFU 0 0 (M 12) (M 13) (by omega) (by unfold zFU; omega)
  have hwe : fX5_windIn (E 12) (sh 3 E) = some (wnd (E 12) (sh 3 E)) := e_wnd hw
  have z0 : (0 : Int32) = nI 0 := rfl
  have e1 : fX7_clears E = some (r, t) := by
    unfold fX7_clears
    simp only [ups_id]
    rw [hwe, ob1_s, t1, ob1_s]
    exact a1
  exact ⟨_, _, _, _, e1, a2, zR_mono h⟩
