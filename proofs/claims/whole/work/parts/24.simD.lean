/-! lives, now, count, lays -/
def lvB (w : Nat → Nat → Int32) (t d : Int32) : Int32 := if d = 0 then zmin (w 0 6) ((w 0 6 * ((20 + 10 * t) + 30)) / 100) else zmin (w 0 6) ((w 0 6 * ((20 + 10 * t) + 0)) / 100)
theorem e_lvB (w : Nat → Nat → Int32) (t d : Int32) : fX6_livesOnBeach w t d = some (lvB w t d) := by
  unfold fX6_livesOnBeach fX6_livesOnBeach_17 lvB
  by_cases c : d = 0
  · rw [if_pos c, if_pos c]
  · rw [if_neg c, if_neg c]
def lvs (w : Nat → Nat → Int32) (s : Nat → Int32) : Int32 := if s 10 = 5 then lvB w (s 11) (s 12) else if s 10 = 6 then (if s 12 = 0 then (w 0 6 * 40) / 100 else (w 0 6 * 10) / 100) else if s 10 = 7 then 0 else w 0 6
theorem e_lives (w : Nat → Nat → Int32) (s : Nat → Int32) : fX5_livesIn s w = some (lvs w s) := by
  unfold fX5_livesIn lvs
  by_cases c5 : s 10 = 5
  · rw [if_pos c5, if_pos c5, e_lvB]; rfl
  · rw [if_neg c5, if_neg c5]
    by_cases c6 : s 10 = 6
    · rw [if_pos c6, if_pos c6]
      by_cases c : s 12 = 0
      · rw [if_pos c, if_pos c]
      · rw [if_neg c, if_neg c]
    · rw [if_neg c6, if_neg c6]
      by_cases c7 : s 10 = 7
      · rw [if_pos c7, if_pos c7]
      · rw [if_neg c7, if_neg c7]
theorem m_lives {m w : Nat → Nat → Int32} {s : Nat → Int32} (hr : RW m w) (hf : RF (m 0) s) : fX8_lives m = some (lvs w s) := by
  have e22 : m 0 22 = s 10 := hf.2.2.2.2.2.2.2.2.2.1
  have q3 : m 3 ((3 : Int32)).toNatClampNeg = w 0 6 := hr.2.2.2.2.2.2.2.2.2.2.2.2.1
  unfold fX8_lives fX8_lives_61 lvs lvB
  rw [e22, q3]
  by_cases c5 : s 10 = 5
  · obtain ⟨e23, e24⟩ := hf.2.2.2.2.2.2.2.2.2.2 (by rw [c5]; decide)
    rw [if_pos c5, if_pos c5, e23, e24]
    by_cases c : s 12 = 0
    · rw [if_pos c, if_pos c]
    · rw [if_neg c, if_neg c]
  · rw [if_neg c5, if_neg c5]
    by_cases c6 : s 10 = 6
    · obtain ⟨e23, e24⟩ := hf.2.2.2.2.2.2.2.2.2.2 (by rw [c6]; decide)
      rw [if_pos c6, if_pos c6, e24]
      by_cases c : s 12 = 0
      · rw [if_pos c, if_pos c]
      · rw [if_neg c, if_neg c]
    · rw [if_neg c6, if_neg c6]
      by_cases c7 : s 10 = 7
      · rw [if_pos c7, if_pos c7]
      · rw [if_neg c7, if_neg c7]
theorem sim_now {n : Nat} {E M : Nat → Nat → Int32} (hn : n < 1000) (h : zR n E M) (a0 : Int32) : ∃ (r : Int32) (c28 : Nat → Int32) (d9 : Nat → Int32), fX7_now E a0 = some (r, c28) ∧ fX8_now M a0 = some (r, d9) ∧ zR (n + 1) (ups E 28 c28) (ups M 9 d9) := by
  have ref : ∀ r : Int32, isRef r → fX7_now E a0 = some (r, rf1 (E 28) r) → fX8_now M a0 = some (r, rf1 (M 9) r) → ∃ (r : Int32) (c28 : Nat → Int32) (d9 : Nat → Int32), fX7_now E a0 = some (r, c28) ∧ fX8_now M a0 = some (r, d9) ∧ zR (n + 1) (ups E 28 c28) (ups M 9 d9) := fun r hr e1 e2 => ⟨r, _, _, e1, e2, by first | exact zR_ref h r | (simp only [ups_id]; exact zR_ref h r)⟩
  by_cases c0 : a0 < 0
  · exact ref (-2) r2 (by simp only [fX7_now, fX7_now_10, c0, ups_id, ob1_s, ob2_s, ob3_s, ob4_s, nm_s, ↓reduceIte, i10, e_ref _ r1, e_ref _ r2, e_ref _ r3, e_ref _ r4, e_ref _ r6, m_ref _ r1, m_ref _ r2, m_ref _ r3, m_ref _ r4, m_ref _ r6]) (by simp only [fX8_now, fX8_now_10, c0, ups_id, ob1_s, ob2_s, ob3_s, ob4_s, nm_s, ↓reduceIte, i10, e_ref _ r1, e_ref _ r2, e_ref _ r3, e_ref _ r4, e_ref _ r6, m_ref _ r1, m_ref _ r2, m_ref _ r3, m_ref _ r4, m_ref _ r6])
  · by_cases c1 : a0 ≤ 13
    · by_cases e : E 12 0 = 1
      · have hs := zR_SS h e
        obtain ⟨q1, q2, q3, q4, q5, q6, q7, q8, q9, q10⟩ := hs
        have n0 : ¬ E 12 0 = 0 := by rw [e]; decide
        have m0 : ¬ M 0 12 = 0 := by rw [q10]; decide
        have hw := h.2.1
        obtain ⟨f1, f2, f3, f4, f5, f6, f7, f8, f9, f10, f11⟩ := id q2
        have fin : ∀ r : Int32, fX7_now E a0 = some (r, E 28) → fX8_now M a0 = some (r, M 9) → ∃ (r : Int32) (c28 : Nat → Int32) (d9 : Nat → Int32), fX7_now E a0 = some (r, c28) ∧ fX8_now M a0 = some (r, d9) ∧ zR (n + 1) (ups E 28 c28) (ups M 9 d9) := fun r e1 e2 => ⟨r, _, _, e1, e2, by rw [ups_id, ups_id]; exact zR_mono h⟩
        by_cases k0 : a0 = 0
        · exact fin (E 12 1) (by unfold fX7_now; rw [if_neg c0, if_pos c1, if_neg n0, if_pos k0]) (by unfold fX8_now; rw [if_neg c0, if_pos c1, if_neg m0, if_pos k0, f1])
        by_cases k1 : a0 = 1
        · exact fin (E 12 2) (by unfold fX7_now; rw [if_neg c0, if_pos c1, if_neg n0, if_neg k0, if_pos k1]) (by unfold fX8_now; rw [if_neg c0, if_pos c1, if_neg m0, if_neg k0, if_pos k1, f2])
        by_cases k2 : a0 = 2
        · exact fin (E 12 3) (by unfold fX7_now; rw [if_neg c0, if_pos c1, if_neg n0, if_neg k0, if_neg k1, if_pos k2]) (by unfold fX8_now; rw [if_neg c0, if_pos c1, if_neg m0, if_neg k0, if_neg k1, if_pos k2, f3])
        by_cases k3 : a0 = 3
        · exact fin (E 12 4) (by unfold fX7_now; rw [if_neg c0, if_pos c1, if_neg n0, if_neg k0, if_neg k1, if_neg k2, if_pos k3]) (by unfold fX8_now; rw [if_neg c0, if_pos c1, if_neg m0, if_neg k0, if_neg k1, if_neg k2, if_pos k3, f4])
        by_cases k4 : a0 = 4
        · exact fin (E 12 5) (by unfold fX7_now; rw [if_neg c0, if_pos c1, if_neg n0, if_neg k0, if_neg k1, if_neg k2, if_neg k3, if_pos k4]) (by unfold fX8_now; rw [if_neg c0, if_pos c1, if_neg m0, if_neg k0, if_neg k1, if_neg k2, if_neg k3, if_pos k4, f5])
        by_cases k5 : a0 = 5
        · exact fin (E 12 6) (by unfold fX7_now; rw [if_neg c0, if_pos c1, if_neg n0, if_neg k0, if_neg k1, if_neg k2, if_neg k3, if_neg k4, if_pos k5]) (by unfold fX8_now; rw [if_neg c0, if_pos c1, if_neg m0, if_neg k0, if_neg k1, if_neg k2, if_neg k3, if_neg k4, if_pos k5, f6])
        by_cases k6 : a0 = 6
        · exact fin (E 12 7) (by unfold fX7_now; rw [if_neg c0, if_pos c1, if_neg n0, if_neg k0, if_neg k1, if_neg k2, if_neg k3, if_neg k4, if_neg k5, if_pos k6]) (by unfold fX8_now; rw [if_neg c0, if_pos c1, if_neg m0, if_neg k0, if_neg k1, if_neg k2, if_neg k3, if_neg k4, if_neg k5, if_pos k6, f7])
        by_cases k7 : a0 = 7
        · exact fin (E 12 8) (by unfold fX7_now; rw [if_neg c0, if_pos c1, if_neg n0, if_neg k0, if_neg k1, if_neg k2, if_neg k3, if_neg k4, if_neg k5, if_neg k6, if_pos k7]) (by unfold fX8_now; rw [if_neg c0, if_pos c1, if_neg m0, if_neg k0, if_neg k1, if_neg k2, if_neg k3, if_neg k4, if_neg k5, if_neg k6, if_pos k7, f8])
        by_cases k8 : a0 = 8
        · exact fin (E 12 9) (by unfold fX7_now; rw [if_neg c0, if_pos c1, if_neg n0, if_neg k0, if_neg k1, if_neg k2, if_neg k3, if_neg k4, if_neg k5, if_neg k6, if_neg k7, if_pos k8]) (by unfold fX8_now; rw [if_neg c0, if_pos c1, if_neg m0, if_neg k0, if_neg k1, if_neg k2, if_neg k3, if_neg k4, if_neg k5, if_neg k6, if_neg k7, if_pos k8, f9])
        by_cases k9 : a0 = 9
        · exact fin (E 12 10) (by unfold fX7_now; rw [if_neg c0, if_pos c1, if_neg n0, if_neg k0, if_neg k1, if_neg k2, if_neg k3, if_neg k4, if_neg k5, if_neg k6, if_neg k7, if_neg k8, if_pos k9]) (by unfold fX8_now; rw [if_neg c0, if_pos c1, if_neg m0, if_neg k0, if_neg k1, if_neg k2, if_neg k3, if_neg k4, if_neg k5, if_neg k6, if_neg k7, if_neg k8, if_pos k9, f10])
        by_cases k10 : a0 = 10
        · exact fin (wnd (E 12) (sh 3 E)) (by unfold fX7_now; rw [if_neg c0, if_pos c1, if_neg n0, if_neg k0, if_neg k1, if_neg k2, if_neg k3, if_neg k4, if_neg k5, if_neg k6, if_neg k7, if_neg k8, if_neg k9, if_pos k10, e_wnd hw]; rfl) (by unfold fX8_now; rw [if_neg c0, if_pos c1, if_neg m0, if_neg k0, if_neg k1, if_neg k2, if_neg k3, if_neg k4, if_neg k5, if_neg k6, if_neg k7, if_neg k8, if_neg k9, if_pos k10, ups_id, f9, m_wndAt hw q1 q3 (by have := q8.2; omega)]; rfl)
        by_cases k11 : a0 = 11
        · exact fin (tid (sh 3 E) (E 12 9)) (by unfold fX7_now fX5_tideIn; rw [if_neg c0, if_pos c1, if_neg n0, if_neg k0, if_neg k1, if_neg k2, if_neg k3, if_neg k4, if_neg k5, if_neg k6, if_neg k7, if_neg k8, if_neg k9, if_neg k10, if_pos k11, e_tid hw]; rfl) (by unfold fX8_now; rw [if_neg c0, if_pos c1, if_neg m0, if_neg k0, if_neg k1, if_neg k2, if_neg k3, if_neg k4, if_neg k5, if_neg k6, if_neg k7, if_neg k8, if_neg k9, if_neg k10, if_pos k11, ups_id, f9, m_tid hw q1]; rfl)
        by_cases k12 : a0 = 12
        · exact fin (E 3 8) (by unfold fX7_now; rw [if_neg c0, if_pos c1, if_neg n0, if_neg k0, if_neg k1, if_neg k2, if_neg k3, if_neg k4, if_neg k5, if_neg k6, if_neg k7, if_neg k8, if_neg k9, if_neg k10, if_neg k11, if_pos k12]) (by unfold fX8_now; rw [if_neg c0, if_pos c1, if_neg m0, if_neg k0, if_neg k1, if_neg k2, if_neg k3, if_neg k4, if_neg k5, if_neg k6, if_neg k7, if_neg k8, if_neg k9, if_neg k10, if_neg k11, if_pos k12, show M 3 ((5 : Int32)).toNatClampNeg = E 3 8 from h.2.2.1])
        exact fin (lvs (sh 3 E) (E 12)) (by unfold fX7_now; rw [if_neg c0, if_pos c1, if_neg n0, if_neg k0, if_neg k1, if_neg k2, if_neg k3, if_neg k4, if_neg k5, if_neg k6, if_neg k7, if_neg k8, if_neg k9, if_neg k10, if_neg k11, if_neg k12, e_lives]; rfl) (by unfold fX8_now; rw [if_neg c0, if_pos c1, if_neg m0, if_neg k0, if_neg k1, if_neg k2, if_neg k3, if_neg k4, if_neg k5, if_neg k6, if_neg k7, if_neg k8, if_neg k9, if_neg k10, if_neg k11, if_neg k12, ups_id, m_lives q1 q2]; rfl)
      · have e0 : E 12 0 = 0 := h.2.2.2.2.1.2.1.resolve_right e
        have m0 : M 0 12 = 0 := h.2.2.2.2.1.1.trans e0
        exact ref (-3) r3 (by simp only [fX7_now, c0, c1, e0, ups_id, ob1_s, ob2_s, ob3_s, ob4_s, nm_s, ↓reduceIte, i10, e_ref _ r1, e_ref _ r2, e_ref _ r3, e_ref _ r4, e_ref _ r6, m_ref _ r1, m_ref _ r2, m_ref _ r3, m_ref _ r4, m_ref _ r6]) (by simp only [fX8_now, c0, c1, m0, ups_id, ob1_s, ob2_s, ob3_s, ob4_s, nm_s, ↓reduceIte, i10, e_ref _ r1, e_ref _ r2, e_ref _ r3, e_ref _ r4, e_ref _ r6, m_ref _ r1, m_ref _ r2, m_ref _ r3, m_ref _ r4, m_ref _ r6])
    · exact ref (-2) r2 (by simp only [fX7_now, fX7_now_10, c0, c1, ups_id, ob1_s, ob2_s, ob3_s, ob4_s, nm_s, ↓reduceIte, i10, e_ref _ r1, e_ref _ r2, e_ref _ r3, e_ref _ r4, e_ref _ r6, m_ref _ r1, m_ref _ r2, m_ref _ r3, m_ref _ r4, m_ref _ r6]) (by simp only [fX8_now, fX8_now_10, c0, c1, ups_id, ob1_s, ob2_s, ob3_s, ob4_s, nm_s, ↓reduceIte, i10, e_ref _ r1, e_ref _ r2, e_ref _ r3, e_ref _ r4, e_ref _ r6, m_ref _ r1, m_ref _ r2, m_ref _ r3, m_ref _ r4, m_ref _ r6])
def layE (s : Nat → Int32) (c : Int32) : Nat → Int32 := ups (ups (ups (ups (ups (ups (ups (ups (ups (ups (ups (ups (ups (ups (ups (ups (ups s 0 (1 : Int32)) 1 c) 2 (0 : Int32)) 3 (1 : Int32)) 4 (3 : Int32)) 5 (2 : Int32)) 6 (0 : Int32)) 7 (0 : Int32)) 8 (0 : Int32)) 9 (0 : Int32)) 10 (1 : Int32)) 11 (0 : Int32)) 12 (0 : Int32)) 13 (0 : Int32)) 14 (0 : Int32)) 15 (2147483647 : Int32)) 16 (0 : Int32)
def layM (g : Nat → Int32) (c : Int32) : Nat → Int32 := ups (ups (ups (ups (ups (ups (ups (ups (ups (ups g 12 (1 : Int32)) 13 c) 21 (0 : Int32)) 22 (1 : Int32)) 16 (3 : Int32)) 17 (2 : Int32)) 18 (0 : Int32)) 19 (0 : Int32)) 20 (0 : Int32)) 15 (1 : Int32)
theorem e_lay (s : Nat → Int32) (c : Int32) : fX5_layIn s c = some (layE s c) := rfl
theorem layE_at (s : Nat → Int32) (c : Int32) : layE s c 0 = 1 ∧ layE s c 1 = c ∧ layE s c 2 = 0 ∧ layE s c 3 = 1 ∧ layE s c 4 = 3 ∧ layE s c 5 = 2 ∧ layE s c 6 = 0 ∧ layE s c 7 = 0 ∧ layE s c 8 = 0 ∧ layE s c 9 = 0 ∧ layE s c 10 = 1 ∧ layE s c 11 = 0 ∧ layE s c 12 = 0 ∧ layE s c 13 = 0 ∧ layE s c 14 = 0 ∧ layE s c 15 = 2147483647 := ⟨rfl, rfl, rfl, rfl, rfl, rfl, rfl, rfl, rfl, rfl, rfl, rfl, rfl, rfl, rfl, rfl⟩
theorem layM_at (g : Nat → Int32) (c : Int32) : layM g c 12 = 1 ∧ layM g c 13 = c ∧ layM g c 15 = 1 ∧ layM g c 16 = 3 ∧ layM g c 17 = 2 ∧ layM g c 18 = 0 ∧ layM g c 19 = 0 ∧ layM g c 20 = 0 ∧ layM g c 21 = 0 ∧ layM g c 22 = 1 ∧ (∀ k, k < 12 ∨ 24 < k → layM g c k = g k) := ⟨rfl, rfl, rfl, rfl, rfl, rfl, rfl, rfl, rfl, rfl, fun k hk => by unfold layM; rw [ups_n _ _ _ _ (by omega), ups_n _ _ _ _ (by omega), ups_n _ _ _ _ (by omega), ups_n _ _ _ _ (by omega), ups_n _ _ _ _ (by omega), ups_n _ _ _ _ (by omega), ups_n _ _ _ _ (by omega), ups_n _ _ _ _ (by omega), ups_n _ _ _ _ (by omega), ups_n _ _ _ _ (by omega)]⟩
theorem rm_lay {g s : Nat → Int32} {c : Int32} (h25 : g 25 = 0) (h26 : g 26 = -1) : RM (layM g c) (layE s c) := by
  have k := (layM_at g c).2.2.2.2.2.2.2.2.2.2
  have e := layE_at s c
  refine ⟨(k 25 (by omega)).trans (h25.trans e.2.2.2.2.2.2.2.2.2.2.2.2.2.2.1.symm), ?_, Or.inl e.2.2.2.2.2.2.2.2.2.2.2.2.2.1, Or.inl ⟨(k 26 (by omega)).trans h26, e.2.2.2.2.2.2.2.2.2.2.2.2.2.2.2⟩⟩
  rw [e.2.2.2.2.2.2.2.2.2.2.2.2.2.2.1]; unfold D8; decide
theorem m_lay {m w : Nat → Nat → Int32} {s : Nat → Int32} {c : Int32} (hw : OW w) (hr : RW m w) (h25 : m 0 25 = 0) (h26 : m 0 26 = -1) : fX8_lay m c = some (ups (layM (m 0) c) 14 (lee (wnd (layE s c) w))) ∧ D8 (wnd (layE s c) w) := by
  have hm : RM ((ups m 0 (layM (m 0) c)) 0) (layE s c) := rm_lay h25 h26
  have k := (layM_at (m 0) c).2.2.2.2.2.2.2.2.2.2
  have hr2 : RW (ups m 0 (layM (m 0) c)) w := hr.root (k 0 (by omega)) (k 1 (by omega)) (k 6 (by omega)) (k 9 (by omega))
  have hx : fX8_wind_ (ups m 0 (layM (m 0) c)) 0 = some (wnd (layE s c) w) := m_wndAt hw hr2 hm (x := 0) (by decide)
  have hD : D8 (wnd (layE s c) w) := wnd_r hm (x := 0) (by decide)
  refine ⟨?_, hD⟩
  show ob1 (fX8_wind_ (ups m 0 (layM (m 0) c)) 0) (fun r2 => some (ups (layM (m 0) c) 14 (zrem (r2 + 4) 8))) = _
  rw [hx, ob1_s, m_lee hD]
/-- a ship laid: in both, with a head, a sail and a ten of one's own -/
theorem ss_lay {m w : Nat → Nat → Int32} {s g' : Nat → Int32} {c hd sl tn : Int32} {T : Nat} (hr : RW m w) (h25 : m 0 25 = 0) (h26 : m 0 26 = -1) (hg : m 3 5 = w 0 8) (hc : CellOk w c) (hc63 : c.toInt ≤ 63) (hdd : D8 hd) (hsl : Rng sl 0 3) (htn : Rng tn 0 T) (x1 : g' 12 = 1) (x2 : g' 13 = c) (x3 : g' 14 = hd) (x4 : g' 15 = sl) (x5 : g' 16 = 3) (x6 : g' 17 = 2) (x7 : g' 18 = 0) (x8 : g' 19 = 0) (x9 : g' 20 = 0) (x10 : g' 21 = tn) (x11 : g' 22 = 1) (kk : ∀ k, k < 12 ∨ 24 < k → g' k = m 0 k) : SS T (ups m 0 g') w (ups (ups (ups (layE s c) 2 hd) 3 sl) 9 tn) := by
  obtain ⟨e0, e1, e2, e3, e4, e5, e6, e7, e8, e9, e10, e11, e12, e13, e14, e15⟩ := layE_at s c
  have n10 : ¬ 4 < (1 : Int32).toInt := by decide
  refine ⟨hr.root (kk 0 (by omega)) (kk 1 (by omega)) (kk 6 (by omega)) (kk 9 (by omega)), ?_, ?_, ?_, ?_, ?_, ?_, ?_, ?_, ?_⟩
  · rw [ups_s]
    unfold RF; simp only [ups_at]; simp
    refine ⟨x2.trans e1.symm, x3, x4, x5.trans e4.symm, x6.trans e5.symm, x7.trans e6.symm, x8.trans e7.symm, x9.trans e8.symm, x10, x11.trans e10.symm, fun q => ?_⟩
    rw [e10] at q; exact absurd q n10
  · rw [ups_s]
    unfold RM; simp only [ups_at]; simp
    rw [kk 25 (by omega), kk 26 (by omega), h25, h26, e13, e14, e15]
    exact ⟨rfl, ⟨by decide, by decide⟩, Or.inl rfl, Or.inl ⟨rfl, rfl⟩⟩
  · unfold RGn; simp only [ups_at]; simp
    rw [e13, if_pos rfl]; exact hg
  · unfold OS; simp only [ups_at]; simp
    rw [e1, e4, e5, e6, e7, e8, e10, e11, e12]
    exact ⟨hdd, hsl, ⟨by decide, by decide⟩, ⟨by decide, by decide⟩, ⟨by decide, by decide⟩, ⟨by decide, by decide⟩, ⟨by decide, by decide⟩, ⟨by decide, by decide⟩, ⟨by decide, by decide⟩, Or.inl rfl, ⟨⟨by have := hc.1; omega, hc63⟩, Or.inr hc.1⟩, fun _ => hc⟩
  · intro _
    rw [ups_n _ _ _ _ (by decide), ups_n _ _ _ _ (by decide), ups_n _ _ _ _ (by decide), ups_n _ _ _ _ (by decide), ups_n _ _ _ _ (by decide), ups_n _ _ _ _ (by decide), e7, e8]
    decide
  · intro q
    rw [ups_n _ _ _ _ (by decide), ups_n _ _ _ _ (by decide), ups_n _ _ _ _ (by decide), e10] at q
    exact absurd q (by decide)
  · rw [ups_s]; exact htn
  · rw [ups_n _ _ _ _ (by decide), ups_n _ _ _ _ (by decide), ups_n _ _ _ _ (by decide)]; exact e0
  · rw [ups_s]; exact x1
theorem zR_new {n T : Nat} {E M : Nat → Nat → Int32} {s' u : Nat → Int32} (h : zR n E M) (hT : T ≤ 100 * (n + 1)) (hs : SS T (ups M 0 u) (sh 3 E) s') (hid : Idle s') (kg : ∀ k, k < 12 ∨ 24 < k → u k = M 0 k) : zR (n + 1) (ups E 12 s') (ups M 0 u) := by
  obtain ⟨s1, s2, s3, s4, s5, s6, s7, s8, s9, s10⟩ := hs
  obtain ⟨h1, h2, h3, ⟨b1, b2, b3⟩, ⟨a1, a2, a3, a4, a5, a6, a7⟩, ⟨l1, l2, l3⟩, h7, ⟨i1, i2⟩, h9, h10⟩ := h
  exact ⟨s1, h2, h3, ⟨(kg 3 (by omega)).trans b1, b2, b3⟩, ⟨s10.trans s9.symm, Or.inr s9, ⟨fun _ => ⟨s2, s5, s6, s7⟩, fun q => absurd (s9.symm.trans q) (by decide)⟩, (kg 25 (by omega)).trans a4, (kg 26 (by omega)).trans a5, hid, (show Rng (s' 9) 0 (100 * (n + 1 : Nat)) from ⟨s8.1, by have := s8.2; omega⟩)⟩, ⟨(kg 28 (by omega)).trans l1, l2, l3⟩, h7, ⟨(kg 31 (by omega)).trans i1, i2⟩, h9, fun q => ⟨(h10 q).1, (h10 q).2.up⟩⟩
theorem sim_lays {n : Nat} {E M : Nat → Nat → Int32} (hn : n < 1000) (h : zR n E M) (a0 : Int32) : ∃ (r : Int32) (c12 : Nat → Int32) (c28 : Nat → Int32) (d0 : Nat → Int32) (d9 : Nat → Int32), fX7_lays E a0 = some (r, c12, c28) ∧ fX8_lays M a0 = some (r, d0, d9) ∧ zR (n + 1) (ups (ups E 12 c12) 28 c28) (ups (ups M 0 d0) 9 d9) := by
  have ref : ∀ r : Int32, isRef r → fX7_lays E a0 = some (r, E 12, rf1 (E 28) r) → fX8_lays M a0 = some (r, M 0, rf1 (M 9) r) → ∃ (r : Int32) (c12 : Nat → Int32) (c28 : Nat → Int32) (d0 : Nat → Int32) (d9 : Nat → Int32), fX7_lays E a0 = some (r, c12, c28) ∧ fX8_lays M a0 = some (r, d0, d9) ∧ zR (n + 1) (ups (ups E 12 c12) 28 c28) (ups (ups M 0 d0) 9 d9) := fun r hr e1 e2 => ⟨r, _, _, _, _, e1, e2, by first | exact zR_ref h r | (simp only [ups_id]; exact zR_ref h r)⟩
  have hw := h.2.1
  have hr := h.1
  by_cases hc : CellOk (sh 3 E) a0
  · have x1 := e_has1 hw.1 hc
    have x2 := m_isCell1 hr hw.1 hc
    have x3 := e_fl hw.1 hc
    have x4 := m_fl hr hw hc
    rcases fl01 (sh 3 E) a0 with t | t
    · rw [t] at x3 x4
      exact ref (-3) r3 (by simp only [fX7_lays, h4has, x1, x3, ups_id, ob1_s, ob2_s, ob3_s, ob4_s, nm_s, ↓reduceIte, i10, e_ref _ r1, e_ref _ r2, e_ref _ r3, e_ref _ r4, e_ref _ r6, m_ref _ r1, m_ref _ r2, m_ref _ r3, m_ref _ r4, m_ref _ r6]) (by simp only [fX8_lays, x2, x4, ups_id, ob1_s, ob2_s, ob3_s, ob4_s, nm_s, ↓reduceIte, i10, e_ref _ r1, e_ref _ r2, e_ref _ r3, e_ref _ r4, e_ref _ r6, m_ref _ r1, m_ref _ r2, m_ref _ r3, m_ref _ r4, m_ref _ r6])
    · rw [t] at x3 x4
      have h25 := h.2.2.2.2.1.2.2.2.1
      have h26 := h.2.2.2.2.1.2.2.2.2.1
      obtain ⟨y1, y2⟩ := m_lay (s := E 12) (c := a0) hw hr h25 h26
      have hwe : fX5_windIn (layE (E 12) a0) (sh 3 E) = some (wnd (layE (E 12) a0) (sh 3 E)) := e_wnd hw
      have e1 : fX7_lays E a0 = some (lee (wnd (layE (E 12) a0) (sh 3 E)), ups (layE (E 12) a0) 2 (lee (wnd (layE (E 12) a0) (sh 3 E))), E 28) := by simp only [fX7_lays, h4has, x1, x3, e_lay, hwe, e_lee, ups_id, ob1_s, ob2_s, ob3_s, ob4_s, nm_s, ↓reduceIte, i10, e_ref _ r1, e_ref _ r2, e_ref _ r3, e_ref _ r4, e_ref _ r6, m_ref _ r1, m_ref _ r2, m_ref _ r3, m_ref _ r4, m_ref _ r6]
      have e2 : fX8_lays M a0 = some (lee (wnd (layE (E 12) a0) (sh 3 E)), ups (layM (M 0) a0) 14 (lee (wnd (layE (E 12) a0) (sh 3 E))), M 9) := by simp only [fX8_lays, x2, x4, y1, ups_s, ups_id, ob1_s, ob2_s, ob3_s, ob4_s, nm_s, ↓reduceIte, i10, e_ref _ r1, e_ref _ r2, e_ref _ r3, e_ref _ r4, e_ref _ r6, m_ref _ r1, m_ref _ r2, m_ref _ r3, m_ref _ r4, m_ref _ r6]
      refine ⟨_, _, _, _, _, e1, e2, ?_⟩
      rw [ups_idn (by decide), ups_idn (by decide)]
      obtain ⟨g1, g2, g3, g4, g5, g6, g7, g8, g9, g10, g11⟩ := layM_at (M 0) a0
      have hs := ss_lay (T := 0) (s := E 12) (g' := ups (layM (M 0) a0) 14 (lee (wnd (layE (E 12) a0) (sh 3 E)))) (c := a0) (hd := lee (wnd (layE (E 12) a0) (sh 3 E))) (sl := 1) (tn := 0) hr h25 h26 h.2.2.1 hc (by have := cell_64 hw.1 hc; omega) (lee_r _) ⟨by decide, by decide⟩ ⟨by decide, by decide⟩ g1 g2 (ups_s _ _ _) g3 g4 g5 g6 g7 g8 g9 g10 (fun k hk => (ups_n _ _ _ _ (by omega)).trans (g11 k hk))
      obtain ⟨e0, e1, e2, e3, e4, e5, e6, e7, e8, e9, e10, e11, e12, e13, e14, e15⟩ := layE_at (E 12) a0
      have a3 : ups (ups (layE (E 12) a0) 2 (lee (wnd (layE (E 12) a0) (sh 3 E)))) 3 (1 : Int32) = ups (layE (E 12) a0) 2 (lee (wnd (layE (E 12) a0) (sh 3 E))) := by
        have : (1 : Int32) = layE (E 12) a0 3 := e3.symm
        rw [this, ups_idn (by decide)]
      have a9 : ups (ups (layE (E 12) a0) 2 (lee (wnd (layE (E 12) a0) (sh 3 E)))) 9 (0 : Int32) = ups (layE (E 12) a0) 2 (lee (wnd (layE (E 12) a0) (sh 3 E))) := by
        have : (0 : Int32) = layE (E 12) a0 9 := e9.symm
        rw [this, ups_idn (by decide)]
      rw [a3, a9] at hs
      exact zR_new h (Nat.zero_le _) hs ⟨e13, e14, e15⟩ (fun k hk => (ups_n _ _ _ _ (by omega)).trans (g11 k hk))
  · have x1 := e_has0 hw.1 hc
    have x2 := m_isCell0 hr hw.1 hc
    exact ref (-1) r1 (by simp only [fX7_lays, h4has, x1, ups_id, ob1_s, ob2_s, ob3_s, ob4_s, nm_s, ↓reduceIte, i10, e_ref _ r1, e_ref _ r2, e_ref _ r3, e_ref _ r4, e_ref _ r6, m_ref _ r1, m_ref _ r2, m_ref _ r3, m_ref _ r4, m_ref _ r6]) (by simp only [fX8_lays, x2, ups_id, ob1_s, ob2_s, ob3_s, ob4_s, nm_s, ↓reduceIte, i10, e_ref _ r1, e_ref _ r2, e_ref _ r3, e_ref _ r4, e_ref _ r6, m_ref _ r1, m_ref _ r2, m_ref _ r3, m_ref _ r4, m_ref _ r6])
