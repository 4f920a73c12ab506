/-! in mind: the class sails a copy, the model its own ship, and puts her back -/
def cpy (c s : Nat → Int32) : Nat → Int32 := ups (ups (ups (ups (ups (ups (ups (ups (ups (ups (ups (ups (ups (ups (ups (ups (ups c 0 (s 0)) 1 (s 1)) 2 (s 2)) 3 (s 3)) 4 (s 4)) 5 (s 5)) 6 (s 6)) 7 (s 7)) 8 (s 8)) 9 (s 9)) 10 (s 10)) 11 (s 11)) 12 (s 12)) 13 (s 13)) 14 (s 14)) 15 (s 15)) 16 (s 16)
theorem e_cpy (c : Nat → Int32) {s : Nat → Int32} (h0 : s 0 = 0 ∨ s 0 = 1) (h12 : s 12 = 0 ∨ s 12 = 1) (h13 : s 13 = 0 ∨ s 13 = 1) : fX5_copyFrom c s = some (cpy c s) := by
  unfold fX5_copyFrom
  rw [gz_s h0, gz_s h12, gz_s h13]
  rfl
theorem cpy_at (c s : Nat → Int32) : ∀ k, k < 17 → cpy c s k = s k := fun k hk => by
  rcases (show k = 0 ∨ k = 1 ∨ k = 2 ∨ k = 3 ∨ k = 4 ∨ k = 5 ∨ k = 6 ∨ k = 7 ∨ k = 8 ∨ k = 9 ∨ k = 10 ∨ k = 11 ∨ k = 12 ∨ k = 13 ∨ k = 14 ∨ k = 15 ∨ k = 16 by omega) with rfl | rfl | rfl | rfl | rfl | rfl | rfl | rfl | rfl | rfl | rfl | rfl | rfl | rfl | rfl | rfl | rfl <;> rfl
theorem SS.ext {T : Nat} {m w : Nat → Nat → Int32} {s s' : Nat → Int32} (h : SS T m w s) (hs : ∀ k, k < 17 → s' k = s k) : SS T m w s' := by
  unfold SS RF RM RGn OS TB AN at *
  rw [hs 0 (by omega), hs 1 (by omega), hs 2 (by omega), hs 3 (by omega), hs 4 (by omega), hs 5 (by omega), hs 6 (by omega), hs 7 (by omega), hs 8 (by omega), hs 9 (by omega), hs 10 (by omega), hs 11 (by omega), hs 12 (by omega), hs 13 (by omega), hs 14 (by omega), hs 15 (by omega), hs 16 (by omega)]
  exact h
/-- what the model keeps -/
def Kept (K g0 : Nat → Int32) (x : Int32) : Prop := (∀ i, i < 11 → K i = g0 (13 + i)) ∧ K 11 = (if g0 24 = 0 then 0 else 1) ∧ K 12 = x
theorem m_keep (m : Nat → Nat → Int32) : ∃ K : Nat → Int32, fX8_keep m = some K ∧ Kept K (m 0) (m 3 5) := by
  have fin : ∀ b : Int32, ∃ K : Nat → Int32, (nm (upd (m 11) ((0 : Int32)).toNatClampNeg (m 0 13)) (fun g1 => (nm (upd g1 ((1 : Int32)).toNatClampNeg (m 0 14)) (fun g2 => (nm (upd g2 ((2 : Int32)).toNatClampNeg (m 0 15)) (fun g3 => (nm (upd g3 ((3 : Int32)).toNatClampNeg (m 0 16)) (fun g4 => (nm (upd g4 ((4 : Int32)).toNatClampNeg (m 0 17)) (fun g5 => (nm (upd g5 ((5 : Int32)).toNatClampNeg (m 0 18)) (fun g6 => (nm (upd g6 ((6 : Int32)).toNatClampNeg (m 0 19)) (fun g7 => (nm (upd g7 ((7 : Int32)).toNatClampNeg (m 0 20)) (fun g8 => (nm (upd g8 ((8 : Int32)).toNatClampNeg (m 0 21)) (fun g9 => (nm (upd g9 ((9 : Int32)).toNatClampNeg (m 0 22)) (fun g10 => (nm (upd g10 ((10 : Int32)).toNatClampNeg (m 0 23)) (fun g11 => fX8_keep_133 m g11 11 b)))))))))))))))))))))) = some K ∧ (∀ i, i < 11 → K i = m 0 (13 + i)) ∧ K 11 = b ∧ K 12 = m 3 5 := fun b => by
    unfold fX8_keep_133
    simp only [nm_s]
    rw [gd_s (vin_lit (by decide))]
    refine ⟨_, rfl, fun i hi => ?_, rfl, rfl⟩
    rcases (show i = 0 ∨ i = 1 ∨ i = 2 ∨ i = 3 ∨ i = 4 ∨ i = 5 ∨ i = 6 ∨ i = 7 ∨ i = 8 ∨ i = 9 ∨ i = 10 by omega) with rfl | rfl | rfl | rfl | rfl | rfl | rfl | rfl | rfl | rfl | rfl <;> rfl
  unfold fX8_keep Kept
  by_cases c : m 0 24 = 0
  · simp only [if_pos c]
    exact fin 0
  · simp only [if_neg c]
    exact fin 1
/-- the ship put back -/
def RST (g0 u : Nat → Int32) : Prop := (∀ k, 13 ≤ k → k ≤ 23 → u k = g0 k) ∧ u 24 = (if g0 24 = 0 then 0 else 1) ∧ u 25 = 0 ∧ u 26 = -1 ∧ (∀ k, k < 13 ∨ k = 28 ∨ k = 31 → u k = g0 k)
theorem m_again {m : Nat → Nat → Int32} {g0 : Nat → Int32} {x : Int32} (hK : Kept (m 11) g0 x) (hf : ∀ k, k < 13 ∨ k = 28 ∨ k = 31 → m 0 k = g0 k) : ∃ u : Nat → Int32, fX8_again m = some (u, upd (m 3) 5 x) ∧ RST g0 u := by
  obtain ⟨k1, k2, k3⟩ := hK
  have fin : ∀ b : Int32, (b = 0 ∨ b = 1) → b = (if g0 24 = 0 then 0 else 1) → ∃ u : Nat → Int32, fX8_again_132 m (ups (ups (ups (ups (ups (ups (ups (ups (ups (ups (ups (m 0) 13 ((m 11) ((0 : Int32)).toNatClampNeg)) 14 ((m 11) ((1 : Int32)).toNatClampNeg)) 15 ((m 11) ((2 : Int32)).toNatClampNeg)) 16 ((m 11) ((3 : Int32)).toNatClampNeg)) 17 ((m 11) ((4 : Int32)).toNatClampNeg)) 18 ((m 11) ((5 : Int32)).toNatClampNeg)) 19 ((m 11) ((6 : Int32)).toNatClampNeg)) 20 ((m 11) ((7 : Int32)).toNatClampNeg)) 21 ((m 11) ((8 : Int32)).toNatClampNeg)) 22 ((m 11) ((9 : Int32)).toNatClampNeg)) 23 ((m 11) ((10 : Int32)).toNatClampNeg)) (m 3) b = some (u, upd (m 3) 5 x) ∧ RST g0 u := fun b hb e => by
    unfold fX8_again_132
    rw [gz_s hb, nm_s]
    have e12 : (m 11) ((12 : Int32)).toNatClampNeg = x := k3
    rw [e12]
    refine ⟨_, rfl, ?_, ?_, rfl, rfl, ?_⟩
    · intro k h1 h2
      have e : k = 13 + (k - 13) := by omega
      rcases (show k = 13 ∨ k = 14 ∨ k = 15 ∨ k = 16 ∨ k = 17 ∨ k = 18 ∨ k = 19 ∨ k = 20 ∨ k = 21 ∨ k = 22 ∨ k = 23 by omega) with rfl | rfl | rfl | rfl | rfl | rfl | rfl | rfl | rfl | rfl | rfl
      · exact k1 0 (by omega)
      · exact k1 1 (by omega)
      · exact k1 2 (by omega)
      · exact k1 3 (by omega)
      · exact k1 4 (by omega)
      · exact k1 5 (by omega)
      · exact k1 6 (by omega)
      · exact k1 7 (by omega)
      · exact k1 8 (by omega)
      · exact k1 9 (by omega)
      · exact k1 10 (by omega)
    · exact e
    · intro k hk
      rw [ups_n _ _ _ _ (by omega), ups_n _ _ _ _ (by omega), ups_n _ _ _ _ (by omega), ups_n _ _ _ _ (by omega), ups_n _ _ _ _ (by omega), ups_n _ _ _ _ (by omega), ups_n _ _ _ _ (by omega), ups_n _ _ _ _ (by omega), ups_n _ _ _ _ (by omega), ups_n _ _ _ _ (by omega), ups_n _ _ _ _ (by omega), ups_n _ _ _ _ (by omega), ups_n _ _ _ _ (by omega), ups_n _ _ _ _ (by omega)]
      exact hf k hk
  unfold fX8_again
  have e11 : (m 11) ((11 : Int32)).toNatClampNeg = (if g0 24 = 0 then 0 else 1) := k2
  by_cases c : (m 11) ((11 : Int32)).toNatClampNeg = 1
  · rw [if_pos c]
    exact fin 1 (Or.inr rfl) (c.symm.trans e11)
  · rw [if_neg c]
    refine fin 0 (Or.inl rfl) ?_
    rw [e11] at c
    by_cases d : g0 24 = 0
    · rw [if_pos d]
    · rw [if_neg d] at c; exact absurd rfl c
theorem RST.rf {g0 u s : Nat → Int32} {w : Nat → Nat → Int32} (h : RST g0 u) (hf : RF g0 s) (ho : OS w s) : RF u s := by
  obtain ⟨h1, h2, -⟩ := h
  obtain ⟨f1, f2, f3, f4, f5, f6, f7, f8, f9, f10, f11⟩ := hf
  refine ⟨(h1 13 (by omega) (by omega)).trans f1, (h1 14 (by omega) (by omega)).trans f2, (h1 15 (by omega) (by omega)).trans f3, (h1 16 (by omega) (by omega)).trans f4, (h1 17 (by omega) (by omega)).trans f5, (h1 18 (by omega) (by omega)).trans f6, (h1 19 (by omega) (by omega)).trans f7, (h1 20 (by omega) (by omega)).trans f8, (h1 21 (by omega) (by omega)).trans f9, (h1 22 (by omega) (by omega)).trans f10, fun q => ⟨(h1 23 (by omega) (by omega)).trans (f11 q).1, ?_⟩⟩
  rw [h2, (f11 q).2]
  rcases ho.2.2.2.2.2.2.2.2.2.1 with e | e <;> rw [e] <;> decide
theorem RST.again {g0 u v : Nat → Int32} (h : RST g0 u) (h2 : RST u v) : RST g0 v := by
  obtain ⟨a1, a2, a3, a4, a5⟩ := h
  obtain ⟨b1, b2, b3, b4, b5⟩ := h2
  refine ⟨fun k p q => (b1 k p q).trans (a1 k p q), ?_, b3, b4, fun k hk => (b5 k hk).trans (a5 k hk)⟩
  rw [b2, a2]
  by_cases c : g0 24 = 0
  · rw [if_pos c, if_pos rfl]
  · rw [if_neg c, if_neg (by decide)]
theorem upd_id {f : Nat → Int32} {k : Nat} : upd f k (f k) = f := by
  funext j
  by_cases h : j = k
  · subst h; rw [pk_us]
  · rw [pk_un h]
theorem zR_mind {n : Nat} {E M : Nat → Nat → Int32} {u c K : Nat → Int32} (h : zR n E M) (e : E 12 0 = 1) (hu : RST (M 0) u) : zR (n + 1) (ups E 13 c) (ups (ups M 0 u) 11 K) := by
  obtain ⟨h1, h2, h3, ⟨b1, b2, b3⟩, ⟨a1, a2, a3, a4, a5, a6, a7⟩, ⟨l1, l2, l3⟩, h7, ⟨i1, i2⟩, h9, h10⟩ := h
  obtain ⟨r1, r2, r3, r4, r5⟩ := id hu
  obtain ⟨f, o, t⟩ := a3.1 e
  have hr : RW (ups M 0 u) (sh 3 E) := h1.root (r5 0 (by omega)) (r5 1 (by omega)) (r5 6 (by omega)) (r5 9 (by omega))
  exact ⟨hr, h2, h3, ⟨(r5 3 (by omega)).trans b1, b2, b3⟩, ⟨(r5 12 (by omega)).trans a1, a2, ⟨fun _ => ⟨hu.rf f o, o, t⟩, fun q => absurd (e.symm.trans q) (by decide)⟩, r3, r4, a6, a7.up⟩, ⟨(r5 28 (by omega)).trans l1, l2, l3⟩, h7, ⟨(r5 31 (by omega)).trans i1, i2⟩, h9, fun q => ⟨(h10 q).1, (h10 q).2.up⟩⟩
theorem bun4 {M : Nat → Nat → Int32} {g d K : Nat → Int32} : ups (ups (ups (ups M 0 g) 3 d) 9 (M 9)) 11 K = ups (ups (ups M 3 d) 11 K) 0 g := by
  funext k
  by_cases h0 : k = 0
  · subst h0; rfl
  · by_cases h3 : k = 3
    · subst h3; rfl
    · by_cases h9 : k = 9
      · subst h9; rfl
      · by_cases h11 : k = 11
        · subst h11; rfl
        · rw [ups_n _ _ _ _ h11, ups_n _ _ _ _ h9, ups_n _ _ _ _ h3, ups_n _ _ _ _ h0, ups_n _ _ _ _ h0, ups_n _ _ _ _ h11, ups_n _ _ _ _ h3]
/-- the model's ship, kept, and put back, in the bundle that the methods carry -/
theorem again4 {M : Nat → Nat → Int32} {g d K : Nat → Int32} (hK : Kept K (M 0) (M 3 5)) (hg : ∀ k, k < 13 ∨ k = 28 ∨ k = 31 → g k = M 0 k) (hd : ∀ k, k ≠ 5 → d k = M 3 k) : ∃ u : Nat → Int32, fX8_again (ups (ups (ups (ups M 0 g) 3 d) 9 (M 9)) 11 K) = some (u, M 3) ∧ RST (M 0) u := by
  obtain ⟨u, h1, h2⟩ := m_again (m := ups (ups (ups (ups M 0 g) 3 d) 9 (M 9)) 11 K) (g0 := M 0) (x := M 3 5) hK hg
  refine ⟨u, ?_, h2⟩
  rw [h1]
  have e : upd (ups (ups (ups (ups M 0 g) 3 d) 9 (M 9)) 11 K 3) 5 (M 3 5) = M 3 := by
    show upd d 5 (M 3 5) = M 3
    funext k
    by_cases c : k = 5
    · subst c; rw [pk_us]
    · rw [pk_un c, hd k c]
  rw [e]
/-- the ship put back is the ship -/
theorem ss_rst {T : Nat} {M w : Nat → Nat → Int32} {u s K : Nat → Int32} (h : SS T M w s) (h0 : s 13 = 0 ∧ s 14 = 0 ∧ s 15 = 2147483647) (hu : RST (M 0) u) : SS T (ups (ups (ups M 3 (M 3)) 11 K) 0 u) w s := by
  obtain ⟨h1, h2, h3, h4, h5, h6, h7, h8, h9, h10⟩ := h
  obtain ⟨r1, r2, r3, r4, r5⟩ := id hu
  have hr : RW (ups M 0 u) w := h1.root (r5 0 (by omega)) (r5 1 (by omega)) (r5 6 (by omega)) (r5 9 (by omega))
  refine ⟨hr, hu.rf h2 h5, ⟨?_, h3.2.1, h3.2.2.1, Or.inl ⟨?_, h0.2.2⟩⟩, h4, h5, h6, h7, h8, h9, ?_⟩
  · rw [ups_s, h0.2.1]; exact r3
  · rw [ups_s]; exact r4
  · rw [ups_s]; exact (r5 12 (by omega)).trans h10
theorem FrG.k {g g' : Nat → Int32} (h : FrG g g') : ∀ k, k < 13 ∨ k = 28 ∨ k = 31 → g' k = g k := fun k hk => h k (by omega)
theorem ss_sail {T : Nat} {B w : Nat → Nat → Int32} {g s : Nat → Int32} {v : Int32} (h : SS T (ups B 0 g) w s) (hv : Rng v 0 3) : SS T (ups B 0 (ups g 15 v)) w (ups s 3 v) := by
  obtain ⟨h1, h2, h3, h4, h5, h6, h7, h8, h9, h10⟩ := h
  refine ⟨h1, ?_, h3, h4, ?_, h6, h7, h8, h9, h10⟩
  · obtain ⟨f1, f2, f3, f4, f5, f6, f7, f8, f9, f10, f11⟩ := h2
    rw [ups_s]
    unfold RF; simp only [ups_at]; simp
    exact ⟨f1, f2, f4, f5, f6, f7, f8, f9, f10, f11⟩
  · obtain ⟨o2, o3, o4, o5, o6, o7, o8, o10, o11, o12, o1, oc⟩ := h5
    unfold OS; simp only [ups_at]; simp
    exact ⟨o2, hv, o4, o5, o6, o7, o8, o10, o11, o12, o1, oc⟩
/-- a root that the model has put back, or never touched -/
def GR (g0 g : Nat → Int32) : Prop := RST g0 g ∨ g = g0
theorem GR.k {g0 g : Nat → Int32} (h : GR g0 g) : ∀ k, k < 13 ∨ k = 28 ∨ k = 31 → g k = g0 k := fun k hk => by
  rcases h with h | h
  · exact h.2.2.2.2 k hk
  · rw [h]
theorem GR.ss {T : Nat} {M w : Nat → Nat → Int32} {g s K : Nat → Int32} (h : SS T M w s) (h0 : s 13 = 0 ∧ s 14 = 0 ∧ s 15 = 2147483647) (hu : GR (M 0) g) : SS T (ups (ups (ups M 3 (M 3)) 11 K) 0 g) w s := by
  rcases hu with hu | hu
  · exact ss_rst h h0 hu
  · subst hu; exact h
theorem line_step {n : Nat} {E M : Nat → Nat → Int32} {K : Nat → Int32} (hn : n < 1000) (h : zR n E M) (e : E 12 0 = 1) (hK : Kept K (M 0) (M 3 5)) (v : Nat) (h1 : 1 ≤ v) (h3 : v ≤ 3) (f : Nat) (g c : Nat → Int32) (hg : GR (M 0) g) : ∃ u c' : Nat → Int32, RST (M 0) u ∧ ((zl6 (fX8_line_23 M) (f + 1) g (M 3) (M 9) K (-9) (nI v) = zl6 (fX8_line_23 M) f u (M 3) (M 9) K (nI v) (nI (v + 1)) ∧ zl3 (fX7_line_19 E) (f + 1) c (E 28) (nI v) = some (nI v, c', E 28)) ∨ (zl6 (fX8_line_23 M) (f + 1) g (M 3) (M 9) K (-9) (nI v) = zl6 (fX8_line_23 M) f u (M 3) (M 9) K (-9) (nI (v + 1)) ∧ zl3 (fX7_line_19 E) (f + 1) c (E 28) (nI v) = zl3 (fX7_line_19 E) f c' (E 28) (nI (v + 1)))) := by
  have hs := zR_SS h e
  have hw := h.2.1
  have hid := h.2.2.2.2.1.2.2.2.2.2.1
  have ho := hs.2.2.2.2.1
  have hcp := e_cpy c (s := E 12) (Or.inr e) ho.2.2.2.2.2.2.2.2.2.1 (Or.inl hid.1)
  have hv : Rng (nI v) 0 3 := by unfold Rng; rw [nI_toInt (by omega)]; omega
  have s1 : SS (100 * n) (ups (ups (ups M 3 (M 3)) 11 K) 0 (ups g 15 (nI v))) (sh 3 E) (ups (cpy c (E 12)) 3 (nI v)) := ss_sail ((GR.ss (K := K) hs hid hg).ext (cpy_at c (E 12))) hv
  have n3 : ¬ (3 : Int32) < nI v := fun q => by have := ilt.mp q; rw [nI_toInt (by omega)] at this; have e3 : (3 : Int32).toInt = 3 := rfl; omega
  have n9 : ¬ (0 : Int32) ≤ -9 := by decide
  obtain ⟨g', y1, y2, y3, y4⟩ := m_tens (w := sh 3 E) (B := ups (ups M 3 (M 3)) 11 K) hw (N := 60) (by decide) (fun F G i => zl7 (fX8_line_39 M (zl6 (fX8_line_23 M) f)) F G (M 3) (M 9) K (-9) (nI v) i) (fun G => if G 22 = 8 then fX8_line_66 M (zl6 (fX8_line_23 M) f) G (M 3) (M 9) K (nI v) (nI v) else fX8_line_66 M (zl6 (fX8_line_23 M) f) G (M 3) (M 9) K (-9) (nI v)) (fun F G i => by
      show fX8_line_39 M (zl6 (fX8_line_23 M) f) (zl7 (fX8_line_39 M (zl6 (fX8_line_23 M) f)) F) G (M 3) (M 9) K (-9) (nI v) i = _
      unfold fX8_line_39
      rw [bun4]
      rfl) zFU 0 (100 * n) _ _ (by omega) (by omega) (by unfold zFU; omega) s1
  have y1' : zl7 (fX8_line_39 M (zl6 (fX8_line_23 M) f)) zFU (ups g 15 (nI v)) (M 3) (M 9) K (-9) (nI v) 0 = (if g' 22 = 8 then fX8_line_66 M (zl6 (fX8_line_23 M) f) g' (M 3) (M 9) K (nI v) (nI v) else fX8_line_66 M (zl6 (fX8_line_23 M) f) g' (M 3) (M 9) K (-9) (nI v)) := y1
  rw [Nat.sub_zero] at y2 y3
  have kf : ∀ k, k < 13 ∨ k = 28 ∨ k = 31 → g' k = M 0 k := fun k hk => (y4 k (by omega)).trans ((ups_n _ _ _ _ (by omega)).trans (hg.k k hk))
  obtain ⟨u, z1, z2⟩ := again4 (d := M 3) hK kf (fun _ _ => rfl)
  have et := e_tens (w := sh 3 E) (B := ups (ups M 3 (M 3)) 11 K) hw (N := 60) (by decide) (by omega) s1
  have e60 : (60 : Int32) = nI 60 := rfl
  have e22 : g' 22 = tens (sh 3 E) 60 (ups (cpy c (E 12)) 3 (nI v)) 10 := y2.2.1.2.2.2.2.2.2.2.2.2.1
  have mM : ∀ x : Int32, fX8_line_66 M (zl6 (fX8_line_23 M) f) g' (M 3) (M 9) K x (nI v) = zl6 (fX8_line_23 M) f u (M 3) (M 9) K x (nI (v + 1)) := fun x => by
    unfold fX8_line_66
    rw [z1, ob2_s, nI_1]
  refine ⟨u, tens (sh 3 E) 60 (ups (cpy c (E 12)) 3 (nI v)), z2, ?_⟩
  have hM : zl6 (fX8_line_23 M) (f + 1) g (M 3) (M 9) K (-9) (nI v) = (if g' 22 = 8 then fX8_line_66 M (zl6 (fX8_line_23 M) f) g' (M 3) (M 9) K (nI v) (nI v) else fX8_line_66 M (zl6 (fX8_line_23 M) f) g' (M 3) (M 9) K (-9) (nI v)) := by
    show fX8_line_23 M (zl6 (fX8_line_23 M) f) g (M 3) (M 9) K (-9) (nI v) = _
    unfold fX8_line_23
    rw [if_neg n3, if_neg n9]
    exact y1'
  have hE : zl3 (fX7_line_19 E) (f + 1) c (E 28) (nI v) = (if tens (sh 3 E) 60 (ups (cpy c (E 12)) 3 (nI v)) 10 = 8 then some (nI v, tens (sh 3 E) 60 (ups (cpy c (E 12)) 3 (nI v)), E 28) else zl3 (fX7_line_19 E) f (tens (sh 3 E) 60 (ups (cpy c (E 12)) 3 (nI v))) (E 28) (nI (v + 1))) := by
    show fX7_line_19 E (zl3 (fX7_line_19 E) f) c (E 28) (nI v) = _
    unfold fX7_line_19
    rw [if_neg n3, hcp, ob1_s, e60, et, ob1_s, nI_1]
  rw [hM, hE, e22]
  by_cases c8 : tens (sh 3 E) 60 (ups (cpy c (E 12)) 3 (nI v)) 10 = 8
  · left
    rw [if_pos c8, if_pos c8]
    exact ⟨mM _, rfl⟩
  · right
    rw [if_neg c8, if_neg c8]
    exact ⟨mM _, rfl⟩
theorem line_done {M : Nat → Nat → Int32} {u K : Nat → Int32} (f v : Nat) (hv : v < 1000) (x : Int32) : zl6 (fX8_line_23 M) (f + 1) u (M 3) (M 9) K (nI v) x = some (nI v, u, M 3, M 9, K) := by
  show fX8_line_23 M (zl6 (fX8_line_23 M) f) u (M 3) (M 9) K (nI v) x = _
  unfold fX8_line_23
  by_cases c : 3 < x
  · rw [if_pos c]
  · rw [if_neg c, if_pos (nI_pos' (by omega))]
theorem line_all {n : Nat} {E M : Nat → Nat → Int32} {K : Nat → Int32} (hn : n < 1000) (h : zR n E M) (e : E 12 0 = 1) (hK : Kept K (M 0) (M 3 5)) (v : Nat) (h1 : 1 ≤ v) (h4 : v ≤ 4) : ∀ (j f : Nat) (g c : Nat → Int32), v + j = 4 → j + 2 ≤ f → GR (M 0) g → (v = 4 → RST (M 0) g) → ∃ (r : Int32) (u c' : Nat → Int32), RST (M 0) u ∧ zl6 (fX8_line_23 M) f g (M 3) (M 9) K (-9) (nI v) = some (r, u, M 3, M 9, K) ∧ zl3 (fX7_line_19 E) f c (E 28) (nI v) = some (r, c', E 28) := by
  intro j
  induction j generalizing v with
  | zero =>
    intro f g c hv hf hg hr
    have hv4 : v = 4 := by omega
    obtain ⟨f', rfl⟩ : ∃ f', f = f' + 1 := ⟨f - 1, by omega⟩
    subst hv4
    refine ⟨-9, g, c, hr rfl, ?_, ?_⟩
    · show fX8_line_23 M (zl6 (fX8_line_23 M) f') g (M 3) (M 9) K (-9) (nI 4) = _
      unfold fX8_line_23
      rw [if_pos (by decide)]
    · show fX7_line_19 E (zl3 (fX7_line_19 E) f') c (E 28) (nI 4) = _
      unfold fX7_line_19
      rw [if_pos (by decide)]
  | succ j ih =>
    intro f g c hv hf hg hr
    obtain ⟨f', rfl⟩ : ∃ f', f = f' + 1 := ⟨f - 1, by omega⟩
    obtain ⟨u, c', z, ⟨a1, a2⟩ | ⟨a1, a2⟩⟩ := line_step hn h e hK v h1 (by omega) f' g c hg
    · obtain ⟨f2, rfl⟩ : ∃ f2, f' = f2 + 1 := ⟨f' - 1, by omega⟩
      exact ⟨nI v, u, c', z, a1.trans (line_done f2 v (by omega) _), a2⟩
    · obtain ⟨r, u2, c2, b1, b2, b3⟩ := ih (v + 1) (by omega) (by omega) f' u c' (by omega) (by omega) (Or.inl z) (fun _ => z)
      exact ⟨r, u2, c2, b1, a1.trans b2, a2.trans b3⟩
theorem sim_line {n : Nat} {E M : Nat → Nat → Int32} (hn : n < 1000) (h : zR n E M) : ∃ (r : Int32) (c13 : Nat → Int32) (c28 : Nat → Int32) (d0 : Nat → Int32) (d3 : Nat → Int32) (d9 : Nat → Int32) (d11 : Nat → Int32), fX7_line E = some (r, c13, c28) ∧ fX8_line M = some (r, d0, d3, d9, d11) ∧ zR (n + 1) (ups (ups E 13 c13) 28 c28) (ups (ups (ups (ups M 0 d0) 3 d3) 9 d9) 11 d11) := by
  have ref : ∀ r : Int32, isRef r → fX7_line E = some (r, E 13, rf1 (E 28) r) → fX8_line M = some (r, M 0, M 3, rf1 (M 9) r, M 11) → ∃ (r : Int32) (c13 : Nat → Int32) (c28 : Nat → Int32) (d0 : Nat → Int32) (d3 : Nat → Int32) (d9 : Nat → Int32) (d11 : Nat → Int32), fX7_line E = some (r, c13, c28) ∧ fX8_line M = some (r, d0, d3, d9, d11) ∧ zR (n + 1) (ups (ups E 13 c13) 28 c28) (ups (ups (ups (ups M 0 d0) 3 d3) 9 d9) 11 d11) := fun r hr e1 e2 => ⟨r, _, _, _, _, _, _, e1, e2, by first | exact zR_ref h r | (simp only [ups_id]; exact zR_ref h r)⟩
  by_cases e : E 12 0 = 1
  · have hs := zR_SS h e
    have n0 : ¬ E 12 0 = 0 := by rw [e]; decide
    have m0 : ¬ M 0 12 = 0 := by rw [hs.2.2.2.2.2.2.2.2.2]; decide
    obtain ⟨K, k1, k2⟩ := m_keep M
    obtain ⟨r, u, c', y1, y2, y3⟩ := line_all hn h e k2 1 (by omega) (by omega) 3 zFU (M 0) (E 13) rfl (by unfold zFU; omega) (Or.inr rfl) (fun q => absurd q (by decide))
    have l1 : nI 1 = (1 : Int32) := rfl
    rw [l1] at y2 y3
    have e1 : fX7_line E = some (r, c', E 28) := by
      unfold fX7_line
      rw [if_neg n0, y3]
    have e2 : fX8_line M = some (r, u, M 3, M 9, K) := by
      unfold fX8_line
      rw [if_neg m0]
      simp only [ups_id]
      rw [k1, ob1_s, y2]
    refine ⟨_, _, _, _, _, _, _, e1, e2, ?_⟩
    rw [ups_idn (by decide), ups_idn (by decide), ups_idn (by decide)]
    exact zR_mind h e y1
  · have e0 : E 12 0 = 0 := h.2.2.2.2.1.2.1.resolve_right e
    have m0 : M 0 12 = 0 := h.2.2.2.2.1.1.trans e0
    exact ref (-3) r3 (by simp only [fX7_line, e0, ups_id, ob1_s, ob2_s, ob3_s, ob4_s, nm_s, ↓reduceIte, i10, e_ref _ r1, e_ref _ r2, e_ref _ r3, e_ref _ r4, e_ref _ r6, m_ref _ r1, m_ref _ r2, m_ref _ r3, m_ref _ r4, m_ref _ r6]) (by simp only [fX8_line, m0, ups_id, ob1_s, ob2_s, ob3_s, ob4_s, nm_s, ↓reduceIte, i10, e_ref _ r1, e_ref _ r2, e_ref _ r3, e_ref _ r4, e_ref _ r6, m_ref _ r1, m_ref _ r2, m_ref _ r3, m_ref _ r4, m_ref _ r6])
theorem left_loop {w B : Nat → Nat → Int32} (hw : OW w) : ∀ (f j T : Nat) (g s : Nat → Int32), T + (60 - j) < 1000000 → j ≤ 60 → 60 < f + j → SS T (ups B 0 g) w s → ∃ (r : Int32) (g' s' : Nat → Int32), zl2 (fX8_tensLeft_2 (ups B 0 g)) f g (nI j) = some (r, g') ∧ zl2 (fX5_tensTillEnded_2 w) f s (nI j) = some (r, s') ∧ FrG g g' := by
  intro f
  induction f with
  | zero => intro j T g s hT h1 h2 h; omega
  | succ f ih =>
    intro j T g s hT h1 h2 h
    show ∃ (r : Int32) (g' s' : Nat → Int32), fX8_tensLeft_2 (ups B 0 g) (zl2 (fX8_tensLeft_2 (ups B 0 g)) f) g (nI j) = some (r, g') ∧ fX5_tensTillEnded_2 w (zl2 (fX5_tensTillEnded_2 w) f) s (nI j) = some (r, s') ∧ FrG g g'
    have hB : ∀ u : Nat → Int32, fX8_tensLeft_2 (ups B 0 g) = fX8_tensLeft_2 (ups B 0 u) := fun u => by
      funext s2 c0 x1
      unfold fX8_tensLeft_2
      rw [ups2, ups2]
    generalize hz1 : zl2 (fX8_tensLeft_2 (ups B 0 g)) f = Z1
    generalize hz2 : zl2 (fX5_tensTillEnded_2 w) f = Z2
    unfold fX8_tensLeft_2 fX5_tensTillEnded_2
    have e60 : (60 : Int32) = nI 60 := rfl
    rw [e60]
    by_cases c : j = 60
    · subst c
      rw [if_pos (by rw [nI_leI (by omega) (by omega)]; omega), if_pos (by rw [nI_leI (by omega) (by omega)]; omega)]
      exact ⟨_, g, s, rfl, rfl, FrG.rf⟩
    · rw [if_neg (by rw [nI_leI (by omega) (by omega)]; omega), if_neg (by rw [nI_leI (by omega) (by omega)]; omega)]
      have e22 : (ups (ups B 0 g) 0 g) 0 22 = s 10 := h.2.1.2.2.2.2.2.2.2.2.2.1
      rcases en_cases h.2.2.2.2.1 with k | k
      · rw [m_en0 (by rw [e22]; exact k), e_en0 k, ob1_s, ob1_s, if_pos rfl, if_pos rfl]
        obtain ⟨u, a1, a2, a3, a4, a5⟩ := ss_ten hw (by omega) h
        rw [ups2] at a3
        rw [ups_s] at a5
        have hb : ups (ups B 0 g) 0 g = ups B 0 g := ups2
        rw [hb, a1, a2, ob1_s, ob1_s, nI_1]
        rw [← hz1, ← hz2, hB u]
        obtain ⟨r, g', s', b1, b2, b3⟩ := ih (j + 1) (T + 1) u (ten w s) (by omega) (by omega) (by omega) a3
        exact ⟨r, g', s', b1, b2, a5.tr b3⟩
      · rw [m_en1 (by rw [e22]; have := k.1; omega), e_en1 k, ob1_s, ob1_s, if_neg (by decide), if_neg (by decide)]
        exact ⟨_, g, s, rfl, rfl, FrG.rf⟩
theorem left_all {w B : Nat → Nat → Int32} {g s : Nat → Int32} {T : Nat} (hw : OW w) (hT : T < 900000) (h : SS T (ups B 0 g) w s) : ∃ (r : Int32) (g' s' : Nat → Int32), fX8_tensLeft (ups B 0 g) = some (r, g') ∧ fX5_tensTillEnded s w = some (r, s') ∧ FrG g g' := by
  obtain ⟨r, g', s', b1, b2, b3⟩ := left_loop hw zFU 0 T g s (by omega) (by omega) (by unfold zFU; omega) h
  exact ⟨r, g', s', b1, b2, b3⟩
theorem sim_lighter {n : Nat} {E M : Nat → Nat → Int32} (hn : n < 1000) (h : zR n E M) : ∃ (r : Int32) (c13 : Nat → Int32) (c28 : Nat → Int32) (d0 : Nat → Int32) (d3 : Nat → Int32) (d9 : Nat → Int32) (d11 : Nat → Int32), fX7_lighter E = some (r, c13, c28) ∧ fX8_lighter M = some (r, d0, d3, d9, d11) ∧ zR (n + 1) (ups (ups E 13 c13) 28 c28) (ups (ups (ups (ups M 0 d0) 3 d3) 9 d9) 11 d11) := by
  by_cases e : E 12 0 = 1
  · have hs := zR_SS h e
    have hw := h.2.1
    have n0 : ¬ E 12 0 = 0 := by rw [e]; decide
    have m0 : ¬ M 0 12 = 0 := by rw [hs.2.2.2.2.2.2.2.2.2]; decide
    have hid := h.2.2.2.2.1.2.2.2.2.2.1
    have ho := hs.2.2.2.2.1
    obtain ⟨K, k1, k2⟩ := m_keep M
    have hc1 := e_cpy (E 13) (s := E 12) (Or.inr e) ho.2.2.2.2.2.2.2.2.2.1 (Or.inl hid.1)
    have s0 := hs.ext (cpy_at (E 13) (E 12))
    have s1 : SS (100 * n) (ups (ups (ups M 3 (upd (M 3) 5 0)) 11 K) 0 (M 0)) (sh 3 E) (ups (cpy (E 13) (E 12)) 13 1) := by
      obtain ⟨q1, q2, q3, q4, q5, q6, q7, q8, q9, q10⟩ := s0
      have un : ∀ k, k ≠ 5 → upd (M 3) 5 0 k = M 3 k := fun k hk => pk_un hk
      obtain ⟨p0, p1, p2, p3, p4, p5, p6, p7, p8, p9, p10, p11, p12, p13, p14⟩ := q1
      refine ⟨⟨p0, p1, p2, p3, p4, p5, p6, p7, p8, (un 0 (by decide)).trans p9, (un 1 (by decide)).trans p10, (un 2 (by decide)).trans p11, (un 3 (by decide)).trans p12, (un 4 (by decide)).trans p13, (un 6 (by decide)).trans p14⟩, q2, ⟨q3.1, q3.2.1, Or.inr rfl, q3.2.2.2⟩, ?_, q5, q6, q7, q8, q9, q10⟩
      unfold RGn
      rw [ups_s, if_neg (by decide)]
      show upd (M 3) 5 0 5 = 0
      exact pk_us
    obtain ⟨r, g1, c1, y1, y2, y3⟩ := left_all hw (by omega) s1
    have kf1 : ∀ k, k < 13 ∨ k = 28 ∨ k = 31 → g1 k = M 0 k := y3.k
    obtain ⟨u1, z1, z2⟩ := again4 (d := upd (M 3) 5 0) k2 kf1 (fun k hk => pk_un hk)
    have hc2 := e_cpy c1 (s := E 12) (Or.inr e) ho.2.2.2.2.2.2.2.2.2.1 (Or.inl hid.1)
    have s2 := (GR.ss (K := K) hs hid (Or.inl z2)).ext (cpy_at c1 (E 12))
    obtain ⟨r2', g2, c2, x1, x2, x3⟩ := left_all hw (by omega) s2
    have kf2 : ∀ k, k < 13 ∨ k = 28 ∨ k = 31 → g2 k = M 0 k := fun k hk => (x3.k k hk).trans (z2.2.2.2.2 k hk)
    obtain ⟨u2, v1, v2⟩ := again4 (d := M 3) k2 kf2 (fun _ _ => rfl)
    have g5 : upd (M 3) ((5 : Int32)).toNatClampNeg 0 = upd (M 3) 5 0 := rfl
    have e1 : fX7_lighter E = some (r - r2', c2, E 28) := by simp only [fX7_lighter, n0, hc1, y2, hc2, x2, ups_id, ob1_s, ob2_s, ob3_s, ob4_s, nm_s, ↓reduceIte, i10, e_ref _ r1, e_ref _ r2, e_ref _ r3, e_ref _ r4, e_ref _ r6, m_ref _ r1, m_ref _ r2, m_ref _ r3, m_ref _ r4, m_ref _ r6]
    have e2 : fX8_lighter M = some (r - r2', u2, M 3, M 9, K) := by
      unfold fX8_lighter
      rw [if_neg m0]
      simp only [ups_id]
      rw [k1, ob1_s, nm_s, g5]
      have b1 : ups (ups M 3 (upd (M 3) 5 0)) 9 (M 9) = ups M 3 (upd (M 3) 5 0) := ups_idn (by decide)
      have t1 : ups (ups M 3 (upd (M 3) 5 0)) 11 K = ups (ups (ups M 3 (upd (M 3) 5 0)) 11 K) 0 (M 0) := by
        have : M 0 = (ups (ups M 3 (upd (M 3) 5 0)) 11 K) 0 := rfl
        rw [this, ups_id]
      rw [b1, t1, y1, ob2_s, z1, ob2_s, bun4, x1, ob2_s, v1, ob2_s]
    refine ⟨_, _, _, _, _, _, _, e1, e2, ?_⟩
    rw [ups_idn (by decide), ups_idn (by decide), ups_idn (by decide)]
    exact zR_mind h e v2
  · have e0 : E 12 0 = 0 := h.2.2.2.2.1.2.1.resolve_right e
    have m0 : M 0 12 = 0 := h.2.2.2.2.1.1.trans e0
    have e1 : fX7_lighter E = some (1000000000 - (-3), E 13, rf1 (E 28) (-3)) := by simp only [fX7_lighter, e0, ups_id, ob1_s, ob2_s, ob3_s, ob4_s, nm_s, ↓reduceIte, i10, e_ref _ r1, e_ref _ r2, e_ref _ r3, e_ref _ r4, e_ref _ r6, m_ref _ r1, m_ref _ r2, m_ref _ r3, m_ref _ r4, m_ref _ r6]
    have e2 : fX8_lighter M = some (1000000000 - (-3), M 0, M 3, rf1 (M 9) (-3), M 11) := by simp only [fX8_lighter, m0, ups_id, ob1_s, ob2_s, ob3_s, ob4_s, nm_s, ↓reduceIte, i10, e_ref _ r1, e_ref _ r2, e_ref _ r3, e_ref _ r4, e_ref _ r6, m_ref _ r1, m_ref _ r2, m_ref _ r3, m_ref _ r4, m_ref _ r6]
    refine ⟨_, _, _, _, _, _, _, e1, e2, ?_⟩
    simp only [ups_id]
    have : ups (ups M 9 (rf1 (M 9) (-3))) 11 (M 11) = ups M 9 (rf1 (M 9) (-3)) := ups_idn (by decide)
    rw [this]
    exact zR_ref h (-3)
