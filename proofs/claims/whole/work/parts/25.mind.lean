/-! in mind: the class sails a copy, the model its own ship, and puts her back -/
def cpy (c s : Nat → Int32) : Nat → Int32 := ups (ups (ups (ups (ups (ups (ups (ups (ups (ups (ups (ups (ups (ups (ups (ups (ups c 0 (s 0)) 1 (s 1)) 2 (s 2)) 3 (s 3)) 4 (s 4)) 5 (s 5)) 6 (s 6)) 7 (s 7)) 8 (s 8)) 9 (s 9)) 10 (s 10)) 11 (s 11)) 12 (s 12)) 13 (s 13)) 14 (s 14)) 15 (s 15)) 16 (s 16)
theorem e_cpy (c : Nat → Int32) {s : Nat → Int32} (h0 : s 0 = 0 ∨ s 0 = 1) (h12 : s 12 = 0 ∨ s 12 = 1) (h13 : s 13 = 0 ∨ s 13 = 1) : fX5_copyFrom c s = some (cpy c s) := by
  unfold fX5_copyFrom
  rw [gz_s h0, gz_s h12, gz_s h13]
  rfl
theorem cpy_at (c s : Nat → Int32) : ∀ k, k < 17 → cpy c s k = s k := fun k hk => by
  rcases (show k = 0 ∨ k = 1 ∨ k = 2 ∨ k = 3 ∨ k = 4 ∨ k = 5 ∨ k = 6 ∨ k = 7 ∨ k = 8 ∨ k = 9 ∨ k = 10 ∨ k = 11 ∨ k = 12 ∨ k = 13 ∨ k = 14 ∨ k = 15 ∨ k = 16 by omega) with rfl | rfl | rfl | rfl | rfl | rfl | rfl | rfl | rfl | rfl | rfl | rfl | rfl | rfl | rfl | rfl | rfl <;> rfl
theorem SS.ext {T : Nat} {m w : Nat → Nat → Int32} {s s' : Nat → Int32} (h : SS T m w s) (hs : ∀ k, k < 17 → s' k = s k) : SS T m w s' := by
  unfold SS RF RM RGn OS TB AN at *
  rw [hs 0 (by omega), hs 1 (by omega), hs 2 (by omega), hs 3 (by omega), hs 4 (by omega), hs 5 (by omega), hs 6 (by omega), hs 7 (by omega), hs 8 (by omega), hs 9 (by omega), hs 10 (by omega), hs 11 (by omega), hs 12 (by omega), hs 13 (by omega), hs 14 (by omega), hs 15 (by omega), hs 16 (by omega)]
  exact h
/-- what the model keeps -/
def Kept (K g0 : Nat → Int32) (x : Int32) : Prop := (∀ i, i < 11 → K i = g0 (13 + i)) ∧ K 11 = (if g0 24 = 0 then 0 else 1) ∧ K 12 = x
theorem m_keep (m : Nat → Nat → Int32) : ∃ K : Nat → Int32, fX8_keep m = some K ∧ Kept K (m 0) (m 3 5) := by
  have fin : ∀ b : Int32, ∃ K : Nat → Int32, (nm (upd (m 11) ((0 : Int32)).toNatClampNeg (m 0 13)) (fun g1 => (nm (upd g1 ((1 : Int32)).toNatClampNeg (m 0 14)) (fun g2 => (nm (upd g2 ((2 : Int32)).toNatClampNeg (m 0 15)) (fun g3 => (nm (upd g3 ((3 : Int32)).toNatClampNeg (m 0 16)) (fun g4 => (nm (upd g4 ((4 : Int32)).toNatClampNeg (m 0 17)) (fun g5 => (nm (upd g5 ((5 : Int32)).toNatClampNeg (m 0 18)) (fun g6 => (nm (upd g6 ((6 : Int32)).toNatClampNeg (m 0 19)) (fun g7 => (nm (upd g7 ((7 : Int32)).toNatClampNeg (m 0 20)) (fun g8 => (nm (upd g8 ((8 : Int32)).toNatClampNeg (m 0 21)) (fun g9 => (nm (upd g9 ((9 : Int32)).toNatClampNeg (m 0 22)) (fun g10 => (nm (upd g10 ((10 : Int32)).toNatClampNeg (m 0 23)) (fun g11 => fX8_keep_133 m g11 11 b)))))))))))))))))))))) = some K ∧ (∀ i, i < 11 → K i = m 0 (13 + i)) ∧ K 11 = b ∧ K 12 = m 3 5 := fun b => by
    unfold fX8_keep_133
    simp only [nm_s]
    rw [gd_s (vin_lit (by decide))]
    refine ⟨_, rfl, fun i hi => ?_, rfl, rfl⟩
    rcases (show i = 0 ∨ i = 1 ∨ i = 2 ∨ i = 3 ∨ i = 4 ∨ i = 5 ∨ i = 6 ∨ i = 7 ∨ i = 8 ∨ i = 9 ∨ i = 10 by omega) with rfl | rfl | rfl | rfl | rfl | rfl | rfl | rfl | rfl | rfl | rfl <;> rfl
  unfold fX8_keep Kept
  by_cases c : m 0 24 = 0
  · simp only [if_pos c]
    exact fin 0
  · simp only [if_neg c]
    exact fin 1
/-- the ship put back -/
def RST (g0 u : Nat → Int32) : Prop := (∀ k, 13 ≤ k → k ≤ 23 → u k = g0 k) ∧ u 24 = (if g0 24 = 0 then 0 else 1) ∧ u 25 = 0 ∧ u 26 = -1 ∧ (∀ k, k < 13 ∨ k = 28 ∨ k = 31 → u k = g0 k)
theorem m_again {m : Nat → Nat → Int32} {g0 : Nat → Int32} {x : Int32} (hK : Kept (m 11) g0 x) (hf : ∀ k, k < 13 ∨ k = 28 ∨ k = 31 → m 0 k = g0 k) : ∃ u : Nat → Int32, fX8_again m = some (u, upd (m 3) 5 x) ∧ RST g0 u := by
  obtain ⟨k1, k2, k3⟩ := hK
  have fin : ∀ b : Int32, (b = 0 ∨ b = 1) → b = (if g0 24 = 0 then 0 else 1) → ∃ u : Nat → Int32, fX8_again_132 m (ups (ups (ups (ups (ups (ups (ups (ups (ups (ups (ups (m 0) 13 ((m 11) ((0 : Int32)).toNatClampNeg)) 14 ((m 11) ((1 : Int32)).toNatClampNeg)) 15 ((m 11) ((2 : Int32)).toNatClampNeg)) 16 ((m 11) ((3 : Int32)).toNatClampNeg)) 17 ((m 11) ((4 : Int32)).toNatClampNeg)) 18 ((m 11) ((5 : Int32)).toNatClampNeg)) 19 ((m 11) ((6 : Int32)).toNatClampNeg)) 20 ((m 11) ((7 : Int32)).toNatClampNeg)) 21 ((m 11) ((8 : Int32)).toNatClampNeg)) 22 ((m 11) ((9 : Int32)).toNatClampNeg)) 23 ((m 11) ((10 : Int32)).toNatClampNeg)) (m 3) b = some (u, upd (m 3) 5 x) ∧ RST g0 u := fun b hb e => by
    unfold fX8_again_132
    rw [gz_s hb, nm_s]
    have e12 : (m 11) ((12 : Int32)).toNatClampNeg = x := k3
    rw [e12]
    refine ⟨_, rfl, ?_, ?_, rfl, rfl, ?_⟩
    · intro k h1 h2
      have e : k = 13 + (k - 13) := by omega
      rcases (show k = 13 ∨ k = 14 ∨ k = 15 ∨ k = 16 ∨ k = 17 ∨ k = 18 ∨ k = 19 ∨ k = 20 ∨ k = 21 ∨ k = 22 ∨ k = 23 by omega) with rfl | rfl | rfl | rfl | rfl | rfl | rfl | rfl | rfl | rfl | rfl
      · exact k1 0 (by omega)
      · exact k1 1 (by omega)
      · exact k1 2 (by omega)
      · exact k1 3 (by omega)
      · exact k1 4 (by omega)
      · exact k1 5 (by omega)
      · exact k1 6 (by omega)
      · exact k1 7 (by omega)
      · exact k1 8 (by omega)
      · exact k1 9 (by omega)
      · exact k1 10 (by omega)
    · exact e
    · intro k hk
      rw [ups_n _ _ _ _ (by omega), ups_n _ _ _ _ (by omega), ups_n _ _ _ _ (by omega), ups_n _ _ _ _ (by omega), ups_n _ _ _ _ (by omega), ups_n _ _ _ _ (by omega), ups_n _ _ _ _ (by omega), ups_n _ _ _ _ (by omega), ups_n _ _ _ _ (by omega), ups_n _ _ _ _ (by omega), ups_n _ _ _ _ (by omega), ups_n _ _ _ _ (by omega), ups_n _ _ _ _ (by omega), ups_n _ _ _ _ (by omega)]
      exact hf k hk
  unfold fX8_again
  have e11 : (m 11) ((11 : Int32)).toNatClampNeg = (if g0 24 = 0 then 0 else 1) := k2
  by_cases c : (m 11) ((11 : Int32)).toNatClampNeg = 1
  · rw [if_pos c]
    exact fin 1 (Or.inr rfl) (c.symm.trans e11)
  · rw [if_neg c]
    refine fin 0 (Or.inl rfl) ?_
    rw [e11] at c
    by_cases d : g0 24 = 0
    · rw [if_pos d]
    · rw [if_neg d] at c; exact absurd rfl c
theorem RST.rf {g0 u s : Nat → Int32} {w : Nat → Nat → Int32} (h : RST g0 u) (hf : RF g0 s) (ho : OS w s) : RF u s := by
  obtain ⟨h1, h2, -⟩ := h
  obtain ⟨f1, f2, f3, f4, f5, f6, f7, f8, f9, f10, f11⟩ := hf
  refine ⟨(h1 13 (by omega) (by omega)).trans f1, (h1 14 (by omega) (by omega)).trans f2, (h1 15 (by omega) (by omega)).trans f3, (h1 16 (by omega) (by omega)).trans f4, (h1 17 (by omega) (by omega)).trans f5, (h1 18 (by omega) (by omega)).trans f6, (h1 19 (by omega) (by omega)).trans f7, (h1 20 (by omega) (by omega)).trans f8, (h1 21 (by omega) (by omega)).trans f9, (h1 22 (by omega) (by omega)).trans f10, fun q => ⟨(h1 23 (by omega) (by omega)).trans (f11 q).1, ?_⟩⟩
  rw [h2, (f11 q).2]
  rcases ho.2.2.2.2.2.2.2.2.2.1 with e | e <;> rw [e] <;> decide
theorem RST.again {g0 u v : Nat → Int32} (h : RST g0 u) (h2 : RST u v) : RST g0 v := by
  obtain ⟨a1, a2, a3, a4, a5⟩ := h
  obtain ⟨b1, b2, b3, b4, b5⟩ := h2
  refine ⟨fun k p q => (b1 k p q).trans (a1 k p q), ?_, b3, b4, fun k hk => (b5 k hk).trans (a5 k hk)⟩
  rw [b2, a2]
  by_cases c : g0 24 = 0
  · rw [if_pos c, if_pos rfl]
  · rw [if_neg c, if_neg (by decide)]
theorem upd_id {f : Nat → Int32} {k : Nat} : upd f k (f k) = f := by
  funext j
  by_cases h : j = k
  · subst h; rw [pk_us]
  · rw [pk_un h]
theorem zR_mind {n : Nat} {E M : Nat → Nat → Int32} {u c K : Nat → Int32} (h : zR n E M) (e : E 12 0 = 1) (hu : RST (M 0) u) : zR (n + 1) (ups E 13 c) (ups (ups M 0 u) 11 K) := by
  obtain ⟨h1, h2, h3, ⟨b1, b2, b3⟩, ⟨a1, a2, a3, a4, a5, a6, a7⟩, ⟨l1, l2, l3⟩, h7, ⟨i1, i2⟩, h9, h10⟩ := h
  obtain ⟨r1, r2, r3, r4, r5⟩ := id hu
  obtain ⟨f, o, t⟩ := a3.1 e
  have hr : RW (ups M 0 u) (sh 3 E) := h1.root (r5 0 (by omega)) (r5 1 (by omega)) (r5 6 (by omega)) (r5 9 (by omega))
  exact ⟨hr, h2, h3, ⟨(r5 3 (by omega)).trans b1, b2, b3⟩, ⟨(r5 12 (by omega)).trans a1, a2, ⟨fun _ => ⟨hu.rf f o, o, t⟩, fun q => absurd (e.symm.trans q) (by decide)⟩, r3, r4, a6, a7.up⟩, ⟨(r5 28 (by omega)).trans l1, l2, l3⟩, h7, ⟨(r5 31 (by omega)).trans i1, i2⟩, h9, fun q => ⟨(h10 q).1, (h10 q).2.up⟩⟩
theorem bun4 {M : Nat → Nat → Int32} {g d K : Nat → Int32} : ups (ups (ups (ups M 0 g) 3 d) 9 (M 9)) 11 K = ups (ups (ups M 3 d) 11 K) 0 g := by
  funext k
  by_cases h0 : k = 0
  · subst h0; rfl
  · by_cases h3 : k = 3
    · subst h3; rfl
    · by_cases h9 : k = 9
      · subst h9; rfl
      · by_cases h11 : k = 11
        · subst h11; rfl
        · rw [ups_n _ _ _ _ h11, ups_n _ _ _ _ h9, ups_n _ _ _ _ h3, ups_n _ _ _ _ h0, ups_n _ _ _ _ h0, ups_n _ _ _ _ h11, ups_n _ _ _ _ h3]
/-- the model's ship, kept, and put back, in the bundle that the methods carry -/
theorem again4 {M : Nat → Nat → Int32} {g d K : Nat → Int32} (hK : Kept K (M 0) (M 3 5)) (hg : ∀ k, k < 13 ∨ k = 28 ∨ k = 31 → g k = M 0 k) (hd : ∀ k, k ≠ 5 → d k = M 3 k) : ∃ u : Nat → Int32, fX8_again (ups (ups (ups (ups M 0 g) 3 d) 9 (M 9)) 11 K) = some (u, M 3) ∧ RST (M 0) u := by
  obtain ⟨u, h1, h2⟩ := m_again (m := ups (ups (ups (ups M 0 g) 3 d) 9 (M 9)) 11 K) (g0 := M 0) (x := M 3 5) hK hg
  refine ⟨u, ?_, h2⟩
  rw [h1]
  have e : upd (ups (ups (ups (ups M 0 g) 3 d) 9 (M 9)) 11 K 3) 5 (M 3 5) = M 3 := by
    show upd d 5 (M 3 5) = M 3
    funext k
    by_cases c : k = 5
    · subst c; rw [pk_us]
    · rw [pk_un c, hd k c]
  rw [e]
/-- the ship put back is the ship -/
theorem ss_rst {T : Nat} {M w : Nat → Nat → Int32} {u s K : Nat → Int32} (h : SS T M w s) (h0 : s 13 = 0 ∧ s 14 = 0 ∧ s 15 = 2147483647) (hu : RST (M 0) u) : SS T (ups (ups (ups M 3 (M 3)) 11 K) 0 u) w s := by
  obtain ⟨h1, h2, h3, h4, h5, h6, h7, h8, h9, h10⟩ := h
  obtain ⟨r1, r2, r3, r4, r5⟩ := id hu
  have hr : RW (ups M 0 u) w := h1.root (r5 0 (by omega)) (r5 1 (by omega)) (r5 6 (by omega)) (r5 9 (by omega))
  refine ⟨hr, hu.rf h2 h5, ⟨?_, h3.2.1, h3.2.2.1, Or.inl ⟨?_, h0.2.2⟩⟩, h4, h5, h6, h7, h8, h9, ?_⟩
  · rw [ups_s, h0.2.1]; exact r3
  · rw [ups_s]; exact r4
  · rw [ups_s]; exact (r5 12 (by omega)).trans h10
theorem FrG.k {g g' : Nat → Int32} (h : FrG g g') : ∀ k, k < 13 ∨ k = 28 ∨ k = 31 → g' k = g k := fun k hk => h k (by omega)
