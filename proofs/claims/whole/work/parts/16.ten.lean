/-! a ten -/
/-- what of the ship a ten's course doesn't touch: the wind is a number of these -/
def FrE (s0 s : Nat → Int32) : Prop := ∀ k, k ≠ 1 → k ≠ 6 → k ≠ 7 → k ≠ 8 → k ≠ 10 → k ≠ 11 → k ≠ 12 → s k = s0 k
def FrM (g0 g : Nat → Int32) : Prop := ∀ k, k ≠ 13 → k ≠ 18 → k ≠ 19 → k ≠ 20 → k ≠ 22 → k ≠ 23 → k ≠ 24 → g k = g0 k
theorem FrE.wn {s0 s : Nat → Int32} (h : FrE s0 s) (w : Nat → Nat → Int32) : wnd s w = wnd s0 w := by
  unfold wnd wndAt
  rw [h 9 (by decide) (by decide) (by decide) (by decide) (by decide) (by decide) (by decide), h 14 (by decide) (by decide) (by decide) (by decide) (by decide) (by decide) (by decide), h 15 (by decide) (by decide) (by decide) (by decide) (by decide) (by decide) (by decide), h 16 (by decide) (by decide) (by decide) (by decide) (by decide) (by decide) (by decide)]
theorem FrM.rw {m w : Nat → Nat → Int32} {g0 g : Nat → Int32} (h : FrM g0 g) (hr : RW (ups m 0 g0) w) : RW (ups m 0 g) w := by
  have h1 := hr.root (u := g) (h 0 (by decide) (by decide) (by decide) (by decide) (by decide) (by decide) (by decide)) (h 1 (by decide) (by decide) (by decide) (by decide) (by decide) (by decide) (by decide)) (h 6 (by decide) (by decide) (by decide) (by decide) (by decide) (by decide) (by decide)) (h 9 (by decide) (by decide) (by decide) (by decide) (by decide) (by decide) (by decide))
  have e : ups (ups m 0 g0) 0 g = ups m 0 g := by
    funext k
    by_cases hk : k = 0
    · subst hk; rw [ups_s, ups_s]
    · rw [ups_n _ _ _ _ hk, ups_n _ _ _ _ hk, ups_n _ _ _ _ hk]
  rw [e] at h1
  exact h1
theorem FrE.tr {a b c : Nat → Int32} (h1 : FrE a b) (h2 : FrE b c) : FrE a c := fun k p1 p2 p3 p4 p5 p6 p7 => (h2 k p1 p2 p3 p4 p5 p6 p7).trans (h1 k p1 p2 p3 p4 p5 p6 p7)
theorem FrM.tr {a b c : Nat → Int32} (h1 : FrM a b) (h2 : FrM b c) : FrM a c := fun k p1 p2 p3 p4 p5 p6 p7 => (h2 k p1 p2 p3 p4 p5 p6 p7).trans (h1 k p1 p2 p3 p4 p5 p6 p7)
theorem rf_slid {g s : Nat → Int32} {x : Int32} (hf : RF g s) : RF (ups g 20 x) (ups s 8 x) := by
  obtain ⟨f1, f2, f3, f4, f5, f6, f7, f8, f9, f10, f11⟩ := hf
  unfold RF
  simp only [ups_at]
  simp
  exact ⟨f1, f2, f3, f4, f5, f6, f7, f9, f10, f11⟩
theorem rf_gone {g s : Nat → Int32} {x : Int32} (hf : RF g s) : RF (ups g 19 x) (ups s 7 x) := by
  obtain ⟨f1, f2, f3, f4, f5, f6, f7, f8, f9, f10, f11⟩ := hf
  unfold RF
  simp only [ups_at]
  simp
  exact ⟨f1, f2, f3, f4, f5, f6, f8, f9, f10, f11⟩
theorem os_slid {w : Nat → Nat → Int32} {s : Nat → Int32} {x : Int32} (ho : OS w s) (hx : Rng x 0 100) : OS w (ups s 8 x) := by
  obtain ⟨o2, o3, o4, o5, o6, o7, o8, o10, o11, o12, o1, oc⟩ := ho
  unfold OS
  simp only [ups_at]
  simp
  exact ⟨o2, o3, o4, o5, o6, o7, hx, o10, o11, o12, o1, oc⟩
theorem os_gone {w : Nat → Nat → Int32} {s : Nat → Int32} {x : Int32} (ho : OS w s) (hx : Rng x 0 100) : OS w (ups s 7 x) := by
  obtain ⟨o2, o3, o4, o5, o6, o7, o8, o10, o11, o12, o1, oc⟩ := ho
  unfold OS
  simp only [ups_at]
  simp
  exact ⟨o2, o3, o4, o5, o6, hx, o8, o10, o11, o12, o1, oc⟩
theorem en_cases {w : Nat → Nat → Int32} {s : Nat → Int32} (ho : OS w s) : (s 10).toInt ≤ 4 ∨ Rng (s 10) 5 8 := by
  have := ho.2.2.2.2.2.2.2.1
  by_cases h : (s 10).toInt ≤ 4
  · exact Or.inl h
  · exact Or.inr ⟨by omega, this.2⟩
theorem ge10 {x : Int32} (h : ¬ x < 10) : 10 ≤ x.toInt := Int.not_lt.mp (mt (fun (q : x.toInt < 10) => ilt.mpr q) h)
theorem sub10 {x : Int32} (h : 10 ≤ x.toInt) : (x - 10).toInt = x.toInt - 10 := by
  have h1 := x.toInt_lt
  simp at h1
  have : (10 : Int32).toInt = 10 := rfl
  rw [is'] <;> omega
theorem ups2 {m : Nat → Nat → Int32} {a b : Nat → Int32} : ups (ups m 0 a) 0 b = ups m 0 b := by
  funext k
  by_cases hk : k = 0
  · subst hk; rw [ups_s, ups_s]
  · rw [ups_n _ _ _ _ hk, ups_n _ _ _ _ hk, ups_n _ _ _ _ hk]
theorem slid_loop {m w : Nat → Nat → Int32} (hw : OW w) (x1 x3 : Int32) : ∀ (n : Nat) (g s : Nat → Int32), RW (ups m 0 g) w → RF g s → OS w s → wnd s w = x1 → (s 8).toInt < 10 * n → ∃ g' s' : Nat → Int32, zl4 (fX8_step_205 m) n g x1 (lee x1) x3 = fX8_step_240 m g' x1 x3 ∧ zl1 (fX5_goOn_93 w) n s = some s' ∧ RF g' s' ∧ OS w s' ∧ FrE s s' ∧ FrM g g' ∧ s' 6 = s 6 ∧ s' 7 = s 7 ∧ ((s' 10).toInt ≤ 4 → (s' 8).toInt < 10) := by
  intro n
  induction n with
  | zero => intro g s hr hf ho hx h; have := ho.2.2.2.2.2.2.1.1; omega
  | succ n ih =>
    intro g s hr hf ho hx h
    show ∃ g' s' : Nat → Int32, fX8_step_205 m (zl4 (fX8_step_205 m) n) g x1 (lee x1) x3 = fX8_step_240 m g' x1 x3 ∧ fX5_goOn_93 w (zl1 (fX5_goOn_93 w) n) s = some s' ∧ _
    unfold fX8_step_205 fX5_goOn_93
    have e20 : g 20 = s 8 := hf.2.2.2.2.2.2.2.1
    rw [e20]
    by_cases c : s 8 < 10
    · rw [if_pos c, if_pos c]
      exact ⟨g, s, rfl, rfl, hf, ho, fun _ _ _ _ _ _ _ _ => rfl, fun _ _ _ _ _ _ _ _ => rfl, rfl, rfl, fun _ => ilt.mp c⟩
    · rw [if_neg c, if_neg c]
      have h10 := ge10 c
      have hsub := sub10 h10
      rcases en_cases ho with hk | hk
      · rw [m_en0 (show (ups m 0 g 0 22).toInt ≤ 4 by show (g 22).toInt ≤ 4; rw [hf.2.2.2.2.2.2.2.2.2.1]; exact hk), e_en0 hk, ob1_s, ob1_s, if_pos rfl, if_pos rfl, e_wnd hw, ob1_s, e_lee, ob1_s]
        have hx2 : wnd (ups s 8 (s 8 - 10)) w = x1 := hx
        rw [hx2]
        have ho2 : OS w (ups s 8 (s 8 - 10)) := os_slid ho ⟨by rw [hsub]; omega, by rw [hsub]; have := ho.2.2.2.2.2.2.1.2; omega⟩
        obtain ⟨g1, s1, a1, a2, a3, a4, a5, a6⟩ := s_go (m := m) (d := lee x1) hw (show RW (ups m 0 (ups g 20 (s 8 - 10))) w from hr) (rf_slid hf) ho2 hk (lee_r x1)
        rw [a1, a2, ob1_s, ob1_s]
        have fr1 : FrE s s1 := fun k p1 p2 p3 p4 p5 p6 p7 => (a5 k p1 p5 p6 p7).trans (ups_n _ _ _ _ p4)
        have fr2 : FrM g g1 := fun k p1 p2 p3 p4 p5 p6 p7 => (a6 k p1 p5 p6 p7).trans (ups_n _ _ _ _ p4)
        have h8 : s1 8 = s 8 - 10 := (a5 8 (by decide) (by decide) (by decide) (by decide)).trans (ups_s _ _ _)
        obtain ⟨g', s', b1, b2, b3, b4, b5, b6, b7, b8, b9⟩ := ih g1 s1 (fr2.rw hr) a3 a4 ((fr1.wn w).trans hx) (by rw [h8, hsub]; omega)
        refine ⟨g', s', b1, b2, b3, b4, fr1.tr b5, fr2.tr b6, b7.trans ?_, b8.trans ?_, b9⟩
        · exact (a5 6 (by decide) (by decide) (by decide) (by decide)).trans (ups_n _ _ _ _ (by decide))
        · exact (a5 7 (by decide) (by decide) (by decide) (by decide)).trans (ups_n _ _ _ _ (by decide))
      · rw [m_en1 (show 4 < (ups m 0 g 0 22).toInt by show 4 < (g 22).toInt; rw [hf.2.2.2.2.2.2.2.2.2.1]; have := hk.1; omega), e_en1 hk, ob1_s, ob1_s, if_neg (by decide), if_neg (by decide)]
        exact ⟨g, s, rfl, rfl, hf, ho, fun _ _ _ _ _ _ _ _ => rfl, fun _ _ _ _ _ _ _ _ => rfl, rfl, rfl, fun q => absurd q (by have := hk.1; omega)⟩
