/-! a ten -/
/-- what of the ship a ten's course doesn't touch: the wind is a number of these -/
def FrE (s0 s : Nat → Int32) : Prop := ∀ k, k ≠ 1 → k ≠ 6 → k ≠ 7 → k ≠ 8 → k ≠ 10 → k ≠ 11 → k ≠ 12 → s k = s0 k
def FrM (g0 g : Nat → Int32) : Prop := ∀ k, k ≠ 13 → k ≠ 18 → k ≠ 19 → k ≠ 20 → k ≠ 22 → k ≠ 23 → k ≠ 24 → g k = g0 k
theorem FrE.wn {s0 s : Nat → Int32} (h : FrE s0 s) (w : Nat → Nat → Int32) : wnd s w = wnd s0 w := by
  unfold wnd wndAt
  rw [h 9 (by decide) (by decide) (by decide) (by decide) (by decide) (by decide) (by decide), h 14 (by decide) (by decide) (by decide) (by decide) (by decide) (by decide) (by decide), h 15 (by decide) (by decide) (by decide) (by decide) (by decide) (by decide) (by decide), h 16 (by decide) (by decide) (by decide) (by decide) (by decide) (by decide) (by decide)]
theorem FrM.rw {m w : Nat → Nat → Int32} {g0 g : Nat → Int32} (h : FrM g0 g) (hr : RW (ups m 0 g0) w) : RW (ups m 0 g) w := by
  have h1 := hr.root (u := g) (h 0 (by decide) (by decide) (by decide) (by decide) (by decide) (by decide) (by decide)) (h 1 (by decide) (by decide) (by decide) (by decide) (by decide) (by decide) (by decide)) (h 6 (by decide) (by decide) (by decide) (by decide) (by decide) (by decide) (by decide)) (h 9 (by decide) (by decide) (by decide) (by decide) (by decide) (by decide) (by decide))
  have e : ups (ups m 0 g0) 0 g = ups m 0 g := by
    funext k
    by_cases hk : k = 0
    · subst hk; rw [ups_s, ups_s]
    · rw [ups_n _ _ _ _ hk, ups_n _ _ _ _ hk, ups_n _ _ _ _ hk]
  rw [e] at h1
  exact h1
theorem FrE.tr {a b c : Nat → Int32} (h1 : FrE a b) (h2 : FrE b c) : FrE a c := fun k p1 p2 p3 p4 p5 p6 p7 => (h2 k p1 p2 p3 p4 p5 p6 p7).trans (h1 k p1 p2 p3 p4 p5 p6 p7)
theorem FrM.tr {a b c : Nat → Int32} (h1 : FrM a b) (h2 : FrM b c) : FrM a c := fun k p1 p2 p3 p4 p5 p6 p7 => (h2 k p1 p2 p3 p4 p5 p6 p7).trans (h1 k p1 p2 p3 p4 p5 p6 p7)
theorem rf_slid {g s : Nat → Int32} {x : Int32} (hf : RF g s) : RF (ups g 20 x) (ups s 8 x) := by
  obtain ⟨f1, f2, f3, f4, f5, f6, f7, f8, f9, f10, f11⟩ := hf
  unfold RF
  simp only [ups_at]
  simp
  exact ⟨f1, f2, f3, f4, f5, f6, f7, f9, f10, f11⟩
theorem rf_gone {g s : Nat → Int32} {x : Int32} (hf : RF g s) : RF (ups g 19 x) (ups s 7 x) := by
  obtain ⟨f1, f2, f3, f4, f5, f6, f7, f8, f9, f10, f11⟩ := hf
  unfold RF
  simp only [ups_at]
  simp
  exact ⟨f1, f2, f3, f4, f5, f6, f8, f9, f10, f11⟩
theorem os_slid {w : Nat → Nat → Int32} {s : Nat → Int32} {x : Int32} (ho : OS w s) (hx : Rng x 0 100) : OS w (ups s 8 x) := by
  obtain ⟨o2, o3, o4, o5, o6, o7, o8, o10, o11, o12, o1, oc⟩ := ho
  unfold OS
  simp only [ups_at]
  simp
  exact ⟨o2, o3, o4, o5, o6, o7, hx, o10, o11, o12, o1, oc⟩
theorem os_gone {w : Nat → Nat → Int32} {s : Nat → Int32} {x : Int32} (ho : OS w s) (hx : Rng x 0 100) : OS w (ups s 7 x) := by
  obtain ⟨o2, o3, o4, o5, o6, o7, o8, o10, o11, o12, o1, oc⟩ := ho
  unfold OS
  simp only [ups_at]
  simp
  exact ⟨o2, o3, o4, o5, o6, hx, o8, o10, o11, o12, o1, oc⟩
theorem en_cases {w : Nat → Nat → Int32} {s : Nat → Int32} (ho : OS w s) : (s 10).toInt ≤ 4 ∨ Rng (s 10) 5 8 := by
  have := ho.2.2.2.2.2.2.2.1
  by_cases h : (s 10).toInt ≤ 4
  · exact Or.inl h
  · exact Or.inr ⟨by omega, this.2⟩
theorem ge10 {x : Int32} (h : ¬ x < 10) : 10 ≤ x.toInt := Int.not_lt.mp (mt (fun (q : x.toInt < 10) => ilt.mpr q) h)
theorem sub10 {x : Int32} (h : 10 ≤ x.toInt) : (x - 10).toInt = x.toInt - 10 := by
  have h1 := x.toInt_lt
  simp at h1
  have : (10 : Int32).toInt = 10 := rfl
  rw [is'] <;> omega
theorem ups2 {m : Nat → Nat → Int32} {a b : Nat → Int32} : ups (ups m 0 a) 0 b = ups m 0 b := by
  funext k
  by_cases hk : k = 0
  · subst hk; rw [ups_s, ups_s]
  · rw [ups_n _ _ _ _ hk, ups_n _ _ _ _ hk, ups_n _ _ _ _ hk]
theorem slid_loop {m w : Nat → Nat → Int32} (hw : OW w) (x1 x3 : Int32) : ∀ (n : Nat) (g s : Nat → Int32), RW (ups m 0 g) w → RF g s → OS w s → wnd s w = x1 → (s 8).toInt < 10 * n → ∃ g' s' : Nat → Int32, zl4 (fX8_step_205 m) n g x1 (lee x1) x3 = fX8_step_240 m g' x1 x3 ∧ zl1 (fX5_goOn_93 w) n s = some s' ∧ RF g' s' ∧ OS w s' ∧ FrE s s' ∧ FrM g g' ∧ s' 6 = s 6 ∧ s' 7 = s 7 ∧ ((s' 10).toInt ≤ 4 → (s' 8).toInt < 10) ∧ ((s' 10).toInt ≤ 4 → (s 10).toInt ≤ 4) ∧ K4 s s' := by
  intro n
  induction n with
  | zero => intro g s hr hf ho hx h; have := ho.2.2.2.2.2.2.1.1; omega
  | succ n ih =>
    intro g s hr hf ho hx h
    show ∃ g' s' : Nat → Int32, fX8_step_205 m (zl4 (fX8_step_205 m) n) g x1 (lee x1) x3 = fX8_step_240 m g' x1 x3 ∧ fX5_goOn_93 w (zl1 (fX5_goOn_93 w) n) s = some s' ∧ _
    unfold fX8_step_205 fX5_goOn_93
    have e20 : g 20 = s 8 := hf.2.2.2.2.2.2.2.1
    rw [e20]
    by_cases c : s 8 < 10
    · rw [if_pos c, if_pos c]
      exact ⟨g, s, rfl, rfl, hf, ho, fun _ _ _ _ _ _ _ _ => rfl, fun _ _ _ _ _ _ _ _ => rfl, rfl, rfl, fun _ => ilt.mp c, id, id⟩
    · rw [if_neg c, if_neg c]
      have h10 := ge10 c
      have hsub := sub10 h10
      rcases en_cases ho with hk | hk
      · rw [m_en0 (show (ups m 0 g 0 22).toInt ≤ 4 by show (g 22).toInt ≤ 4; rw [hf.2.2.2.2.2.2.2.2.2.1]; exact hk), e_en0 hk, ob1_s, ob1_s, if_pos rfl, if_pos rfl, e_wnd hw, ob1_s, e_lee, ob1_s]
        have hx2 : wnd (ups s 8 (s 8 - 10)) w = x1 := hx
        rw [hx2]
        have ho2 : OS w (ups s 8 (s 8 - 10)) := os_slid ho ⟨by rw [hsub]; omega, by rw [hsub]; have := ho.2.2.2.2.2.2.1.2; omega⟩
        obtain ⟨g1, s1, a1, a2, a3, a4, a5, a6, a7⟩ := s_go (m := m) (d := lee x1) hw (show RW (ups m 0 (ups g 20 (s 8 - 10))) w from hr) (rf_slid hf) ho2 hk (lee_r x1)
        rw [a1, a2, ob1_s, ob1_s]
        have fr1 : FrE s s1 := fun k p1 p2 p3 p4 p5 p6 p7 => (a5 k p1 p5 p6 p7).trans (ups_n _ _ _ _ p4)
        have fr2 : FrM g g1 := fun k p1 p2 p3 p4 p5 p6 p7 => (a6 k p1 p5 p6 p7).trans (ups_n _ _ _ _ p4)
        have h8 : s1 8 = s 8 - 10 := (a5 8 (by decide) (by decide) (by decide) (by decide)).trans (ups_s _ _ _)
        obtain ⟨g', s', b1, b2, b3, b4, b5, b6, b7, b8, b9, -, b11⟩ := ih g1 s1 (fr2.rw hr) a3 a4 ((fr1.wn w).trans hx) (by rw [h8, hsub]; omega)
        refine ⟨g', s', b1, b2, b3, b4, fr1.tr b5, fr2.tr b6, b7.trans ?_, b8.trans ?_, b9, fun _ => hk, fun q => by have q2 := a7 (b11 q); rw [ups_n _ _ _ _ (by decide)] at q2; exact q2⟩
        · exact (a5 6 (by decide) (by decide) (by decide) (by decide)).trans (ups_n _ _ _ _ (by decide))
        · exact (a5 7 (by decide) (by decide) (by decide) (by decide)).trans (ups_n _ _ _ _ (by decide))
      · rw [m_en1 (show 4 < (ups m 0 g 0 22).toInt by show 4 < (g 22).toInt; rw [hf.2.2.2.2.2.2.2.2.2.1]; have := hk.1; omega), e_en1 hk, ob1_s, ob1_s, if_neg (by decide), if_neg (by decide)]
        exact ⟨g, s, rfl, rfl, hf, ho, fun _ _ _ _ _ _ _ _ => rfl, fun _ _ _ _ _ _ _ _ => rfl, rfl, rfl, fun q => absurd q (by have := hk.1; omega), id, id⟩
theorem gone_loop {m w : Nat → Nat → Int32} (hw : OW w) (x1 x3 : Int32) : ∀ (n : Nat) (g s : Nat → Int32), RW (ups m 0 g) w → RF g s → OS w s → (s 7).toInt < 10 * n → ∃ g' s' : Nat → Int32, zl4 (fX8_step_167 m) n g x1 (lee x1) x3 = zl4 (fX8_step_205 m) zFU g' x1 (lee x1) x3 ∧ zl1 (fX5_goOn_54 w) n s = zl1 (fX5_goOn_93 w) zFU s' ∧ RF g' s' ∧ OS w s' ∧ FrE s s' ∧ FrM g g' ∧ s' 6 = s 6 ∧ s' 8 = s 8 ∧ ((s' 10).toInt ≤ 4 → (s' 7).toInt < 10) ∧ K4 s s' := by
  intro n
  induction n with
  | zero => intro g s hr hf ho h; have := ho.2.2.2.2.2.1.1; omega
  | succ n ih =>
    intro g s hr hf ho h
    show ∃ g' s' : Nat → Int32, fX8_step_167 m (zl4 (fX8_step_167 m) n) g x1 (lee x1) x3 = zl4 (fX8_step_205 m) zFU g' x1 (lee x1) x3 ∧ fX5_goOn_54 w (zl1 (fX5_goOn_54 w) n) s = zl1 (fX5_goOn_93 w) zFU s' ∧ _
    unfold fX8_step_167 fX5_goOn_54
    have e19 : g 19 = s 7 := hf.2.2.2.2.2.2.1
    have e14 : g 14 = s 2 := hf.2.1
    rw [e19, e14]
    by_cases c : s 7 < 10
    · rw [if_pos c, if_pos c]
      exact ⟨g, s, rfl, rfl, hf, ho, fun _ _ _ _ _ _ _ _ => rfl, fun _ _ _ _ _ _ _ _ => rfl, rfl, rfl, fun _ => ilt.mp c, id⟩
    · rw [if_neg c, if_neg c]
      have h10 := ge10 c
      have hsub := sub10 h10
      rcases en_cases ho with hk | hk
      · rw [m_en0 (show (ups m 0 g 0 22).toInt ≤ 4 by show (g 22).toInt ≤ 4; rw [hf.2.2.2.2.2.2.2.2.2.1]; exact hk), e_en0 hk, ob1_s, ob1_s, if_pos rfl, if_pos rfl]
        have ho2 : OS w (ups s 7 (s 7 - 10)) := os_gone ho ⟨by rw [hsub]; omega, by rw [hsub]; have := ho.2.2.2.2.2.1.2; omega⟩
        obtain ⟨g1, s1, a1, a2, a3, a4, a5, a6, a7⟩ := s_go (m := m) (d := s 2) hw (show RW (ups m 0 (ups g 19 (s 7 - 10))) w from hr) (rf_gone hf) ho2 hk ho.1
        rw [a1, a2, ob1_s, ob1_s]
        have fr1 : FrE s s1 := fun k p1 p2 p3 p4 p5 p6 p7 => (a5 k p1 p5 p6 p7).trans (ups_n _ _ _ _ p3)
        have fr2 : FrM g g1 := fun k p1 p2 p3 p4 p5 p6 p7 => (a6 k p1 p5 p6 p7).trans (ups_n _ _ _ _ p3)
        have h7 : s1 7 = s 7 - 10 := (a5 7 (by decide) (by decide) (by decide) (by decide)).trans (ups_s _ _ _)
        obtain ⟨g', s', b1, b2, b3, b4, b5, b6, b7, b8, b9, b11⟩ := ih g1 s1 (fr2.rw hr) a3 a4 (by rw [h7, hsub]; omega)
        refine ⟨g', s', b1, b2, b3, b4, fr1.tr b5, fr2.tr b6, b7.trans ?_, b8.trans ?_, b9, fun q => by have q2 := a7 (b11 q); rw [ups_n _ _ _ _ (by decide)] at q2; exact q2⟩
        · exact (a5 6 (by decide) (by decide) (by decide) (by decide)).trans (ups_n _ _ _ _ (by decide))
        · exact (a5 8 (by decide) (by decide) (by decide) (by decide)).trans (ups_n _ _ _ _ (by decide))
      · rw [m_en1 (show 4 < (ups m 0 g 0 22).toInt by show 4 < (g 22).toInt; rw [hf.2.2.2.2.2.2.2.2.2.1]; have := hk.1; omega), e_en1 hk, ob1_s, ob1_s, if_neg (by decide), if_neg (by decide)]
        exact ⟨g, s, rfl, rfl, hf, ho, fun _ _ _ _ _ _ _ _ => rfl, fun _ _ _ _ _ _ _ _ => rfl, rfl, rfl, fun q => absurd q (by have := hk.1; omega), id⟩
/-- her guns, in both -/
def RGn (m w : Nat → Nat → Int32) (s : Nat → Int32) : Prop := m 3 5 = (if s 13 = 0 then w 0 8 else 0)
theorem guns_r {m w : Nat → Nat → Int32} {s : Nat → Int32} (hw : OW w) (hg : RGn m w s) : Rng (m 3 5) 0 9 := by
  unfold RGn at hg
  rw [hg]
  by_cases c : s 13 = 0
  · rw [if_pos c]; exact hw.2.2.2.2.2.2.2.1
  · rw [if_neg c]; exact ⟨by decide, by decide⟩
def TB (s : Nat → Int32) : Prop := (s 10).toInt ≤ 4 → (s 7).toInt < 10 ∧ (s 8).toInt < 10
theorem course {m w : Nat → Nat → Int32} {g s : Nat → Int32} (hw : OW w) (hr : RW (ups m 0 g) w) (hf : RF g s) (ho : OS w s) (hg : RGn m w s) (hk : (s 10).toInt ≤ 4) (htb : TB s) {x3 : Int32} (hx3 : Rng x3 0 15) : ∃ g' s' : Nat → Int32, fX8_step_122 m g (wnd s w) (lee (wnd s w)) x3 = fX8_step_240 m g' (wnd s w) x3 ∧ fX5_goOn s w x3 = some s' ∧ RF g' s' ∧ OS w s' ∧ FrE s s' ∧ FrM g g' ∧ s' 6 = s 6 ∧ TB s' ∧ K4 s s' := by
  obtain ⟨t7, t8⟩ := htb hk
  have o7 := ho.2.2.2.2.2.1
  have o8 := ho.2.2.2.2.2.2.1
  have o6 := ho.2.2.2.2.1
  have gr := guns_r hw hg
  have hsea := hw.2.2.1
  have k9 : (9 : Int32).toInt = 9 := rfl
  have k3 : (3 : Int32).toInt = 3 := rfl
  have k25 : (25 : Int32).toInt = 25 := rfl
  obtain ⟨g1, g2⟩ := gr
  obtain ⟨sea1, sea2⟩ := hsea
  obtain ⟨w1, w2⟩ := o6
  obtain ⟨o71, o72⟩ := o7
  obtain ⟨o81, o82⟩ := o8
  have a1 : ((9 : Int32) - m 3 5).toInt = 9 - (m 3 5).toInt := by rw [is'] <;> omega
  have a2 : (((9 : Int32) - m 3 5) / 3).toInt = (9 - (m 3 5).toInt) / 3 := by rw [idv (by omega) (by decide), a1, k3]
  have a3 : (s 6 / 25).toInt = (s 6).toInt / 25 := by rw [idv (by omega) (by decide), k25]
  have a4 : (w 0 3 + ((9 : Int32) - m 3 5) / 3).toInt = (w 0 3).toInt + (9 - (m 3 5).toInt) / 3 := by rw [ia] <;> rw [a2] <;> omega
  have a5 : (w 0 3 + ((9 : Int32) - m 3 5) / 3 + s 6 / 25).toInt = (w 0 3).toInt + (9 - (m 3 5).toInt) / 3 + (s 6).toInt / 25 := by rw [ia] <;> rw [a4, a3] <;> omega
  have a6 : (s 8 + (w 0 3 + ((9 : Int32) - m 3 5) / 3 + s 6 / 25)).toInt = (s 8).toInt + ((w 0 3).toInt + (9 - (m 3 5).toInt) / 3 + (s 6).toInt / 25) := by rw [ia] <;> rw [a5] <;> omega
  have a7 : (s 7 + x3).toInt = (s 7).toInt + x3.toInt := by obtain ⟨h1, h2⟩ := hx3; rw [ia] <;> omega
  have eE : fX5_goOn s w x3 = zl1 (fX5_goOn_54 w) zFU (ups (ups s 7 (s 7 + x3)) 8 (s 8 + (w 0 3 + ((9 : Int32) - m 3 5) / 3 + s 6 / 25))) := by
    unfold fX5_goOn fX5_goOn_15
    unfold RGn at hg
    by_cases c : s 13 = 0
    · rw [if_pos c]; rw [if_pos c] at hg; rw [hg]
    · rw [if_neg c]; rw [if_neg c] at hg; rw [hg]
  have eM : fX8_step_122 m g (wnd s w) (lee (wnd s w)) x3 = zl4 (fX8_step_167 m) zFU (ups (ups g 19 (s 7 + x3)) 20 (s 8 + (w 0 3 + ((9 : Int32) - m 3 5) / 3 + s 6 / 25))) (wnd s w) (lee (wnd s w)) x3 := by
    unfold fX8_step_122
    have q0 : m 3 ((0 : Int32)).toNatClampNeg = w 0 3 := hr.2.2.2.2.2.2.2.2.2.1
    have q5 : m 3 ((5 : Int32)).toNatClampNeg = m 3 5 := rfl
    rw [q0, q5, hf.2.2.2.2.2.1, hf.2.2.2.2.2.2.1, hf.2.2.2.2.2.2.2.1]
  rw [eE, eM]
  obtain ⟨hx30, hx31⟩ := hx3
  have hf1 := rf_slid (x := s 8 + (w 0 3 + ((9 : Int32) - m 3 5) / 3 + s 6 / 25)) (rf_gone (x := s 7 + x3) hf)
  have ho1 := os_slid (x := s 8 + (w 0 3 + ((9 : Int32) - m 3 5) / 3 + s 6 / 25)) (os_gone (x := s 7 + x3) ho ⟨by rw [a7]; omega, by rw [a7]; omega⟩) ⟨by rw [a6]; omega, by rw [a6]; omega⟩
  generalize s 8 + (w 0 3 + ((9 : Int32) - m 3 5) / 3 + s 6 / 25) = X8 at *
  generalize s 7 + x3 = X7 at *
  obtain ⟨ga, sa, b1, b2, b3, b4, b5, b6, b7, b8, b9, b11⟩ := gone_loop (m := m) hw (wnd s w) x3 zFU _ _ (show RW (ups m 0 (ups (ups g 19 X7) 20 X8)) w from hr) hf1 ho1 (by rw [ups_n _ _ _ _ (by decide), ups_s]; unfold zFU; omega)
  rw [b1, b2]
  have fE1 : FrE s sa := fun k p1 p2 p3 p4 p5 p6 p7 => (b5 k p1 p2 p3 p4 p5 p6 p7).trans ((ups_n _ _ _ _ p4).trans (ups_n _ _ _ _ p3))
  have fM1 : FrM g ga := fun k p1 p2 p3 p4 p5 p6 p7 => (b6 k p1 p2 p3 p4 p5 p6 p7).trans ((ups_n _ _ _ _ p4).trans (ups_n _ _ _ _ p3))
  have h8 : sa 8 = X8 := b8.trans (ups_s _ _ _)
  have h6 : sa 6 = s 6 := b7.trans ((ups_n _ _ _ _ (by decide)).trans (ups_n _ _ _ _ (by decide)))
  obtain ⟨gb, sb, c1, c2, c3, c4, c5, c6, c7, c8', c9, c10, c11⟩ := slid_loop (m := m) hw (wnd s w) x3 zFU ga sa (fM1.rw hr) b3 b4 (fE1.wn w) (by rw [h8]; unfold zFU; omega)
  refine ⟨gb, sb, c1, c2, c3, c4, fE1.tr c5, fM1.tr c6, c7.trans h6, fun hkk => ⟨?_, c9 hkk⟩, fun q => by have q2 := b11 (c11 q); rw [ups_n _ _ _ _ (by decide), ups_n _ _ _ _ (by decide)] at q2; exact q2⟩
  rw [c8']
  exact b9 (c10 hkk)

theorem rf_water {g s : Nat → Int32} {x : Int32} (hf : RF g s) : RF (ups g 18 x) (ups s 6 x) := by
  obtain ⟨f1, f2, f3, f4, f5, f6, f7, f8, f9, f10, f11⟩ := hf
  unfold RF
  simp only [ups_at]
  simp
  exact ⟨f1, f2, f3, f4, f5, f7, f8, f9, f10, f11⟩
theorem rf_kind {g s : Nat → Int32} {x : Int32} (hf : RF g s) (hx : x.toInt ≤ 4) : RF (ups g 22 x) (ups s 10 x) := by
  obtain ⟨f1, f2, f3, f4, f5, f6, f7, f8, f9, f10, f11⟩ := hf
  unfold RF
  simp only [ups_at]
  simp
  exact ⟨f1, f2, f3, f4, f5, f6, f7, f8, f9, fun h => absurd h (by omega)⟩
theorem rf_ten {g s : Nat → Int32} {x : Int32} (hf : RF g s) : RF (ups g 21 x) (ups s 9 x) := by
  obtain ⟨f1, f2, f3, f4, f5, f6, f7, f8, f9, f10, f11⟩ := hf
  unfold RF
  simp only [ups_at]
  simp
  exact ⟨f1, f2, f3, f4, f5, f6, f7, f8, f10, f11⟩
theorem os_water {w : Nat → Nat → Int32} {s : Nat → Int32} {x : Int32} (ho : OS w s) (hx : Rng x 0 100) : OS w (ups s 6 x) := by
  obtain ⟨o2, o3, o4, o5, o6, o7, o8, o10, o11, o12, o1, oc⟩ := ho
  unfold OS
  simp only [ups_at]
  simp
  exact ⟨o2, o3, o4, o5, hx, o7, o8, o10, o11, o12, o1, oc⟩
theorem os_kind {w : Nat → Nat → Int32} {s : Nat → Int32} {x : Int32} (ho : OS w s) (hk : (s 10).toInt ≤ 4) (hx : Rng x 0 4) : OS w (ups s 10 x) := by
  obtain ⟨o2, o3, o4, o5, o6, o7, o8, o10, o11, o12, o1, oc⟩ := ho
  unfold OS
  simp only [ups_at]
  simp
  exact ⟨o2, o3, o4, o5, o6, o7, o8, ⟨hx.1, by have := hx.2; omega⟩, o11, o12, o1, fun _ => oc hk⟩
theorem os_ten {w : Nat → Nat → Int32} {s : Nat → Int32} {x : Int32} (ho : OS w s) : OS w (ups s 9 x) := by
  obtain ⟨o2, o3, o4, o5, o6, o7, o8, o10, o11, o12, o1, oc⟩ := ho
  unfold OS
  simp only [ups_at]
  simp
  exact ⟨o2, o3, o4, o5, o6, o7, o8, o10, o11, o12, o1, oc⟩
theorem rf_end0 {w : Nat → Nat → Int32} {g s : Nat → Int32} {k : Int32} (hf : RF g s) : RF (endM w g k) (endE w s k) := by
  obtain ⟨f1, f2, f3, f4, f5, f6, f7, f8, f9, f10, f11⟩ := hf
  unfold RF endM endE
  simp only [ups_at]
  simp
  rw [f9]
  exact ⟨f1, f2, f3, f4, f5, f6, f7, f8, rfl, fun h => ⟨rfl, rfl⟩⟩
theorem os_end0 {w : Nat → Nat → Int32} {s : Nat → Int32} {k : Int32} (hw : OW w) (ho : OS w s) (hkk : Rng k 5 8) : OS w (endE w s k) := by
  obtain ⟨o2, o3, o4, o5, o6, o7, o8, o10, o11, o12, o1, oc⟩ := ho
  have ht := tid_r hw (s 9)
  have hd := drk_r w (s 9)
  unfold OS endE
  simp only [ups_at]
  simp
  exact ⟨o2, o3, o4, o5, o6, o7, o8, ⟨by have := hkk.1; omega, hkk.2⟩, ht, hd, o1, fun h => absurd h (by have := hkk.1; omega)⟩
/-- what a whole ten doesn't touch -/
def GrE (s0 s : Nat → Int32) : Prop := ∀ k, k ≠ 1 → k ≠ 6 → k ≠ 7 → k ≠ 8 → k ≠ 9 → k ≠ 10 → k ≠ 11 → k ≠ 12 → s k = s0 k
def GrM (g0 g : Nat → Int32) : Prop := ∀ k, k ≠ 13 → k ≠ 18 → k ≠ 19 → k ≠ 20 → k ≠ 21 → k ≠ 22 → k ≠ 23 → k ≠ 24 → g k = g0 k
theorem FrE.gr {a b : Nat → Int32} (h : FrE a b) : GrE a b := fun k p1 p2 p3 p4 _ p6 p7 p8 => h k p1 p2 p3 p4 p6 p7 p8
theorem FrM.gr {a b : Nat → Int32} (h : FrM a b) : GrM a b := fun k p1 p2 p3 p4 _ p6 p7 p8 => h k p1 p2 p3 p4 p6 p7 p8
theorem GrE.tr {a b c : Nat → Int32} (h1 : GrE a b) (h2 : GrE b c) : GrE a c := fun k p1 p2 p3 p4 p5 p6 p7 p8 => (h2 k p1 p2 p3 p4 p5 p6 p7 p8).trans (h1 k p1 p2 p3 p4 p5 p6 p7 p8)
theorem GrM.tr {a b c : Nat → Int32} (h1 : GrM a b) (h2 : GrM b c) : GrM a c := fun k p1 p2 p3 p4 p5 p6 p7 p8 => (h2 k p1 p2 p3 p4 p5 p6 p7 p8).trans (h1 k p1 p2 p3 p4 p5 p6 p7 p8)
