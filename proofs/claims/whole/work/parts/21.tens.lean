/-! tens, one after another, in both -/
def SS (T : Nat) (m w : Nat → Nat → Int32) (s : Nat → Int32) : Prop := RW m w ∧ RF (m 0) s ∧ RM (m 0) s ∧ RGn m w s ∧ OS w s ∧ TB s ∧ AN s ∧ Rng (s 9) 0 T ∧ s 0 = 1 ∧ m 0 12 = 1
def FrS (s s' : Nat → Int32) : Prop := ∀ k, (k = 0 ∨ 12 < k) → s' k = s k
def FrG (g g' : Nat → Int32) : Prop := ∀ k, (k < 13 ∨ 24 < k) → g' k = g k
theorem FrS.tr {a b c : Nat → Int32} (h1 : FrS a b) (h2 : FrS b c) : FrS a c := fun k h => (h2 k h).trans (h1 k h)
theorem FrG.tr {a b c : Nat → Int32} (h1 : FrG a b) (h2 : FrG b c) : FrG a c := fun k h => (h2 k h).trans (h1 k h)
theorem FrS.rf {a : Nat → Int32} : FrS a a := fun _ _ => rfl
theorem FrG.rf {a : Nat → Int32} : FrG a a := fun _ _ => rfl
theorem RM.fr {g g' s s' : Nat → Int32} (h : RM g s) (hg : FrG g g') (hs : FrS s s') : RM g' s' := by
  unfold RM
  rw [hg 25 (by omega), hg 26 (by omega), hg 27 (by omega), hs 13 (by omega), hs 14 (by omega), hs 15 (by omega), hs 16 (by omega)]
  exact h
theorem RGn.fr {m w : Nat → Nat → Int32} {g' s s' : Nat → Int32} (h : RGn m w s) (hs : FrS s s') : RGn (ups m 0 g') w s' := by
  unfold RGn
  rw [hs 13 (by omega)]
  exact h
theorem ss_step {T : Nat} {m w : Nat → Nat → Int32} {s : Nat → Int32} (hw : OW w) (hT : T < 1000000) (h : SS T m w s) : ∃ u s' : Nat → Int32, fX8_step m = some u ∧ fX5_passTen s w = some s' ∧ SS (T + 1) (ups m 0 u) w s' ∧ FrS s s' ∧ FrG (m 0) u := by
  obtain ⟨h1, h2, h3, h4, h5, h6, h7, h8, h9, h10⟩ := h
  obtain ⟨u, s', a1, a2, a3, a4, a5, a6, a7, a8, a9⟩ := s_step hw h1 h2 h3 h4 h5 h6 (by have := h8.2; omega)
  have f1 : FrS s s' := fun k hk => a7 k (by omega) (by omega) (by omega) (by omega) (by omega) (by omega) (by omega) (by omega)
  have f2 : FrG (m 0) u := fun k hk => a8 k (by omega) (by omega) (by omega) (by omega) (by omega) (by omega) (by omega) (by omega)
  have e1 : (1 : Int32).toInt = 1 := rfl
  obtain ⟨t1, t2⟩ := h8
  have e9 : (s' 9).toInt = (s 9).toInt + 1 := by rw [a6, ia] <;> omega
  refine ⟨u, s', a1, a2, ⟨h1.root (f2 0 (by omega)) (f2 1 (by omega)) (f2 6 (by omega)) (f2 9 (by omega)), a3, h3.fr f2 f1, h4.fr f1, a4, a5, ?_, ⟨by omega, by rw [e9]; omega⟩, (f1 0 (by omega)).trans h9, (f2 12 (by omega)).trans h10⟩, f1, f2⟩
  intro q
  rw [a7 5 (by decide) (by decide) (by decide) (by decide) (by decide) (by decide) (by decide) (by decide)]
  exact h7 (a9 q)
/-- the class's own ten, as a function -/
def ten (w : Nat → Nat → Int32) (s : Nat → Int32) : Nat → Int32 := (fX5_passTen s w).getD s
def tens (w : Nat → Nat → Int32) : Nat → (Nat → Int32) → Nat → Int32
  | 0, s => s
  | k + 1, s => tens w k (ten w s)
theorem ss_ten {T : Nat} {m w : Nat → Nat → Int32} {s : Nat → Int32} (hw : OW w) (hT : T < 1000000) (h : SS T m w s) : ∃ u : Nat → Int32, fX8_step m = some u ∧ fX5_passTen s w = some (ten w s) ∧ SS (T + 1) (ups m 0 u) w (ten w s) ∧ FrS s (ten w s) ∧ FrG (m 0) u := by
  obtain ⟨u, s', a1, a2, a3, a4, a5⟩ := ss_step hw hT h
  have e : ten w s = s' := by unfold ten; rw [a2]; rfl
  rw [e]
  exact ⟨u, a1, a2, a3, a4, a5⟩
theorem m_tens {R : Type} {w B : Nat → Nat → Int32} (hw : OW w) {N : Nat} (hN : N < 1000) (L : Nat → (Nat → Int32) → Int32 → Option R) (K : (Nat → Int32) → Option R) (hL : ∀ f g i, L (f + 1) g i = if nI N ≤ i then K g else ob1 (fX8_step (ups B 0 g)) (fun u => L f u (i + 1))) : ∀ (f j T : Nat) (g s : Nat → Int32), T + (N - j) < 1000000 → j ≤ N → N < f + j → SS T (ups B 0 g) w s → ∃ g' : Nat → Int32, L f g (nI j) = K g' ∧ SS (T + (N - j)) (ups B 0 g') w (tens w (N - j) s) ∧ FrS s (tens w (N - j) s) ∧ FrG g g' := by
  intro f
  induction f with
  | zero => intro j T g s hT h1 h2 h; omega
  | succ f ih =>
    intro j T g s hT h1 h2 h
    rw [hL]
    by_cases c : j = N
    · subst c
      rw [if_pos (by rw [nI_leI (by omega) (by omega)]; omega)]
      rw [Nat.sub_self]
      exact ⟨g, rfl, h, FrS.rf, FrG.rf⟩
    · rw [if_neg (by rw [nI_leI (by omega) (by omega)]; omega)]
      obtain ⟨u, a1, a2, a3, a4, a5⟩ := ss_ten hw (by omega) h
      rw [a1, ob1_s, nI_1]
      rw [ups2] at a3
      rw [ups_s] at a5
      obtain ⟨g', b1, b2, b3, b4⟩ := ih (j + 1) (T + 1) u (ten w s) (by omega) (by omega) (by omega) a3
      have e : N - j = (N - (j + 1)) + 1 := by omega
      refine ⟨g', b1, ?_, ?_, a5.tr b4⟩
      · rw [e]; show SS _ _ w (tens w (N - (j + 1)) (ten w s))
        have : T + (N - (j + 1) + 1) = T + 1 + (N - (j + 1)) := by omega
        rw [this]; exact b2
      · rw [e]; exact a4.tr b3
theorem e_tens {w B : Nat → Nat → Int32} (hw : OW w) {N : Nat} (hN : N < 1000) {g s : Nat → Int32} {T : Nat} (hT : T + N < 1000000) (h : SS T (ups B 0 g) w s) : fX5_passTens s w (nI N) = some (tens w N s) := by
  have key : ∀ (f j T : Nat) (g s : Nat → Int32), T + (N - j) < 1000000 → j ≤ N → N < f + j → SS T (ups B 0 g) w s → zl3 (fX5_passTens_2 w) f s (nI N) (nI j) = some (tens w (N - j) s) := by
    intro f
    induction f with
    | zero => intro j T g s hT h1 h2 h; omega
    | succ f ih =>
      intro j T g s hT h1 h2 h
      show fX5_passTens_2 w (zl3 (fX5_passTens_2 w) f) s (nI N) (nI j) = _
      unfold fX5_passTens_2
      by_cases c : j = N
      · subst c
        rw [if_pos (by rw [nI_leI (by omega) (by omega)]; omega), Nat.sub_self]
        rfl
      · rw [if_neg (by rw [nI_leI (by omega) (by omega)]; omega)]
        obtain ⟨u, a1, a2, a3, a4, a5⟩ := ss_ten hw (by omega) h
        rw [ups2] at a3
        rw [a2, ob1_s, nI_1]
        have e : N - j = (N - (j + 1)) + 1 := by omega
        rw [e]
        exact ih (j + 1) (T + 1) u (ten w s) (by omega) (by omega) (by omega) a3
  exact key zFU 0 T g s hT (Nat.zero_le _) (by unfold zFU; omega) h
/-- may she turn -/
theorem ss_may {T : Nat} {m w : Nat → Nat → Int32} {s : Nat → Int32} {d : Int32} (hw : OW w) (hT : T < 1000000) (h : SS T m w s) (hd : D8 d) : (fX5_mayTurn s w d = some 0 ∧ fX8_mayTurn m d = some 0) ∨ (fX5_mayTurn s w d = some 1 ∧ fX8_mayTurn m d = some 1 ∧ (s 10).toInt ≤ 4 ∧ ¬ s 10 = 4) := by
  obtain ⟨h1, h2, h3, h4, h5, h6, h7, h8, h9, h10⟩ := h
  have e21 : m 0 21 = s 9 := h2.2.2.2.2.2.2.2.2.1
  have e22 : m 0 22 = s 10 := h2.2.2.2.2.2.2.2.2.2.1
  have q4 : m 3 ((4 : Int32)).toNatClampNeg = w 0 7 := h1.2.2.2.2.2.2.2.2.2.2.2.2.2.1
  have n1 : ¬ (1 : Int32) = 0 := by decide
  have hs0 : ¬ s 0 = 0 := by rw [h9]; decide
  have hm0 : ¬ m 0 12 = 0 := by rw [h10]; decide
  rcases en_cases h5 with k | k
  · have al1 : fX5_isAlive s = some 1 := by unfold fX5_isAlive; rw [if_neg hs0, e_en0 k, ob1_s, if_pos rfl]
    have x2 : fX8_ended m = some 0 := m_en0 (by rw [e22]; exact k)
    by_cases c4 : s 10 = 4
    · left
      constructor
      · unfold fX5_mayTurn; rw [al1, ob1_s, if_neg n1, if_pos c4]
      · unfold fX8_mayTurn; rw [if_neg hm0, x2, ob1_s, if_pos rfl, e22, if_pos c4]
    · have hwm : fX8_wind_ m (s 9) = some (wnd s w) := m_wndAt hw h1 h3 (x := s 9) (by have := h8.2; omega)
      have hD : D8 (wnd s w) := wnd_r h3 (by have := h8.2; omega)
      have hap : fX7_apart d (wnd s w) = some (zap d (wnd s w)) := rfl
      by_cases c : zap d (wnd s w) < w 0 7
      · left
        constructor
        · unfold fX5_mayTurn; rw [al1, ob1_s, if_neg n1, if_neg c4, e_wnd hw, ob1_s, hap, ob1_s, if_pos c]
        · unfold fX8_mayTurn; rw [if_neg hm0, x2, ob1_s, if_pos rfl, e22, if_neg c4, e21, hwm, ob1_s, m_apart hd hD, ob1_s, q4, if_pos c]
      · right
        refine ⟨?_, ?_, k, c4⟩
        · unfold fX5_mayTurn; rw [al1, ob1_s, if_neg n1, if_neg c4, e_wnd hw, ob1_s, hap, ob1_s, if_neg c]
        · unfold fX8_mayTurn; rw [if_neg hm0, x2, ob1_s, if_pos rfl, e22, if_neg c4, e21, hwm, ob1_s, m_apart hd hD, ob1_s, q4, if_neg c]
  · have al0 : fX5_isAlive s = some 0 := by unfold fX5_isAlive; rw [if_neg hs0, e_en1 k, ob1_s, if_neg n1]
    have x2 : fX8_ended m = some 1 := m_en1 (by rw [e22]; have := k.1; omega)
    left
    constructor
    · unfold fX5_mayTurn; rw [al0, ob1_s, if_pos rfl]
    · unfold fX8_mayTurn; rw [if_neg hm0, x2, ob1_s, if_neg n1]
/-- she wears: both alike -/
theorem ss_wear {T : Nat} {m w : Nat → Nat → Int32} {s : Nat → Int32} {d : Int32} (hw : OW w) (hT : T < 1000000) (h : SS T m w s) (hd : D8 d) (hk : (s 10).toInt ≤ 4) : ∃ u s' : Nat → Int32, fX8_wears m d = some u ∧ fX5_turnBeforeWind s w d = some s' ∧ SS T (ups m 0 u) w s' ∧ FrS s s' ∧ FrG (m 0) u := by
  obtain ⟨h1, h2, h3, h4, h5, h6, h7, h8, h9, h10⟩ := h
  have e21 : m 0 21 = s 9 := h2.2.2.2.2.2.2.2.2.1
  have hwm : fX8_wind_ (ups m 0 (ups (m 0) 14 d)) (m 0 21) = some (wnd s w) := by
    rw [e21]
    exact m_wndAt hw (show RW (ups m 0 (ups (m 0) 14 d)) w from h1) (show RM ((ups m 0 (ups (m 0) 14 d)) 0) s from h3) (x := s 9) (by have := h8.2; omega)
  have hD : D8 (wnd s w) := wnd_r h3 (by have := h8.2; omega)
  have hwe : fX5_windIn (ups s 2 d) w = some (wnd s w) := e_wnd (s := ups s 2 d) hw
  have hf : RF (ups (m 0) 14 d) (ups s 2 d) := by
    obtain ⟨f1, f2, f3, f4, f5, f6, f7, f8, f9, f10, f11⟩ := h2
    unfold RF; simp only [ups_at]; simp
    exact ⟨f1, f3, f4, f5, f6, f7, f8, f9, f10, f11⟩
  have ho : OS w (ups s 2 d) := by
    obtain ⟨o2, o3, o4, o5, o6, o7, o8, o10, o11, o12, o1, oc⟩ := h5
    unfold OS; simp only [ups_at]; simp
    exact ⟨hd, o3, o4, o5, o6, o7, o8, o10, o11, o12, o1, oc⟩
  obtain ⟨g1, s1, a1, a2, a3, a4, a5, a6, a7⟩ := s_go (m := m) (g := ups (m 0) 14 d) (s := ups s 2 d) (d := lee (wnd s w)) hw h1 hf ho hk (lee_r _)
  have fS : FrS s s1 := fun k q => (a5 k (by omega) (by omega) (by omega) (by omega)).trans (ups_n _ _ _ _ (by omega))
  have fG : FrG (m 0) g1 := fun k q => (a6 k (by omega) (by omega) (by omega) (by omega)).trans (ups_n _ _ _ _ (by omega))
  have s9 : s1 9 = s 9 := (a5 9 (by decide) (by decide) (by decide) (by decide)).trans (ups_n _ _ _ _ (by decide))
  have s5 : s1 5 = s 5 := (a5 5 (by decide) (by decide) (by decide) (by decide)).trans (ups_n _ _ _ _ (by decide))
  have s7 : s1 7 = s 7 := (a5 7 (by decide) (by decide) (by decide) (by decide)).trans (ups_n _ _ _ _ (by decide))
  have s8 : s1 8 = s 8 := (a5 8 (by decide) (by decide) (by decide) (by decide)).trans (ups_n _ _ _ _ (by decide))
  have root : ∀ g' : Nat → Int32, FrG (m 0) g' → RW (ups m 0 g') w := fun g' fr => h1.root (fr 0 (by omega)) (fr 1 (by omega)) (fr 6 (by omega)) (fr 9 (by omega))
  have ml : zrem (wnd s w + 4) 8 = lee (wnd s w) := m_lee hD
  have e22 : g1 22 = s1 10 := a3.2.2.2.2.2.2.2.2.2.1
  rcases en_cases a4 with k | k
  · have x1 := e_en0 k
    have x2 : fX8_ended (ups m 0 g1) = some 0 := m_en0 (show (g1 22).toInt ≤ 4 by rw [e22]; exact k)
    have fS2 : FrS s (ups s1 10 2) := fun k q => (ups_n _ _ _ _ (by omega)).trans (fS k q)
    have fG2 : FrG (m 0) (ups g1 22 2) := fun k q => (ups_n _ _ _ _ (by omega)).trans (fG k q)
    refine ⟨ups g1 22 2, ups s1 10 2, by simp only [fX8_wears, hwm, ob1_s, ml, a1, x2, ↓reduceIte], by simp only [fX5_turnBeforeWind, hwe, ob1_s, e_lee, a2, x1, ↓reduceIte], ⟨root _ fG2, rf_kind a3 (by decide), h3.fr fG2 fS2, h4.fr fS2, os_kind a4 k ⟨by decide, by decide⟩, fun _ => ?_, fun q => ?_, ?_, (fS2 0 (by omega)).trans h9, (fG2 12 (by omega)).trans h10⟩, fS2, fG2⟩
    · rw [ups_n _ _ _ _ (by decide), ups_n _ _ _ _ (by decide), s7, s8]; exact h6 hk
    · rw [ups_s] at q; exact absurd q (by decide)
    · rw [ups_n _ _ _ _ (by decide), s9]; exact h8
  · have x1 := e_en1 k
    have x2 : fX8_ended (ups m 0 g1) = some 1 := m_en1 (show 4 < (g1 22).toInt by rw [e22]; have := k.1; omega)
    refine ⟨g1, s1, by simp only [fX8_wears, hwm, ob1_s, ml, a1, x2, i10, ↓reduceIte], by simp only [fX5_turnBeforeWind, hwe, ob1_s, e_lee, a2, x1, i10, ↓reduceIte], ⟨root _ fG, a3, h3.fr fG fS, h4.fr fS, a4, fun q => absurd q (by have := k.1; omega), fun q => absurd q (by have := k.1; omega), ?_, (fS 0 (by omega)).trans h9, (fG 12 (by omega)).trans h10⟩, fS, fG⟩
    rw [s9]; exact h8
