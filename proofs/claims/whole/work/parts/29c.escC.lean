/-! the model's search, step by step -/
theorem pr_up {w : Nat → Nat → Int32} {v : Int32} {A A' : Nat → Int32} {σ : Nat} {d : Int32} (hA : ∀ τ, 0 ≤ (A τ).toInt → A' τ = A τ) (hσ : 0 ≤ (A σ).toInt) (h : Pr w v A σ d) : Pr w v A' σ d := fun ha => by
  obtain ⟨p1, p2⟩ := h ha
  refine ⟨p1, fun c' b' hm => ?_⟩
  obtain ⟨q1, q2⟩ := p2 c' b' hm
  rw [hA _ q1, hA _ hσ]
  exact ⟨q1, q2⟩
theorem bfs_push {w : Nat → Nat → Int32} {v : Int32} {src last p d : Nat} {A Q : Nat → Int32} (hB : Bfs w v src A Q last) (hp : p < last) (hC1 : ∀ i, i < last → (A (qn Q i)).toInt ≤ (A (qn Q p)).toInt + 1) (hC2 : ∀ i, i < p → ∀ δ, Pr w v A (qn Q i) δ) (hC3 : ∀ e, e < d → Pr w v A (qn Q p) (nI e)) {σ' : Nat} (hσ : σ' < 192) (hc' : CellOk w (nI (σ' / 3))) (hneg : A σ' < 0) (hstep : ∀ k, LM w v k σ' → LM w v (k + 1) (qn Q p)) : last < 192 ∧ Bfs w v src (upd A σ' (A (qn Q p) + 1)) (upd Q last (nI σ')) (last + 1) ∧ qn (upd Q last (nI σ')) p = qn Q p ∧ (∀ i, i < last + 1 → (upd A σ' (A (qn Q p) + 1) (qn (upd Q last (nI σ')) i)).toInt ≤ (upd A σ' (A (qn Q p) + 1) (qn Q p)).toInt + 1) ∧ (∀ i, i < p → ∀ δ, Pr w v (upd A σ' (A (qn Q p) + 1)) (qn (upd Q last (nI σ')) i) δ) ∧ (∀ e, e < d → Pr w v (upd A σ' (A (qn Q p) + 1)) (qn Q p) (nI e)) ∧ (upd A σ' (A (qn Q p) + 1) σ').toInt = (A (qn Q p)).toInt + 1 ∧ (∀ τ, 0 ≤ (A τ).toInt → upd A σ' (A (qn Q p) + 1) τ = A τ) := by
  obtain ⟨-, t2, t3, t4, t5⟩ := hB.b2 p hp
  have hneg' : (A σ').toInt < 0 := ilt.mp hneg
  have l1 : last < 192 := by
    have z := hB.b4
    by_cases q : cn isN A 192 = 0
    · have := cn_0 isN A 192 q σ' hσ
      unfold isN at this
      exact absurd hneg (of_decide_eq_false this)
    · omega
  have k1 : (1 : Int32).toInt = 1 := rfl
  have eF : (A (qn Q p) + 1).toInt = (A (qn Q p)).toInt + 1 := by rw [ia] <;> omega
  obtain ⟨A', hA'⟩ : ∃ A', A' = upd A σ' (A (qn Q p) + 1) := ⟨_, rfl⟩
  obtain ⟨Q', hQ'⟩ : ∃ Q', Q' = upd Q last (nI σ') := ⟨_, rfl⟩
  have x1 : (A' σ').toInt = (A (qn Q p)).toInt + 1 := by rw [hA', pk_us]; exact eF
  have x2 : ∀ τ, 0 ≤ (A τ).toInt → A' τ = A τ := fun τ hτ => by
    rw [hA']
    exact pk_un (fun e => by rw [e] at hτ; omega)
  have y1 : qn Q' last = σ' := by unfold qn; rw [hQ', pk_us, nI_toInt (by omega)]; omega
  have y0 : Q' last = nI σ' := by rw [hQ']; exact pk_us
  have y2 : ∀ i, i < last → Q' i = Q i := fun i hi => by rw [hQ']; exact pk_un (by omega)
  have y3 : ∀ i, i < last → qn Q' i = qn Q i := fun i hi => by unfold qn; rw [y2 i hi]
  have x3 : ∀ i, i < last → A' (qn Q' i) = A (qn Q i) := fun i hi => by rw [y3 i hi]; exact x2 _ (hB.b2 i hi).2.2.2.1
  rw [← hA', ← hQ']
  refine ⟨l1, ⟨?_, ?_, ?_, ?_, ?_, ?_⟩, y3 p hp, ?_, ?_, ?_, x1, x2⟩
  · intro i hi
    by_cases e : i = last
    · subst e
      rw [y1, y0]
      exact ⟨rfl, hσ, hc', by omega, by omega⟩
    · obtain ⟨u1, u2, u3, u4, u5⟩ := hB.b2 i (by omega)
      rw [y2 i (by omega), y3 i (by omega), x2 _ u4]
      exact ⟨u1, u2, u3, u4, u5⟩
  · intro σ hs
    by_cases e : σ = σ'
    · exact Or.inr ⟨last, by omega, by rw [y1, e]⟩
    · rcases hB.b3 σ hs with q | ⟨i, q1, q2⟩
      · left
        rw [hA', pk_un e]; exact q
      · exact Or.inr ⟨i, by omega, by rw [y3 i q1, q2]⟩
  · have := cn_upd isN A σ' (A (qn Q p) + 1) (by unfold isN; exact decide_eq_true hneg) (by unfold isN; exact decide_eq_false (nn' (by omega))) 192 hσ
    have z := hB.b4
    rw [hA']
    omega
  · intro i j hij hj
    by_cases e : j = last
    · subst e
      by_cases e2 : i = j
      · subst e2; exact Int.le_refl _
      · rw [y1, x1, x3 i (by omega)]
        exact hC1 i (by omega)
    · rw [x3 i (by omega), x3 j (by omega)]
      exact hB.b5 i j hij (by omega)
  · intro σ hs h0 k hk
    by_cases e : σ = σ'
    · subst e
      have h1 := hB.b6 (qn Q p) t2 t4 (k + 1) (hstep k hk)
      have e3 : (A' σ).toInt.toNat + k = (A (qn Q p)).toInt.toNat + (k + 1) := by rw [x1]; omega
      rw [e3]; exact h1
    · have : A' σ = A σ := by rw [hA', pk_un e]
      rw [this] at h0 ⊢
      exact hB.b6 σ hs h0 k hk
  · obtain ⟨s1, s2⟩ := hB.b7
    refine ⟨s1, ?_⟩
    rw [x2 src (by omega)]; exact s2
  · intro i hi
    rw [x2 _ t4]
    by_cases e : i = last
    · subst e; rw [y1, x1]; exact Int.le_refl _
    · rw [x3 i (by omega)]; exact hC1 i (by omega)
  · intro i hi δ
    rw [y3 i (by omega)]
    exact pr_up x2 (hB.b2 i (by omega)).2.2.2.1 (hC2 i hi δ)
  · intro e he
    exact pr_up x2 t4 (hC3 e he)
theorem dirs_loop {m w : Nat → Nat → Int32} (hr : RW m w) (hw : OW w) {v : Int32} (hv : D8 v) {src p : Nat} {s91 : S91} : ∀ (f d : Nat) (A Q : Nat → Int32) (last : Nat), d ≤ 8 → 8 < f + d → Bfs w v src A Q last → p < last → (∀ i, i < last → (A (qn Q i)).toInt ≤ (A (qn Q p)).toInt + 1) → (∀ i, i < p → ∀ δ, Pr w v A (qn Q i) δ) → (∀ e, e < d → Pr w v A (qn Q p) (nI e)) → (∃ (F : Nat) (A' Q' : Nat → Int32), F < 192 ∧ zl9 (fX8_moves_121 m s91) f A Q v (lee v) (nI (p + 1)) (nI last) (nI (qn Q p)) (nI (qn Q p % 3 + 1)) (nI d) = some (nI (F + 1), A', Q') ∧ LM w v (F + 1) src ∧ ¬ LM w v F src) ∨ (∃ (A' Q' : Nat → Int32) (last' : Nat), zl9 (fX8_moves_121 m s91) f A Q v (lee v) (nI (p + 1)) (nI last) (nI (qn Q p)) (nI (qn Q p % 3 + 1)) (nI d) = s91 A' Q' v (lee v) (nI (p + 1)) (nI last') ∧ Bfs w v src A' Q' last' ∧ p < last' ∧ (∀ i, i < last' → (A' (qn Q' i)).toInt ≤ (A' (qn Q' p)).toInt + 1) ∧ (∀ i, i < p + 1 → ∀ δ, Pr w v A' (qn Q' i) δ)) := by
  intro f
  induction f with
  | zero => intro d A Q last h1 h2; omega
  | succ f ih =>
    intro d A Q last h1 h2 hB hp hC1 hC2 hC3
    have eZ : ∀ x8, zl9 (fX8_moves_121 m s91) (f + 1) A Q v (lee v) (nI (p + 1)) (nI last) (nI (qn Q p)) (nI (qn Q p % 3 + 1)) x8 = fX8_moves_121 m s91 (zl9 (fX8_moves_121 m s91) f) A Q v (lee v) (nI (p + 1)) (nI last) (nI (qn Q p)) (nI (qn Q p % 3 + 1)) x8 := fun _ => rfl
    rw [eZ]
    by_cases c8 : d = 8
    · right
      refine ⟨A, Q, last, ?_, hB, hp, hC1, fun i hi δ => ?_⟩
      · generalize zl9 (fX8_moves_121 m s91) f = Z
        unfold fX8_moves_121
        rw [if_pos (by rw [c8]; decide)]
      · by_cases e : i = p
        · subst e
          intro ha
          obtain ⟨j, hj, ej⟩ := d8_nI ha.1
          have := hC3 j (by omega)
          rw [← ej] at this
          exact this ha
        · exact hC2 i (by omega) δ
    · obtain ⟨t1, t2, t3, t4, t5⟩ := hB.b2 p hp
      have hl : last ≤ 192 := by have := hB.b4; omega
      have i2 := fun A Q last => ih (d + 1) A Q last (by omega) (by omega)
      rw [m_one hr hw hv A Q (nI (p + 1)) (nI last) t2 t3 (show d < 8 by omega)]
      have hdd : D8 (nI d) := by unfold D8; rw [nI_toInt (by omega)]; omega
      -- go on with nothing new
      have go : Pr w v A (qn Q p) (nI d) → _ := fun hpr => i2 A Q last hB hp hC1 hC2 (fun e he => by
        by_cases q : e = d
        · subst q; exact hpr
        · exact hC3 e (by omega))
      by_cases ca : zap (nI d) v < w 0 7
      · rw [if_pos ca]
        exact go (fun ha => absurd ca ha.2)
      · rw [if_neg ca]
        have hal : al w v (nI d) := ⟨hdd, ca⟩
        have hb3 : qn Q p % 3 < 3 := Nat.mod_lt _ (by decide)
        cases hm : mm w v (qn Q p) (nI d) with
        | none =>
          exact go (fun _ => ⟨(by rw [hm]; intro q; cases q), fun c' b' q => by rw [hm] at q; cases q⟩)
        | some r =>
          cases r with
          | none =>
            left
            have hF : (A (qn Q p)).toInt = ((A (qn Q p)).toInt.toNat : Int) := by omega
            refine ⟨(A (qn Q p)).toInt.toNat, A, Q, by omega, ?_, ?_, ?_⟩
            · show some (A (qn Q p) + 1, A, Q) = _
              have : A (qn Q p) + 1 = nI ((A (qn Q p)).toInt.toNat + 1) := by
                rw [← nI_1]
                congr 1
                exact nI_of' t4
              rw [this]
            · exact hB.b6 (qn Q p) t2 t4 1 ⟨nI d, hal, Or.inl hm⟩
            · obtain ⟨s1, s2⟩ := hB.b7
              rcases hB.b3 src s1 with q | ⟨i0, q1, q2⟩
              · omega
              · by_cases hi : i0 < p
                · have := claimP hw.1 hB (Nat.le_of_lt hp) hC2 ((A (qn Q p)).toInt) (fun j j1 j2 => hB.b5 p j j1 j2) (A (qn Q p)).toInt.toNat i0 hi (by rw [q2, s2]; omega)
                  rw [q2] at this
                  exact this
                · have z := hB.b5 p i0 (by omega) q1
                  rw [q2, s2] at z
                  have : (A (qn Q p)).toInt.toNat = 0 := by omega
                  rw [this]
                  exact fun q => q.elim
          | some cb =>
            obtain ⟨c', b'⟩ := cb
            obtain ⟨o1, o2, o3⟩ := mv_ok hw.1 t3 hdd hb3 hm
            obtain ⟨s1, s2, s3⟩ := sm_of hw.1 o1 o3
            have same : ∀ c2 b2, mm w v (qn Q p) (nI d) = some (some (c2, b2)) → c2 = c' ∧ b2 = b' := fun c2 b2 q => by
              rw [hm] at q
              cases q
              exact ⟨rfl, rfl⟩
            show (∃ (F : Nat) (A' Q' : Nat → Int32), F < 192 ∧ (if A (3 * c'.toInt.toNat + b') < 0 then gd (nI last) 192 (zl9 (fX8_moves_121 m s91) f (upd A (3 * c'.toInt.toNat + b') (A (qn Q p) + 1)) (upd Q (nI last).toNatClampNeg (nI (3 * c'.toInt.toNat + b'))) v (lee v) (nI (p + 1)) (nI last + 1) (nI (qn Q p)) (nI (qn Q p % 3 + 1)) (nI (d + 1))) else zl9 (fX8_moves_121 m s91) f A Q v (lee v) (nI (p + 1)) (nI last) (nI (qn Q p)) (nI (qn Q p % 3 + 1)) (nI (d + 1))) = some (nI (F + 1), A', Q') ∧ LM w v (F + 1) src ∧ ¬ LM w v F src) ∨ (∃ (A' Q' : Nat → Int32) (last' : Nat), (if A (3 * c'.toInt.toNat + b') < 0 then gd (nI last) 192 (zl9 (fX8_moves_121 m s91) f (upd A (3 * c'.toInt.toNat + b') (A (qn Q p) + 1)) (upd Q (nI last).toNatClampNeg (nI (3 * c'.toInt.toNat + b'))) v (lee v) (nI (p + 1)) (nI last + 1) (nI (qn Q p)) (nI (qn Q p % 3 + 1)) (nI (d + 1))) else zl9 (fX8_moves_121 m s91) f A Q v (lee v) (nI (p + 1)) (nI last) (nI (qn Q p)) (nI (qn Q p % 3 + 1)) (nI (d + 1))) = s91 A' Q' v (lee v) (nI (p + 1)) (nI last') ∧ Bfs w v src A' Q' last' ∧ p < last' ∧ (∀ i, i < last' → (A' (qn Q' i)).toInt ≤ (A' (qn Q' p)).toInt + 1) ∧ (∀ i, i < p + 1 → ∀ δ, Pr w v A' (qn Q' i) δ))
            by_cases cA : A (3 * c'.toInt.toNat + b') < 0
            · rw [if_pos cA]
              obtain ⟨l1, hB', y3, hC1', hC2', hC3', x1, x2⟩ := bfs_push (d := d) hB hp hC1 hC2 hC3 s1 (by rw [s2]; exact o1) cA (fun k hk => ⟨nI d, hal, Or.inr ⟨c', b', hm, by unfold LM at hk; rw [s2, s3] at hk; exact hk⟩⟩)
              rw [gd_s (vp_in_nI l1 (by omega)), nI_clamp (by omega), nI_1]
              have u := i2 _ _ (last + 1) hB' (by omega) (by rw [y3]; exact hC1') hC2' (fun e he => by
                rw [y3]
                by_cases q : e = d
                · subst q
                  intro _
                  refine ⟨(by rw [hm]; intro q; cases q), fun c2 b2 q => ?_⟩
                  obtain ⟨rfl, rfl⟩ := same c2 b2 q
                  rw [x1, x2 _ t4]
                  exact ⟨by omega, Int.le_refl _⟩
                · exact hC3' e (by omega))
              rw [y3] at u
              exact u
            · rw [if_neg cA]
              refine go (fun _ => ⟨(by rw [hm]; intro q; cases q), fun c2 b2 q => ?_⟩)
              obtain ⟨rfl, rfl⟩ := same c2 b2 q
              have h0 := nn cA
              refine ⟨h0, ?_⟩
              rcases hB.b3 _ s1 with q | ⟨i, q1, q2⟩
              · omega
              · have := hC1 i q1
                rw [q2] at this
                exact this
theorem bfs_loop {m w : Nat → Nat → Int32} (hr : RW m w) (hw : OW w) {v : Int32} (hv : D8 v) {src : Nat} : ∀ (f p : Nat) (A Q : Nat → Int32) (last : Nat), p ≤ last → 193 < f + p → Bfs w v src A Q last → (p < last → ∀ i, i < last → (A (qn Q i)).toInt ≤ (A (qn Q p)).toInt + 1) → (∀ i, i < p → ∀ δ, Pr w v A (qn Q i) δ) → ∃ (r : Int32) (A' Q' : Nat → Int32), zl6 (fX8_moves_91 m) f A Q v (lee v) (nI p) (nI last) = some (r, A', Q') ∧ ((∃ F : Nat, F < 192 ∧ r = nI (F + 1) ∧ LM w v (F + 1) src ∧ ¬ LM w v F src) ∨ (r = -9 ∧ ∀ k, ¬ LM w v k src)) := by
  intro f
  induction f with
  | zero =>
    intro p A Q last h1 h2 hB
    have := hB.b4
    omega
  | succ f ih =>
    intro p A Q last h1 h2 hB hC1 hC2
    have hl : last ≤ 192 := by have := hB.b4; omega
    show ∃ (r : Int32) (A' Q' : Nat → Int32), fX8_moves_91 m (zl6 (fX8_moves_91 m) f) A Q v (lee v) (nI p) (nI last) = some (r, A', Q') ∧ _
    by_cases c : p = last
    · subst c
      refine ⟨-9, A, Q, ?_, Or.inr ⟨rfl, fun k => ?_⟩⟩
      · generalize zl6 (fX8_moves_91 m) f = Z
        unfold fX8_moves_91
        rw [if_pos (Int32.le_refl _)]
      · obtain ⟨s1, s2⟩ := hB.b7
        rcases hB.b3 src s1 with q | ⟨i0, q1, q2⟩
        · omega
        · have := claimP hw.1 hB (Nat.le_refl _) hC2 (k : Int) (fun j j1 j2 => by omega) k i0 q1 (by rw [q2, s2]; omega)
          rw [q2] at this
          exact this
    · have hp : p < last := by omega
      obtain ⟨t1, t2, t3, t4, t5⟩ := hB.b2 p hp
      have z0 : (0 : Int32) = nI 0 := rfl
      have e1 : fX8_moves_91 m (zl6 (fX8_moves_91 m) f) A Q v (lee v) (nI p) (nI last) = zl9 (fX8_moves_121 m (zl6 (fX8_moves_91 m) f)) zFU A Q v (lee v) (nI (p + 1)) (nI last) (nI (qn Q p)) (nI (qn Q p % 3 + 1)) (nI 0) := by
        generalize zl6 (fX8_moves_91 m) f = Z
        unfold fX8_moves_91
        rw [if_neg (by rw [nI_leI (by omega) (by omega)]; omega), gd_s (vp_in_nI (by omega) (by omega)), nI_clamp (by omega), t1]
        rw [(div3 t2).1, nI_1, nI_1, ← z0]
      rw [e1]
      rcases dirs_loop (s91 := zl6 (fX8_moves_91 m) f) hr hw hv zFU 0 A Q last (by omega) (by unfold zFU; omega) hB hp (hC1 hp) hC2 (fun e he => by omega) with ⟨F, A', Q', a1, a2, a3, a4⟩ | ⟨A', Q', last', a1, a2, a3, a4, a5⟩
      · exact ⟨_, A', Q', a2, Or.inl ⟨F, a1, rfl, a3, a4⟩⟩
      · rw [a1]
        exact ih (p + 1) A' Q' last' (by omega) (by omega) a2 (fun hlt i hi => by
          have := a4 i hi
          have b := a2.b5 p (p + 1) (by omega) hlt
          omega) a5
