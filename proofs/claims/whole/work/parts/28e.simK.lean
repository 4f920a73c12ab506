/-! on -/
theorem on1 {M : Nat → Nat → Int32} (g c d1 d2 d3 d4 r K : Nat → Int32) : ∀ (f j : Nat) (b : Nat → Int32), j ≤ 64 → 64 < f + j → ∃ b' : Nat → Int32, zl10 (fX8_on_16 M) f g b c d1 d2 d3 d4 r K (nI j) = zl10 (fX8_on_42 M) zFU g b' c d1 d2 d3 d4 r K 0 ∧ (∀ i, j ≤ i → i < 64 → b' i = M 10 i) ∧ (∀ k, k < j ∨ 64 ≤ k → b' k = b k) := by
  intro f
  induction f with
  | zero => intro j b h1 h2; omega
  | succ f ih =>
    intro j b h1 h2
    show ∃ b' : Nat → Int32, fX8_on_16 M (zl10 (fX8_on_16 M) f) g b c d1 d2 d3 d4 r K (nI j) = zl10 (fX8_on_42 M) zFU g b' c d1 d2 d3 d4 r K 0 ∧ (∀ i, j ≤ i → i < 64 → b' i = M 10 i) ∧ (∀ k, k < j ∨ 64 ≤ k → b' k = b k)
    have i2 := ih (j + 1)
    generalize zl10 (fX8_on_16 M) f = Z at *
    unfold fX8_on_16
    have k64 : (64 : Int32) = nI 64 := rfl
    by_cases q : j = 64
    · rw [if_pos (by rw [q]; decide)]
      exact ⟨b, rfl, fun i h3 h4 => by omega, fun _ _ => rfl⟩
    · have e1 : (nI j).toNatClampNeg = j := nI_clamp (by omega)
      rw [if_neg (by rw [k64, nI_leI (by omega) (by omega)]; omega), gd_s (vp_in_nI (by omega) (by omega)), gd_s (vp_in_nI (by omega) (by omega)), e1, nm_s, nI_1]
      obtain ⟨b', a1, a2, a3⟩ := i2 (upd b j (M 10 j)) (by omega) (by omega)
      refine ⟨b', a1, fun i h3 h4 => ?_, fun k hk => (a3 k (by omega)).trans (pk_un (by omega))⟩
      by_cases d : i = j
      · subst d; exact (a3 i (by omega)).trans pk_us
      · exact a2 i (by omega) h4
theorem on2 {M : Nat → Nat → Int32} (g b d1 d2 d3 d4 r K : Nat → Int32) : ∀ (f j : Nat) (c : Nat → Int32), j ≤ 7 → 7 < f + j → ∃ c' : Nat → Int32, zl10 (fX8_on_42 M) f g b c d1 d2 d3 d4 r K (nI j) = zl10 (fX8_on_71 M) zFU g b c' d1 d2 d3 d4 r K 0 ∧ (∀ i, j ≤ i → i < 7 → c' i = M 10 (64 + i)) ∧ (∀ k, k < j → c' k = c k) := by
  intro f
  induction f with
  | zero => intro j c h1 h2; omega
  | succ f ih =>
    intro j c h1 h2
    show ∃ c' : Nat → Int32, fX8_on_42 M (zl10 (fX8_on_42 M) f) g b c d1 d2 d3 d4 r K (nI j) = zl10 (fX8_on_71 M) zFU g b c' d1 d2 d3 d4 r K 0 ∧ (∀ i, j ≤ i → i < 7 → c' i = M 10 (64 + i)) ∧ (∀ k, k < j → c' k = c k)
    have i2 := ih (j + 1)
    generalize zl10 (fX8_on_42 M) f = Z at *
    unfold fX8_on_42
    have k64 : (64 : Int32) = nI 64 := rfl
    have k7 : (7 : Int32) = nI 7 := rfl
    by_cases q : j = 7
    · rw [if_pos (by rw [q]; decide)]
      exact ⟨c, rfl, fun i h3 h4 => by omega, fun _ _ => rfl⟩
    · have e1 : (nI j).toNatClampNeg = j := nI_clamp (by omega)
      have e2 : (nI (64 + j)).toNatClampNeg = 64 + j := nI_clamp (by omega)
      rw [if_neg (by rw [k7, nI_leI (by omega) (by omega)]; omega), k64, nI_add, gd_s (vp_in_nI (by omega) (by omega)), gd_s (vp_in_nI (by omega) (by omega)), e1, e2, nm_s, nI_1]
      obtain ⟨c', a1, a2, a3⟩ := i2 (upd c j (M 10 (64 + j))) (by omega) (by omega)
      refine ⟨c', a1, fun i h3 h4 => ?_, fun k hk => (a3 k (by omega)).trans (pk_un (by omega))⟩
      by_cases d : i = j
      · subst d; exact (a3 i (by omega)).trans pk_us
      · exact a2 i (by omega) h4
def on3K (M : Nat → Nat → Int32) (g b c d1 d2 d3 d4 r K : Nat → Int32) : Option (Int32 × (Nat → Int32) × (Nat → Int32) × (Nat → Int32) × (Nat → Int32) × (Nat → Int32) × (Nat → Int32) × (Nat → Int32) × (Nat → Int32) × (Nat → Int32)) := if M 10 107 = 1 then fX8_on_204 M (ups (ups (ups (ups g 0 (M 10 103)) 1 (M 10 104)) 6 (M 10 105)) 9 (M 10 106)) b c d1 d2 d3 d4 r K 1 else fX8_on_204 M (ups (ups (ups (ups g 0 (M 10 103)) 1 (M 10 104)) 6 (M 10 105)) 9 (M 10 106)) b c d1 d2 d3 d4 r K 0
def Fil (I d d' : Nat → Int32) (off j : Nat) : Prop := (∀ i, j ≤ i → i < 8 → d' i = I (off + i)) ∧ (∀ k, k < j ∨ 8 ≤ k → d' k = d k)
theorem Fil.step {I d d' : Nat → Int32} {off j : Nat} (hj : j < 8) (h : Fil I (upd d j (I (off + j))) d' off (j + 1)) : Fil I d d' off j := by
  refine ⟨fun i h3 h4 => ?_, fun k hk => (h.2 k (by omega)).trans (pk_un (by omega))⟩
  by_cases e : i = j
  · subst e; exact (h.2 i (by omega)).trans pk_us
  · exact h.1 i (by omega) h4
theorem fil_cpr {I d d' fr : Nat → Int32} {off : Nat} (h : Fil I d d' off 0) (hf : ∀ i, i < 8 → I (off + i) = fr i) : d' = cpr 8 d fr := by
  funext i
  unfold cpr
  by_cases c : i < 8
  · rw [if_pos c, h.1 i (by omega) c, hf i c]
  · rw [if_neg c, h.2 i (by omega)]
theorem on3 {M : Nat → Nat → Int32} (g b c r K : Nat → Int32) : ∀ (f j : Nat) (d1 d2 d3 d4 : Nat → Int32), j ≤ 8 → 8 < f + j → ∃ d1' d2' d3' d4' : Nat → Int32, zl10 (fX8_on_71 M) f g b c d1 d2 d3 d4 r K (nI j) = on3K M g b c d1' d2' d3' d4' r K ∧ Fil (M 10) d1 d1' 71 j ∧ Fil (M 10) d2 d2' 79 j ∧ Fil (M 10) d3 d3' 87 j ∧ Fil (M 10) d4 d4' 95 j := by
  intro f
  induction f with
  | zero => intro j d1 d2 d3 d4 h1 h2; omega
  | succ f ih =>
    intro j d1 d2 d3 d4 h1 h2
    show ∃ d1' d2' d3' d4' : Nat → Int32, fX8_on_71 M (zl10 (fX8_on_71 M) f) g b c d1 d2 d3 d4 r K (nI j) = on3K M g b c d1' d2' d3' d4' r K ∧ Fil (M 10) d1 d1' 71 j ∧ Fil (M 10) d2 d2' 79 j ∧ Fil (M 10) d3 d3' 87 j ∧ Fil (M 10) d4 d4' 95 j
    have i2 := ih (j + 1)
    generalize zl10 (fX8_on_71 M) f = Z at *
    unfold fX8_on_71
    have k8 : (8 : Int32) = nI 8 := rfl
    have k71 : (71 : Int32) = nI 71 := rfl
    have k79 : (79 : Int32) = nI 79 := rfl
    have k87 : (87 : Int32) = nI 87 := rfl
    have k95 : (95 : Int32) = nI 95 := rfl
    by_cases q : j = 8
    · rw [if_pos (by rw [q]; decide)]
      exact ⟨d1, d2, d3, d4, rfl, ⟨fun i h3 h4 => by omega, fun _ _ => rfl⟩, ⟨fun i h3 h4 => by omega, fun _ _ => rfl⟩, ⟨fun i h3 h4 => by omega, fun _ _ => rfl⟩, ⟨fun i h3 h4 => by omega, fun _ _ => rfl⟩⟩
    · have e1 : (nI j).toNatClampNeg = j := nI_clamp (by omega)
      have e71 : (nI (71 + j)).toNatClampNeg = 71 + j := nI_clamp (by omega)
      have e79 : (nI (79 + j)).toNatClampNeg = 79 + j := nI_clamp (by omega)
      have e87 : (nI (87 + j)).toNatClampNeg = 87 + j := nI_clamp (by omega)
      have e95 : (nI (95 + j)).toNatClampNeg = 95 + j := nI_clamp (by omega)
      have hj : vp_in (nI j) 8 := vp_in_nI (by omega) (by omega)
      have gj : ∀ {α : Type} (k : Option α), gd (nI j) 8 k = k := fun k => gd_s hj
      have g71 : ∀ {α : Type} (k : Option α), gd (nI (71 + j)) 140 k = k := fun k => gd_s (vp_in_nI (by omega) (by omega))
      have g79 : ∀ {α : Type} (k : Option α), gd (nI (79 + j)) 140 k = k := fun k => gd_s (vp_in_nI (by omega) (by omega))
      have g87 : ∀ {α : Type} (k : Option α), gd (nI (87 + j)) 140 k = k := fun k => gd_s (vp_in_nI (by omega) (by omega))
      have g95 : ∀ {α : Type} (k : Option α), gd (nI (95 + j)) 140 k = k := fun k => gd_s (vp_in_nI (by omega) (by omega))
      rw [if_neg (by rw [k8, nI_leI (by omega) (by omega)]; omega), k71, k79, k87, k95]
      simp only [nI_add, gj, g71, g79, g87, g95, e1, e71, e79, e87, e95, nm_s, nI_1]
      obtain ⟨d1', d2', d3', d4', a1, a2, a3, a4, a5⟩ := i2 (upd d1 j (M 10 (71 + j))) (upd d2 j (M 10 (79 + j))) (upd d3 j (M 10 (87 + j))) (upd d4 j (M 10 (95 + j))) (by omega) (by omega)
      exact ⟨d1', d2', d3', d4', a1, a2.step (by omega), a3.step (by omega), a4.step (by omega), a5.step (by omega)⟩
def on4K (M : Nat → Nat → Int32) (g b c d1 d2 d3 d4 r K : Nat → Int32) : Option (Int32 × (Nat → Int32) × (Nat → Int32) × (Nat → Int32) × (Nat → Int32) × (Nat → Int32) × (Nat → Int32) × (Nat → Int32) × (Nat → Int32) × (Nat → Int32)) := nm (upd K 12 (c 5)) (fun g2 => ob2 (fX8_again (ups (ups (ups (ups (ups (ups (ups (ups (ups M 0 g) 1 b) 3 c) 4 d1) 5 d2) 6 d3) 7 d4) 9 r) 11 g2)) (fun u4 u5 => some (u4 0 * u4 1, u4, b, u5, d1, d2, d3, d4, r, g2)))
theorem on4 {M : Nat → Nat → Int32} (g b c d1 d2 d3 d4 r : Nat → Int32) : ∀ (f j : Nat) (K : Nat → Int32), j ≤ 12 → 12 < f + j → ∃ K' : Nat → Int32, zl10 (fX8_on_209 M) f g b c d1 d2 d3 d4 r K (nI j) = on4K M g b c d1 d2 d3 d4 r K' ∧ (∀ i, j ≤ i → i < 12 → K' i = M 10 (108 + i)) ∧ (∀ k, k < j → K' k = K k) := by
  intro f
  induction f with
  | zero => intro j K h1 h2; omega
  | succ f ih =>
    intro j K h1 h2
    show ∃ K' : Nat → Int32, fX8_on_209 M (zl10 (fX8_on_209 M) f) g b c d1 d2 d3 d4 r K (nI j) = on4K M g b c d1 d2 d3 d4 r K' ∧ (∀ i, j ≤ i → i < 12 → K' i = M 10 (108 + i)) ∧ (∀ k, k < j → K' k = K k)
    have i2 := ih (j + 1)
    generalize zl10 (fX8_on_209 M) f = Z at *
    unfold fX8_on_209
    have k108 : (108 : Int32) = nI 108 := rfl
    have k12 : (12 : Int32) = nI 12 := rfl
    by_cases q : j = 12
    · rw [if_pos (by rw [q]; decide)]
      exact ⟨K, rfl, fun i h3 h4 => by omega, fun _ _ => rfl⟩
    · have e1 : (nI j).toNatClampNeg = j := nI_clamp (by omega)
      have e2 : (nI (108 + j)).toNatClampNeg = 108 + j := nI_clamp (by omega)
      rw [if_neg (by rw [k12, nI_leI (by omega) (by omega)]; omega), k108, nI_add, gd_s (vp_in_nI (by omega) (by omega)), gd_s (vp_in_nI (by omega) (by omega)), e1, e2, nm_s, nI_1]
      obtain ⟨K', a1, a2, a3⟩ := i2 (upd K j (M 10 (108 + j))) (by omega) (by omega)
      refine ⟨K', a1, fun i h3 h4 => ?_, fun k hk => (a3 k (by omega)).trans (pk_un (by omega))⟩
      by_cases d : i = j
      · subst d; exact (a3 i (by omega)).trans pk_us
      · exact a2 i (by omega) h4
/-- the model goes back to its image -/
theorem m_on {M : Nat → Nat → Int32} (h31 : ¬ M 0 31 = 0) (h107 : M 10 107 = 0 ∨ M 10 107 = 1) (h119 : M 10 119 = 0 ∨ M 10 119 = 1) : ∃ u b c d1 d2 d3 d4 K : Nat → Int32, fX8_on M = some (M 10 103 * M 10 104, u, b, c, d1, d2, d3, d4, M 9, K) ∧ (∀ i, i < 64 → b i = M 10 i) ∧ (∀ k, 64 ≤ k → b k = M 1 k) ∧ (∀ i, i < 7 → c i = M 10 (64 + i)) ∧ Fil (M 10) (M 4) d1 71 0 ∧ Fil (M 10) (M 5) d2 79 0 ∧ Fil (M 10) (M 6) d3 87 0 ∧ Fil (M 10) (M 7) d4 95 0 ∧ u 0 = M 10 103 ∧ u 1 = M 10 104 ∧ u 6 = M 10 105 ∧ u 9 = M 10 106 ∧ u 12 = M 10 107 ∧ (∀ i, i < 12 → u (13 + i) = M 10 (108 + i)) ∧ u 25 = 0 ∧ u 26 = -1 ∧ u 3 = M 0 3 ∧ u 28 = M 0 28 ∧ u 31 = M 0 31 := by
  obtain ⟨b, a1, a2, a3⟩ := on1 (M := M) (M 0) (M 3) (M 4) (M 5) (M 6) (M 7) (M 9) (M 11) zFU 0 (M 1) (by omega) (by unfold zFU; omega)
  obtain ⟨c, b1, b2, -⟩ := on2 (M := M) (M 0) b (M 4) (M 5) (M 6) (M 7) (M 9) (M 11) zFU 0 (M 3) (by omega) (by unfold zFU; omega)
  obtain ⟨d1, d2, d3, d4, c1, c2, c3, c4, c5⟩ := on3 (M := M) (M 0) b c (M 9) (M 11) zFU 0 (M 4) (M 5) (M 6) (M 7) (by omega) (by unfold zFU; omega)
  obtain ⟨G, hG⟩ : ∃ G, G = ups (ups (ups (ups (ups (M 0) 0 (M 10 103)) 1 (M 10 104)) 6 (M 10 105)) 9 (M 10 106)) 12 (M 10 107) := ⟨_, rfl⟩
  obtain ⟨K, k1, k2, -⟩ := on4 (M := M) G b c d1 d2 d3 d4 (M 9) zFU 0 (M 11) (by omega) (by unfold zFU; omega)
  obtain ⟨g0, hg0⟩ : ∃ g0 : Nat → Int32, g0 = fun k => if 13 ≤ k ∧ k ≤ 24 then M 10 (95 + k) else G k := ⟨_, rfl⟩
  have g0i : ∀ i, i < 12 → g0 (13 + i) = M 10 (108 + i) := fun i hi => by
    rw [hg0]
    show (if 13 ≤ 13 + i ∧ 13 + i ≤ 24 then M 10 (95 + (13 + i)) else G (13 + i)) = _
    rw [if_pos (by omega), show 95 + (13 + i) = 108 + i by omega]
  have g0o : ∀ k, k < 13 ∨ 24 < k → g0 k = G k := fun k hk => by
    rw [hg0]
    show (if 13 ≤ k ∧ k ≤ 24 then M 10 (95 + k) else G k) = _
    rw [if_neg (by omega)]
  have kK : Kept (upd K 12 (c 5)) g0 (c 5) := by
    refine ⟨fun i hi => ?_, ?_, pk_us⟩
    · rw [pk_un (by omega), k2 i (by omega) (by omega), g0i i (by omega)]
    · rw [pk_un (by omega), k2 11 (by omega) (by omega)]
      have : g0 24 = M 10 119 := g0i 11 (by omega)
      rw [this]
      rcases h119 with q | q
      · rw [show (108 + 11 : Nat) = 119 from rfl, q, if_pos rfl]
      · rw [show (108 + 11 : Nat) = 119 from rfl, q, if_neg (by decide)]
  obtain ⟨u, z1, z2, z3, z4, z5, z6⟩ := m_again (m := ups (ups (ups (ups (ups (ups (ups (ups (ups M 0 G) 1 b) 3 c) 4 d1) 5 d2) 6 d3) 7 d4) 9 (M 9)) 11 (upd K 12 (c 5))) (g0 := g0) (x := c 5) kK (fun k hk => (g0o k (by omega)).symm)
  have z1' : fX8_again (ups (ups (ups (ups (ups (ups (ups (ups (ups M 0 G) 1 b) 3 c) 4 d1) 5 d2) 6 d3) 7 d4) 9 (M 9)) 11 (upd K 12 (c 5))) = some (u, c) := by
    rw [z1]
    show some (u, upd c 5 (c 5)) = some (u, c)
    rw [upd_id]
  have uo : ∀ k, k < 13 ∨ k = 28 ∨ k = 31 → u k = G k := fun k hk => (z6 k hk).trans (g0o k (by omega))
  have u0 : u 0 = M 10 103 := (uo 0 (by omega)).trans (by rw [hG]; rfl)
  have u1 : u 1 = M 10 104 := (uo 1 (by omega)).trans (by rw [hG]; rfl)
  have fin : on4K M G b c d1 d2 d3 d4 (M 9) K = some (M 10 103 * M 10 104, u, b, c, d1, d2, d3, d4, M 9, upd K 12 (c 5)) := by
    unfold on4K
    rw [nm_s, z1', ob2_s, u0, u1]
  refine ⟨u, b, c, d1, d2, d3, d4, upd K 12 (c 5), ?_, fun i hi => a2 i (by omega) hi, fun k hk => a3 k (by omega), fun i hi => b2 i (by omega) hi, c2, c3, c4, c5, u0, u1, (uo 6 (by omega)).trans (by rw [hG]; rfl), (uo 9 (by omega)).trans (by rw [hG]; rfl), (uo 12 (by omega)).trans (by rw [hG]; rfl), fun i hi => ?_, z4, z5, (uo 3 (by omega)).trans (by rw [hG]; rfl), (uo 28 (by omega)).trans (by rw [hG]; rfl), (uo 31 (by omega)).trans (by rw [hG]; rfl)⟩
  · have z0 : (0 : Int32) = nI 0 := rfl
    unfold fX8_on
    rw [if_neg h31, z0, a1]
    rw [← z0] at b1 c1 k1
    rw [b1, c1]
    unfold on3K fX8_on_204
    rcases h107 with q | q
    · rw [if_neg (by rw [q]; decide), gz_s (Or.inl rfl)]
      have : ups (ups (ups (ups (ups (M 0) 0 (M 10 103)) 1 (M 10 104)) 6 (M 10 105)) 9 (M 10 106)) 12 0 = G := by rw [hG, q]
      rw [this, k1, fin]
    · rw [if_pos q, gz_s (Or.inr rfl)]
      have : ups (ups (ups (ups (ups (M 0) 0 (M 10 103)) 1 (M 10 104)) 6 (M 10 105)) 9 (M 10 106)) 12 1 = G := by rw [hG, q]
      rw [this, k1, fin]
  · by_cases c11 : i = 11
    · subst c11
      have : g0 24 = M 10 119 := g0i 11 (by omega)
      show u 24 = M 10 119
      rw [z3, this]
      rcases h119 with q | q
      · rw [q, if_pos rfl]
      · rw [q, if_neg (by decide)]
    · exact (z2 (13 + i) (by omega) (by omega)).trans (g0i i hi)
theorem sim_on {n : Nat} {E M : Nat → Nat → Int32} (hn : n < 1000) (h : zR n E M) : ∃ (r : Int32) (c3 : Nat → Int32) (c4 : Nat → Int32) (c5 : Nat → Int32) (c6 : Nat → Int32) (c7 : Nat → Int32) (c8 : Nat → Int32) (c9 : Nat → Int32) (c10 : Nat → Int32) (c11 : Nat → Int32) (c12 : Nat → Int32) (c28 : Nat → Int32) (d0 : Nat → Int32) (d1 : Nat → Int32) (d3 : Nat → Int32) (d4 : Nat → Int32) (d5 : Nat → Int32) (d6 : Nat → Int32) (d7 : Nat → Int32) (d9 : Nat → Int32) (d11 : Nat → Int32), fX7_on E = some (r, c3, c4, c5, c6, c7, c8, c9, c10, c11, c12, c28) ∧ fX8_on M = some (r, d0, d1, d3, d4, d5, d6, d7, d9, d11) ∧ zR (n + 1) (ups (ups (ups (ups (ups (ups (ups (ups (ups (ups (ups E 3 c3) 4 c4) 5 c5) 6 c6) 7 c7) 8 c8) 9 c9) 10 c10) 11 c11) 12 c12) 28 c28) (ups (ups (ups (ups (ups (ups (ups (ups (ups M 0 d0) 1 d1) 3 d3) 4 d4) 5 d5) 6 d6) 7 d7) 9 d9) 11 d11) := by
  have ref : ∀ r : Int32, isRef r → fX7_on E = some (r, E 3, E 4, E 5, E 6, E 7, E 8, E 9, E 10, E 11, E 12, rf1 (E 28) r) → fX8_on M = some (r, M 0, M 1, M 3, M 4, M 5, M 6, M 7, rf1 (M 9) r, M 11) → ∃ (r : Int32) (c3 : Nat → Int32) (c4 : Nat → Int32) (c5 : Nat → Int32) (c6 : Nat → Int32) (c7 : Nat → Int32) (c8 : Nat → Int32) (c9 : Nat → Int32) (c10 : Nat → Int32) (c11 : Nat → Int32) (c12 : Nat → Int32) (c28 : Nat → Int32) (d0 : Nat → Int32) (d1 : Nat → Int32) (d3 : Nat → Int32) (d4 : Nat → Int32) (d5 : Nat → Int32) (d6 : Nat → Int32) (d7 : Nat → Int32) (d9 : Nat → Int32) (d11 : Nat → Int32), fX7_on E = some (r, c3, c4, c5, c6, c7, c8, c9, c10, c11, c12, c28) ∧ fX8_on M = some (r, d0, d1, d3, d4, d5, d6, d7, d9, d11) ∧ zR (n + 1) (ups (ups (ups (ups (ups (ups (ups (ups (ups (ups (ups E 3 c3) 4 c4) 5 c5) 6 c6) 7 c7) 8 c8) 9 c9) 10 c10) 11 c11) 12 c12) 28 c28) (ups (ups (ups (ups (ups (ups (ups (ups (ups M 0 d0) 1 d1) 3 d3) 4 d4) 5 d5) 6 d6) 7 d7) 9 d9) 11 d11) := fun r hr e1 e2 => ⟨r, _, _, _, _, _, _, _, _, _, _, _, _, _, _, _, _, _, _, _, _, e1, e2, by first | exact zR_ref h r | (simp only [ups_id]; exact zR_ref h r)⟩
  by_cases e : E 0 9 = 1
  · obtain ⟨hW, hS⟩ := h.2.2.2.2.2.2.2.2.2 e
    obtain ⟨⟨s107, s119⟩, s0, s1, s116, s00, s6, s7⟩ := id hS
    obtain ⟨⟨q0, q1, q2, q3, q4, q5, q6, q7, q8, q9, q10, q11, q12', q13, q14⟩, h2, h3, h4, ⟨a1, a2, a3, a4, a5, a6, a7⟩, h6, h7, ⟨i1, i2⟩, h9, h10⟩ := id h
    have n31 : ¬ M 0 31 = 0 := by rw [i1, e]; decide
    have n9 : ¬ E 0 9 = 0 := by rw [e]; decide
    obtain ⟨u, b, c, d1, d2, d3, d4, K, m0, mb, mb', mc, md1, md2, md3, md4, u0, u1, u6, u9, u12, u13, u25, u26, u3, u28, u31⟩ := m_on (M := M) n31 (by rw [s107]; exact s0) s119
    have s12 : E 23 12 = 0 ∨ E 23 12 = 1 := by
      rcases s0 with q | q
      · exact (s00 q).2
      · exact (s1 q).2.2.2.2.2.2.2.2.2.2.1.2.2.2.2.2.2.2.2.2.1
    have hcp := e_cpy (E 12) (s := E 23) s0 s12 (Or.inl s6.1)
    have hwc := e_wcp (sh 3 E) (sh 14 E)
    have e1 : fX7_on E = some (E 15 1 * E 15 2, wc0 (E 3) (E 14), ups (ups (E 4) 1 (E 15 1)) 2 (E 15 2), cpr 64 (E 5) (E 16), ups (E 6) 2 (E 17 2), cpr 8 (E 7) (E 18), cpr 8 (E 8) (E 19), ups (E 9) 2 (E 20 2), cpr 8 (E 10) (E 21), cpr 8 (E 11) (E 22), cpy (E 12) (E 23), E 28) := by
      unfold fX7_on
      rw [if_neg n9]
      simp only [ups_id]
      rw [hwc]
      show ob1 (fX5_copyFrom (E 12) (E 23)) (fun u12 => _) = _
      rw [hcp]
      rfl
    obtain ⟨v0, v64, v65, v66, v67, v68, v69, v70, v71, v103, v104, v105, v106⟩ := hW
    have e2 : fX8_on M = some (E 15 1 * E 15 2, u, b, c, d1, d2, d3, d4, M 9, K) := by
      rw [m0, v103, v104]; rfl
    have eb : b = cpr 64 (E 5) (E 16) := by
      funext i
      unfold cpr
      by_cases ci : i < 64
      · rw [if_pos ci, mb i ci, v0 i ci]; rfl
      · rw [if_neg ci, mb' i (by omega), q4]; rfl
    have ed1 : d1 = cpr 8 (E 7) (E 18) := by rw [q5] at md1; exact fil_cpr md1 (fun i hi => (v71 i hi).1)
    have ed2 : d2 = cpr 8 (E 8) (E 19) := by rw [q6] at md2; exact fil_cpr md2 (fun i hi => (v71 i hi).2.1)
    have ed3 : d3 = cpr 8 (E 10) (E 21) := by rw [q7] at md3; exact fil_cpr md3 (fun i hi => (v71 i hi).2.2.1)
    have ed4 : d4 = cpr 8 (E 11) (E 22) := by rw [q8] at md4; exact fil_cpr md4 (fun i hi => (v71 i hi).2.2.2)
    refine ⟨_, _, _, _, _, _, _, _, _, _, _, _, _, _, _, _, _, _, _, _, _, e1, e2, ?_⟩
    have w3 : ∀ k, k < 17 → cpy (E 12) (E 23) k = E 23 k := cpy_at (E 12) (E 23)
    have hS2 : ShipR u (wcp (sh 3 E) (sh 14 E)) (cpy (E 12) (E 23)) := by
      have hh : ImS (M 10) (wcp (sh 3 E) (sh 14 E)) (cpy (E 12) (E 23)) n := ImS.ext (show ImS (M 10) (wcp (sh 3 E) (sh 14 E)) (E 23) n from hS) w3
      obtain ⟨⟨x107, x119⟩, x0, x1, x116, x00, x6, x7⟩ := hh
      refine ⟨fun q => ?_, fun q => ⟨(x00 q).1, ?_, (x00 q).2⟩⟩
      · obtain ⟨f1, f2, f3, f4, f5, f6, f7, f8, f10, f11, o, t, a⟩ := x1 q
        exact ⟨⟨(u13 0 (by omega)).trans f1, (u13 1 (by omega)).trans f2, (u13 2 (by omega)).trans f3, (u13 3 (by omega)).trans f4, (u13 4 (by omega)).trans f5, (u13 5 (by omega)).trans f6, (u13 6 (by omega)).trans f7, (u13 7 (by omega)).trans f8, (u13 8 (by omega)).trans x116, (u13 9 (by omega)).trans f10, fun q => ⟨(u13 10 (by omega)).trans (f11 q).1, (u13 11 (by omega)).trans (f11 q).2⟩⟩, o, t, a⟩
      · exact (u13 8 (by omega)).trans (x116.trans (x00 q).1)
    have hid : Idle (cpy (E 12) (E 23)) := by
      unfold Idle
      rw [w3 13 (by omega), w3 14 (by omega), w3 15 (by omega)]
      exact s6
    have x0 : cpy (E 12) (E 23) 0 = E 23 0 := w3 0 (by omega)
    have x9 : cpy (E 12) (E 23) 9 = E 23 9 := w3 9 (by omega)
    exact ⟨⟨u0.trans v103, u1.trans v104, u6.trans v105, u9.trans v106, eb, ed1, ed2, ed3, ed4, (mc 0 (by omega)).trans v64, (mc 1 (by omega)).trans v65, (mc 2 (by omega)).trans v66, (mc 3 (by omega)).trans v67, (mc 4 (by omega)).trans v68, (mc 6 (by omega)).trans v70⟩, ow_wcp h2 h9, (mc 5 (by omega)).trans v69, ⟨u3.trans h4.1, h4.2⟩, ⟨u12.trans (s107.trans x0.symm), by show cpy (E 12) (E 23) 0 = 0 ∨ cpy (E 12) (E 23) 0 = 1; rw [x0]; exact s0, hS2, u25, u26, hid, by show Rng (cpy (E 12) (E 23) 9) 0 (100 * (n + 1 : Nat)); rw [x9]; exact s7.up⟩, ⟨u28.trans h6.1, h6.2⟩, h7, ⟨u31.trans i1, i2⟩, h9, fun _ => ⟨⟨v0, v64, v65, v66, v67, v68, v69, v70, v71, v103, v104, v105, v106⟩, hS.up⟩⟩
  · have i := h.2.2.2.2.2.2.2.1
    have e0 : E 0 9 = 0 := i.2.resolve_right e
    have m0 : M 0 31 = 0 := i.1.trans e0
    have e1 : fX7_on E = some (-3, E 3, E 4, E 5, E 6, E 7, E 8, E 9, E 10, E 11, E 12, rf1 (E 28) (-3)) := by simp only [fX7_on, e0, ups_id, ob1_s, ob2_s, ob3_s, ob4_s, nm_s, ↓reduceIte, i10, e_ref _ r1, e_ref _ r2, e_ref _ r3, e_ref _ r4, e_ref _ r6, m_ref _ r1, m_ref _ r2, m_ref _ r3, m_ref _ r4, m_ref _ r6]
    have e2 : fX8_on M = some (-3, M 0, M 1, M 3, M 4, M 5, M 6, M 7, rf1 (M 9) (-3), M 11) := by simp only [fX8_on, m0, ups_id, ob1_s, ob2_s, ob3_s, ob4_s, nm_s, ↓reduceIte, i10, e_ref _ r1, e_ref _ r2, e_ref _ r3, e_ref _ r4, e_ref _ r6, m_ref _ r1, m_ref _ r2, m_ref _ r3, m_ref _ r4, m_ref _ r6]
    refine ⟨_, _, _, _, _, _, _, _, _, _, _, _, _, _, _, _, _, _, _, _, _, e1, e2, ?_⟩
    simp only [ups_id]
    have : ups (ups M 9 (rf1 (M 9) (-3))) 11 (M 11) = ups M 9 (rf1 (M 9) (-3)) := ups_idn (by decide)
    rw [this]
    exact zR_ref h (-3)
