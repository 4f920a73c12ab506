/-! bay -/
def gof (x : Int32) : Int32 := if x = 35 then 0 else if x = 98 then 30 else if x = 46 then 20 else if x < 49 then -1 else if 57 < x then -1 else x - 48
theorem e_gof (x : Int32) : fX3_groundOf x = some (gof x) := by
  unfold fX3_groundOf gof
  repeat' split
  all_goals rfl
theorem m_gof (x : Int32) : fX8_ground x = some (gof x) := by
  unfold fX8_ground gof
  repeat' split
  all_goals rfl
theorem gof_r (x : Int32) : gof x = -1 ∨ (Gr (gof x) ∧ 0 ≤ (gof x).toInt) := by
  unfold gof
  by_cases c1 : x = 35
  · rw [if_pos c1]; exact Or.inr ⟨Or.inl rfl, by decide⟩
  · rw [if_neg c1]
    by_cases c2 : x = 98
    · rw [if_pos c2]; exact Or.inr ⟨Or.inr (Or.inl rfl), by decide⟩
    · rw [if_neg c2]
      by_cases c3 : x = 46
      · rw [if_pos c3]; exact Or.inr ⟨Or.inr (Or.inr ⟨by decide, by decide⟩), by decide⟩
      · rw [if_neg c3]
        by_cases c4 : x < 49
        · rw [if_pos c4]; exact Or.inl rfl
        · rw [if_neg c4]
          by_cases c5 : 57 < x
          · rw [if_pos c5]; exact Or.inl rfl
          · rw [if_neg c5]
            have p4 : (49 : Int) ≤ x.toInt := Int.not_lt.mp (fun q => c4 (ilt.mpr q))
            have p5 : x.toInt ≤ (57 : Int) := Int.not_lt.mp (fun q => c5 (ilt.mpr q))
            have k48 : (48 : Int32).toInt = 48 := rfl
            have e : (x - 48).toInt = x.toInt - 48 := by rw [is'] <;> omega
            exact Or.inr ⟨Or.inr (Or.inr ⟨by omega, by omega⟩), by omega⟩
/-- from the i-th letter on both draw alike -/
def DrawOk (w0 w m : Nat → Nat → Int32) (L i R P : Nat) : Prop := ∀ (f f2 : Nat) (c0 c1 g : Nat → Int32), L - i < f → L - i < f2 → c0 1 = nI (R + 1) → g 0 = nI (R + 1) → ∃ (Rf Wf : Nat) (c0' c1' g' : Nat → Int32), 2 ≤ Rf ∧ Rf ≤ 8 ∧ 2 ≤ Wf ∧ Wf ≤ 8 ∧ zl4 (fX1_draw_9 w0 w) f c0 c1 (nI P) (nI i) = some (c0', c1') ∧ zl5 (fX8_bay_35 m) f2 g c1 (nI L) (nI P) (nI i) = some (nI (Rf * Wf), g', c1') ∧ c0' 1 = nI Rf ∧ c0' 2 = nI Wf ∧ g' 0 = nI Rf ∧ g' 1 = nI Wf ∧ g' 12 = 0 ∧ g' 21 = 0 ∧ (∀ k, k ≠ 0 → k ≠ 1 → k ≠ 12 → k ≠ 21 → g' k = g k) ∧ ((∀ i, Gr (c1 i)) → ∀ i, Gr (c1' i))
theorem draw_end {w0 w m : Nat → Nat → Int32} {L R W : Nat} (hL : L ≤ 80) (hw : w 0 1 = nI L) (hR : R ≤ 7) (hR1 : 1 ≤ R) (hW : 2 ≤ W) (hW8 : W ≤ 8) : DrawOk w0 w m L L R (R * W + W) := by
  intro f f2 c0 c1 g hf hf2 hc hg
  obtain ⟨f', rfl⟩ : ∃ f', f = f' + 1 := ⟨f - 1, by omega⟩
  obtain ⟨f2', rfl⟩ : ∃ f2', f2 = f2' + 1 := ⟨f2 - 1, by omega⟩
  have eP : R * W + W = (R + 1) * W := by rw [Nat.add_mul, Nat.one_mul]
  have hP : (R + 1) * W ≤ 8 * 8 := Nat.mul_le_mul (by omega) hW8
  have eq : nI ((R + 1) * W) / nI (R + 1) = nI W := by
    apply ieq.mpr
    have t1 : (nI ((R + 1) * W)).toInt = (((R + 1) * W : Nat) : Int) := nI_toInt (by omega)
    have t2 : (nI (R + 1)).toInt = ((R + 1 : Nat) : Int) := nI_toInt (by omega)
    rw [idv (by omega) (by omega), t1, t2, nI_toInt (by omega), ← Int.natCast_ediv, Nat.mul_div_cancel_left _ (by omega)]
  have n0 : ¬ nI (R + 1) = 0 := nI_ne0 (by omega) (by omega)
  have nl : ¬ nI (R + 1) ≤ 0 := nI_nle (by omega) (by omega)
  refine ⟨R + 1, W, ups c0 2 (nI W), c1, ups (ups (ups g 1 (nI W)) 12 0) 21 0, by omega, by omega, hW, hW8, ?_, ?_, (ups_n _ _ _ _ (by decide)).trans hc, ups_s _ _ _, hg, rfl, rfl, rfl, fun k h0 h1 h12 h21 => by rw [ups_n _ _ _ _ h21, ups_n _ _ _ _ h12, ups_n _ _ _ _ h1], id⟩
  · show fX1_draw_9 w0 w (zl4 (fX1_draw_9 w0 w) f') c0 c1 (nI (R * W + W)) (nI L) = _
    generalize zl4 (fX1_draw_9 w0 w) f' = Z
    unfold fX1_draw_9 fX1_draw_89
    rw [hw, if_pos (Int32.le_refl _), hc, if_neg nl, dv_s n0, eP, eq]
  · show fX8_bay_35 m (zl5 (fX8_bay_35 m) f2') g c1 (nI L) (nI (R * W + W)) (nI L) = _
    generalize zl5 (fX8_bay_35 m) f2' = Z
    unfold fX8_bay_35
    rw [if_pos (Int32.le_refl _), hg, dv_s n0, eP, eq]
theorem e_sign {w : Nat → Nat → Int32} {L i : Nat} (hL : L ≤ 80) (hi : i < L) (hw : w 0 1 = nI L) : fX3_signAt w (nI i) = some (w 1 i) := by
  have t : fX7_valueAt 80 (w 1) (nI i) = some (w 1 (nI i).toNatClampNeg) := e_tab (by decide) (by rw [nI_toInt (by omega)]; omega) (by rw [nI_toInt (by omega)]; omega)
  unfold fX3_signAt
  rw [hw, if_neg (by rw [nI_leI (by omega) (by omega)]; omega), t, ob1_s, nI_clamp (by omega)]
theorem draw_bar {w0 w m : Nat → Nat → Int32} {L i R P : Nat} (hL : L ≤ 80) (hi : i < L) (hR : R < 100) (hw : w 0 1 = nI L) (hm : m 2 = w 1) (h47 : w 1 i = 47) (h : DrawOk w0 w m L (i + 1) (R + 1) P) : DrawOk w0 w m L i R P := by
  intro f f2 c0 c1 g hf hf2 hc hg
  obtain ⟨f', rfl⟩ : ∃ f', f = f' + 1 := ⟨f - 1, by omega⟩
  obtain ⟨f2', rfl⟩ : ∃ f2', f2 = f2' + 1 := ⟨f2 - 1, by omega⟩
  obtain ⟨Rf, Wf, c0', c1', g', a1, a2, a3, a4, a5, a6, a7, a8, a9, b0, b1, b2, b3, b4⟩ := h f' f2' (ups c0 1 (c0 1 + 1)) c1 (ups g 0 (g 0 + 1)) (by omega) (by omega) (by rw [ups_s, hc, nI_1]) (by rw [ups_s, hg, nI_1])
  have cn : ¬ nI L ≤ nI i := by rw [nI_leI (by omega) (by omega)]; omega
  refine ⟨Rf, Wf, c0', c1', g', a1, a2, a3, a4, ?_, ?_, a7, a8, a9, b0, b1, b2, fun k h0 h1 h12 h21 => (b3 k h0 h1 h12 h21).trans (ups_n _ _ _ _ h0), b4⟩
  · show fX1_draw_9 w0 w (zl4 (fX1_draw_9 w0 w) f') c0 c1 (nI P) (nI i) = _
    generalize zl4 (fX1_draw_9 w0 w) f' = Z at *
    unfold fX1_draw_9 fX1_draw_65
    rw [hw, if_neg cn, e_sign hL hi hw, ob1_s, h47, show fX3_groundOf 47 = some (-1) from rfl, ob1_s, if_neg (by decide), nI_1]
    exact a5
  · show fX8_bay_35 m (zl5 (fX8_bay_35 m) f2') g c1 (nI L) (nI P) (nI i) = _
    generalize zl5 (fX8_bay_35 m) f2' = Z at *
    unfold fX8_bay_35 fX8_bay_85
    rw [if_neg cn, gd_s (vp_in_nI (by omega) (by omega)), nI_clamp (by omega), hm, if_pos h47, nI_1]
    exact a6
theorem draw_one {w0 w m : Nat → Nat → Int32} {L i R P : Nat} (hL : L ≤ 80) (hi : i < L) (hP : P < 64) (hw : w 0 1 = nI L) (hm : m 2 = w 1) (h47 : ¬ w 1 i = 47) (hg0 : ¬ gof (w 1 i) < 0) (h : DrawOk w0 w m L (i + 1) R (P + 1)) : DrawOk w0 w m L i R P := by
  intro f f2 c0 c1 g hf hf2 hc hg
  obtain ⟨f', rfl⟩ : ∃ f', f = f' + 1 := ⟨f - 1, by omega⟩
  obtain ⟨f2', rfl⟩ : ∃ f2', f2 = f2' + 1 := ⟨f2 - 1, by omega⟩
  obtain ⟨Rf, Wf, c0', c1', g', a1, a2, a3, a4, a5, a6, a7, a8, a9, b0, b1, b2, b3, b4⟩ := h f' f2' c0 (upd c1 P (gof (w 1 i))) g (by omega) (by omega) hc hg
  have cn : ¬ nI L ≤ nI i := by rw [nI_leI (by omega) (by omega)]; omega
  have hr := gof_r (w 1 i)
  have k64 : (64 : Int32) = nI 64 := rfl
  have g0 : 0 ≤ (gof (w 1 i)).toInt := nn hg0
  refine ⟨Rf, Wf, c0', c1', g', a1, a2, a3, a4, ?_, ?_, a7, a8, a9, b0, b1, b2, b3, fun q => b4 (upd_all q ?_)⟩
  · show fX1_draw_9 w0 w (zl4 (fX1_draw_9 w0 w) f') c0 c1 (nI P) (nI i) = _
    generalize zl4 (fX1_draw_9 w0 w) f' = Z at *
    unfold fX1_draw_9 fX1_draw_65
    rw [hw, if_neg cn, e_sign hL hi hw, ob1_s, e_gof, ob1_s, if_pos (show (0 : Int32) ≤ gof (w 1 i) from ile.mpr g0), k64, if_neg (by rw [nI_leI (by omega) (by omega)]; omega), gd_s (vp_in_nI (by omega) (by omega)), nm_s, nI_clamp (by omega), nI_1, nI_1]
    exact a5
  · show fX8_bay_35 m (zl5 (fX8_bay_35 m) f2') g c1 (nI L) (nI P) (nI i) = _
    generalize zl5 (fX8_bay_35 m) f2' = Z at *
    unfold fX8_bay_35 fX8_bay_85
    rw [if_neg cn, gd_s (vp_in_nI (by omega) (by omega)), nI_clamp (by omega), hm, if_neg h47, gd_s (vp_in_nI (by omega) (by omega)), m_gof, ob1_s, gd_s (vp_in_nI (by omega) (by omega)), nm_s, nI_clamp (by omega), nI_1, nI_1]
    exact a6
  · rcases hr with q | q
    · rw [q] at g0; exact absurd g0 (by decide)
    · exact q.1
theorem fault_all {w0 w m : Nat → Nat → Int32} {L : Nat} (hL : L ≤ 80) (hw : w 0 1 = nI L) (hm3 : m 0 3 = nI L) (hm : m 2 = w 1) : ∀ (k i R W x f f2 : Nat) (WE WM : Int32), i + k = L → k < f → k < f2 → ((R = 0 ∧ x ≤ 8 ∧ WE = 8 ∧ WM = 0) ∨ (1 ≤ R ∧ R ≤ 7 ∧ 2 ≤ W ∧ W ≤ 8 ∧ x ≤ W ∧ WE = nI W ∧ WM = nI W)) → ∃ r : Int32, zl4 (fX3_faultPlace_10 w) f (nI R) WE (nI x) (nI i) = some r ∧ zl4 (fX8_fault_9 m) f2 WM (nI R) (nI x) (nI i) = some r ∧ (0 ≤ r.toInt ∨ (r = -1 ∧ DrawOk w0 w m L i R (R * W + x))) := by
  have k2 : (2 : Int32) = nI 2 := rfl
  have k7 : (7 : Int32) = nI 7 := rfl
  have k8 : (8 : Int32) = nI 8 := rfl
  intro k
  induction k with
  | zero =>
    intro i R W x f f2 WE WM hi hf hf2 inv
    obtain ⟨f', rfl⟩ : ∃ f', f = f' + 1 := ⟨f - 1, by omega⟩
    obtain ⟨f2', rfl⟩ : ∃ f2', f2 = f2' + 1 := ⟨f2 - 1, by omega⟩
    have hiL : i = L := by omega
    subst hiL
    show ∃ r : Int32, fX3_faultPlace_10 w (zl4 (fX3_faultPlace_10 w) f') (nI R) WE (nI x) (nI i) = some r ∧ fX8_fault_9 m (zl4 (fX8_fault_9 m) f2') WM (nI R) (nI x) (nI i) = some r ∧ (0 ≤ r.toInt ∨ (r = -1 ∧ DrawOk w0 w m i i R (R * W + x)))
    generalize zl4 (fX3_faultPlace_10 w) f' = Z1
    generalize zl4 (fX8_fault_9 m) f2' = Z2
    unfold fX3_faultPlace_10 fX8_fault_9
    rw [hw, hm3, if_pos (Int32.le_refl _), if_pos (Int32.le_refl _), nI_1, k2]
    have ri : 0 ≤ (nI i).toInt := by rw [nI_toInt (by omega)]; omega
    rcases inv with ⟨hR, hx, hE, hM⟩ | ⟨hR1, hR7, hW2, hW8, hx, hE, hM⟩
    · rw [if_pos (by rw [nI_ltI (by omega) (by omega)]; omega), if_pos (by rw [hR]; rfl)]
      exact ⟨_, rfl, rfl, Or.inl ri⟩
    · rw [if_neg (by rw [nI_ltI (by omega) (by omega)]; omega), if_neg (nI_ne0 (by omega) (by omega)), hE, hM]
      by_cases c : x = W
      · subst c
        rw [if_pos rfl, if_pos (Int32.le_refl _)]
        exact ⟨_, rfl, rfl, Or.inr ⟨rfl, draw_end hL hw hR7 hR1 hW2 hW8⟩⟩
      · rw [if_neg (by rw [nI_eq (by omega) (by omega)]; exact c), if_neg (by rw [nI_leI (by omega) (by omega)]; omega)]
        exact ⟨_, rfl, rfl, Or.inl ri⟩
  | succ k ih =>
    intro i R W x f f2 WE WM hi hf hf2 inv
    obtain ⟨f', rfl⟩ : ∃ f', f = f' + 1 := ⟨f - 1, by omega⟩
    obtain ⟨f2', rfl⟩ : ∃ f2', f2 = f2' + 1 := ⟨f2 - 1, by omega⟩
    show ∃ r : Int32, fX3_faultPlace_10 w (zl4 (fX3_faultPlace_10 w) f') (nI R) WE (nI x) (nI i) = some r ∧ fX8_fault_9 m (zl4 (fX8_fault_9 m) f2') WM (nI R) (nI x) (nI i) = some r ∧ (0 ≤ r.toInt ∨ (r = -1 ∧ DrawOk w0 w m L i R (R * W + x)))
    have i2 := fun R W x WE WM => ih (i + 1) R W x f' f2' WE WM (by omega) (by omega) (by omega)
    generalize zl4 (fX3_faultPlace_10 w) f' = Z1 at *
    generalize zl4 (fX8_fault_9 m) f2' = Z2 at *
    have cn : ¬ nI L ≤ nI i := by rw [nI_leI (by omega) (by omega)]; omega
    have gi : ∀ {α : Type} (k : Option α), gd (nI i) 80 k = k := fun k => gd_s (vp_in_nI (by omega) (by omega))
    have ri : 0 ≤ (nI i).toInt := by rw [nI_toInt (by omega)]; omega
    have x8 : x ≤ 8 := by omega
    have stop : ∃ r : Int32, some (nI i) = some r ∧ some (nI i) = some r ∧ (0 ≤ r.toInt ∨ (r = -1 ∧ DrawOk w0 w m L i R (R * W + x))) := ⟨_, rfl, rfl, Or.inl ri⟩
    have z0 : (0 : Int32) = nI 0 := rfl
    unfold fX3_faultPlace_10 fX8_fault_9 fX3_faultPlace_61 fX3_faultPlace_106 fX8_fault_53 fX8_fault_94 fX8_fault_97
    rw [hw, hm3, if_neg cn, if_neg cn, e_sign hL (by omega) hw, ob1_s, gi, gi, nI_clamp (by omega), hm, e_gof, m_gof]
    by_cases c47 : w 1 i = 47
    · rw [if_pos c47, if_pos c47]
      have bar : ∀ y : Nat, (R = 0 → y = x) → (1 ≤ R → y = W ∧ x = W) → 2 ≤ x → R < 7 → ∃ r : Int32, Z1 (nI R + 1) (nI x) 0 (nI i + 1) = some r ∧ Z2 (nI x) (nI R + 1) 0 (nI i + 1) = some r ∧ (0 ≤ r.toInt ∨ (r = -1 ∧ DrawOk w0 w m L i R (R * W + x))) := fun y hy0 hy1 h2x hR => by
        rw [nI_1, nI_1]
        obtain ⟨r, a1, a2, a3⟩ := i2 (R + 1) x 0 (nI x) (nI x) (Or.inr ⟨by omega, by omega, h2x, x8, by omega, rfl, rfl⟩)
        refine ⟨r, a1, a2, ?_⟩
        rcases a3 with a3 | ⟨a3, a4⟩
        · exact Or.inl a3
        · refine Or.inr ⟨a3, ?_⟩
          have eP : (R + 1) * x + 0 = R * W + x := by
            rcases Nat.eq_zero_or_pos R with q | q
            · rw [q]; omega
            · rw [(hy1 q).2, Nat.add_mul]; omega
          rw [eP] at a4
          exact draw_bar hL (by omega) (by omega) hw hm c47 a4
      by_cases c7 : R = 7
      · -- seven rows stand behind
        have e7 : nI R = 7 := by rw [c7]; rfl
        rw [if_pos e7]
        rcases inv with ⟨hR, hx, hE, hM⟩ | ⟨hR1, hR7, hW2, hW8, hx, hE, hM⟩
        · omega
        · rw [if_neg (nI_ne0 (by omega) (by omega)), if_pos e7]
          have q1 : ∀ b : Option Int32, (if (1 : Int32) = 0 then some (nI i) else some (nI i)) = some (nI i) := fun _ => by split <;> rfl
          by_cases c : nI x = WE
          · rw [if_pos c, if_neg (by decide)]; exact stop
          · rw [if_neg c, if_pos rfl]; exact stop
      · have e7 : ¬ nI R = 7 := by rw [k7, nI_eq (by omega) (by omega)]; exact c7
        simp only [if_neg e7]
        rcases inv with ⟨hR, hx, hE, hM⟩ | ⟨hR1, hR7, hW2, hW8, hx, hE, hM⟩
        · have r0 : nI R = 0 := by rw [hR]; rfl
          rw [if_pos r0]
          by_cases c2 : x < 2
          · have c2' : nI x < 2 := by rw [k2, nI_ltI (by omega) (by omega)]; exact c2
            rw [if_pos c2', if_pos c2', if_pos trivial]; exact stop
          · have c2' : ¬ nI x < 2 := by rw [k2, nI_ltI (by omega) (by omega)]; exact c2
            rw [if_neg c2', if_neg c2', if_neg (by decide), if_pos (show nI R ≤ 0 by rw [r0]; exact Int32.le_refl _)]
            exact bar x (fun _ => rfl) (fun q => by omega) (by omega) (by omega)
        · have r0 : ¬ nI R = 0 := nI_ne0 (by omega) (by omega)
          have r0' : ¬ nI R ≤ 0 := nI_nle (by omega) (by omega)
          rw [if_neg r0, hE, hM]
          by_cases c : x = W
          · have c' : nI x = nI W := by rw [c]
            have c2' : ¬ nI x < 2 := by rw [k2, nI_ltI (by omega) (by omega)]; omega
            rw [if_pos c', if_neg (by decide), if_neg c2', if_neg r0', if_pos (show nI W ≤ nI x by rw [c']; exact Int32.le_refl _)]
            exact bar W (fun _ => c.symm) (fun _ => ⟨rfl, c⟩) (by omega) (by omega)
          · have c' : ¬ nI x = nI W := by rw [nI_eq (by omega) (by omega)]; exact c
            have cl : ¬ nI W ≤ nI x := by rw [nI_leI (by omega) (by omega)]; omega
            rw [if_neg c', if_pos trivial, if_neg r0', if_neg cl]
            by_cases c2 : nI x < 2
            · rw [if_pos c2]; exact stop
            · rw [if_neg c2]; exact stop
    · rw [if_neg c47, if_neg c47, ob1_s, ob1_s]
      by_cases cg : gof (w 1 i) < 0
      · rw [if_pos cg, if_pos cg]; exact stop
      · rw [if_neg cg, if_neg cg]
        have one : x < 8 → R * W + x < 64 → ((R = 0 ∧ x + 1 ≤ 8 ∧ WE = 8 ∧ WM = 0) ∨ (1 ≤ R ∧ R ≤ 7 ∧ 2 ≤ W ∧ W ≤ 8 ∧ x + 1 ≤ W ∧ WE = nI W ∧ WM = nI W)) → ∃ r : Int32, Z1 (nI R) WE (nI x + 1) (nI i + 1) = some r ∧ Z2 WM (nI R) (nI x + 1) (nI i + 1) = some r ∧ (0 ≤ r.toInt ∨ (r = -1 ∧ DrawOk w0 w m L i R (R * W + x))) := fun hx8 hP inv' => by
          rw [nI_1, nI_1]
          obtain ⟨r, a1, a2, a3⟩ := i2 R W (x + 1) WE WM inv'
          refine ⟨r, a1, a2, ?_⟩
          rcases a3 with a3 | ⟨a3, a4⟩
          · exact Or.inl a3
          · exact Or.inr ⟨a3, draw_one hL (by omega) hP hw hm c47 cg a4⟩
        rcases inv with ⟨hR, hx, hE, hM⟩ | ⟨hR1, hR7, hW2, hW8, hx, hE, hM⟩
        · have r0' : nI R ≤ 0 := by rw [hR]; exact Int32.le_refl _
          subst hE
          subst hM
          by_cases c : x = 8
          · have c' : nI x = 8 := by rw [c]; rfl
            rw [if_pos c', if_pos c']; exact stop
          · have c' : ¬ nI x = 8 := by rw [k8, nI_eq (by omega) (by omega)]; exact c
            rw [if_neg c', if_neg c', if_pos r0']
            exact one (by omega) (by rw [hR]; omega) (Or.inl ⟨hR, by omega, rfl, rfl⟩)
        · have r0' : ¬ nI R ≤ 0 := nI_nle (by omega) (by omega)
          subst hE
          subst hM
          by_cases c : x = W
          · have c' : nI x = nI W := by rw [c]
            rw [if_pos c']
            by_cases c8' : nI x = 8
            · rw [if_pos c8']; exact stop
            · rw [if_neg c8', if_neg r0', if_pos c']; exact stop
          · have c' : ¬ nI x = nI W := by rw [nI_eq (by omega) (by omega)]; exact c
            have c8' : ¬ nI x = 8 := by rw [k8, nI_eq (by omega) (by omega)]; omega
            rw [if_neg c', if_neg c8', if_neg r0', if_neg c']
            have hRW : R * W ≤ 7 * W := Nat.mul_le_mul_right W hR7
            exact one (by omega) (by omega) (Or.inr ⟨hR1, hR7, hW2, hW8, by omega, rfl, rfl⟩)
theorem sim_bay {n : Nat} {E M : Nat → Nat → Int32} (hn : n < 1000) (h : zR n E M) : ∃ (r : Int32) (c1 : Nat → Int32) (c4 : Nat → Int32) (c5 : Nat → Int32) (c12 : Nat → Int32) (d0 : Nat → Int32) (d1 : Nat → Int32), fX7_bay E = some (r, c1, c4, c5, c12) ∧ fX8_bay M = some (r, d0, d1) ∧ zR (n + 1) (ups (ups (ups (ups E 1 c1) 4 c4) 5 c5) 12 c12) (ups (ups M 0 d0) 1 d1) := by
  obtain ⟨⟨q0, q1, q2, q3, q4, q5, q6, q7, q8, q9⟩, h2, h3, ⟨b1, b2, b3⟩, ⟨a1, a2, a3, a4, a5, a6, a7⟩, ⟨l1, l2, l3⟩, h7, ⟨i1, i2⟩, h9, h10⟩ := id h
  obtain ⟨L, hL, eL⟩ : ∃ L : Nat, L ≤ 80 ∧ E 1 1 = nI L := ⟨(E 1 1).toInt.toNat, by have := b2.2; omega, nI_of' b2.1⟩
  obtain ⟨r, f1, f2, f3⟩ := fault_all (w0 := sh 4 E) (w := sh 1 E) (m := M) hL eL (b1.trans eL) b3 L 0 0 8 0 zFU zFU 8 0 (by omega) (by unfold zFU; omega) (by unfold zFU; omega) (Or.inl ⟨rfl, by omega, rfl, rfl⟩)
  have z0 : nI 0 = (0 : Int32) := rfl
  rw [z0] at f1 f2
  have eF : fX3_faultPlace (sh 1 E) = some r := f1
  have mF : fX8_fault M = some r := f2
  rcases f3 with r0 | ⟨rm, dr⟩
  · have nr : ¬ r < 0 := nn' r0
    have e1 : fX7_bay E = some (-1000 - r, ups (E 1) 1 0, E 4, E 5, E 12) := by
      unfold fX7_bay
      simp only [ups_id]
      rw [eF, ob1_s, if_neg nr]
      rfl
    have e2 : fX8_bay M = some (-1000 - r, ups (M 0) 3 0, M 1) := by
      unfold fX8_bay
      simp only [ups_id]
      rw [mF, ob1_s, if_neg nr]
    refine ⟨_, _, _, _, _, _, _, e1, e2, ?_⟩
    have x4 : ups (ups E 1 (ups (E 1) 1 0)) 4 (E 4) = ups E 1 (ups (E 1) 1 0) := ups_idn (by decide)
    have x5 : ups (ups E 1 (ups (E 1) 1 0)) 5 (E 5) = ups E 1 (ups (E 1) 1 0) := ups_idn (by decide)
    have x12 : ups (ups E 1 (ups (E 1) 1 0)) 12 (E 12) = ups E 1 (ups (E 1) 1 0) := ups_idn (by decide)
    have x1 : ups (ups M 0 (ups (M 0) 3 0)) 1 (M 1) = ups M 0 (ups (M 0) 3 0) := ups_idn (by decide)
    rw [x4, x5, x12, x1]
    exact ⟨⟨q0, q1, q2, q3, q4, q5, q6, q7, q8, q9⟩, h2, h3, ⟨rfl, (show Rng 0 0 80 from ⟨by decide, by decide⟩), b3⟩, ⟨a1, a2, a3, a4, a5, a6, a7.up⟩, ⟨l1, l2, l3⟩, h7, ⟨i1, i2⟩, h9, fun q => ⟨(h10 q).1, (h10 q).2.up⟩⟩
  · have nr : r < 0 := by rw [rm]; decide
    obtain ⟨Rf, Wf, c0', c1', g', d1, d2, d3, d4, d5, d6, d7, d8, d9, g1, g12, g21, gk, gr⟩ := dr zFU zFU (ups (E 4) 1 1) (E 5) (ups (ups (M 0) 3 0) 0 1) (by unfold zFU; omega) (by unfold zFU; omega) rfl rfl
    have z0' : nI (0 * 8 + 0) = (0 : Int32) := rfl
    rw [z0'] at d5 d6
    have hP : Rf * Wf ≤ 8 * 8 := Nat.mul_le_mul d2 d4
    have eC : nI Rf * nI Wf = nI (Rf * Wf) := (Int32.ofNat_mul Rf Wf).symm
    have eD : fX1_draw (sh 4 E) (sh 1 E) = some (c0', c1') := d5
    have eL1 : fX5_leaveBay (E 12) = some (ups (layE (E 12) (-9)) 0 0) := rfl
    have e1 : fX7_bay E = some (nI (Rf * Wf), ups (E 1) 1 0, c0', c1', ups (layE (E 12) (-9)) 0 0) := by
      unfold fX7_bay
      simp only [ups_id]
      rw [eF, ob1_s, if_pos nr, eD, ob2_s, eL1]
      show some (c0' 1 * c0' 2, ups (E 1) 1 0, c0', c1', ups (layE (E 12) (-9)) 0 0) = _
      rw [d7, d8, eC]
    have e2 : fX8_bay M = some (nI (Rf * Wf), g', c1') := by
      unfold fX8_bay
      simp only [ups_id]
      rw [mF, ob1_s, if_pos nr, q4, b1, eL]
      exact d6
    refine ⟨_, _, _, _, _, _, _, e1, e2, ?_⟩
    obtain ⟨y0, y1, y2, y3, y4, y5, y6, y7, y8, y9, y10, y11, y12, y13, y14, y15⟩ := layE_at (E 12) (-9)
    obtain ⟨w0, w1, w2⟩ := h2
    have gk' : ∀ k, k ≠ 0 → k ≠ 1 → k ≠ 3 → k ≠ 12 → k ≠ 21 → g' k = M 0 k := fun k p0 p1 p3 p12 p21 => (gk k p0 p1 p12 p21).trans ((ups_n _ _ _ _ p0).trans (ups_n _ _ _ _ p3))
    have g3 : g' 3 = 0 := gk 3 (by decide) (by decide) (by decide) (by decide)
    have rR : Rng (c0' 1) 2 8 := by rw [d7]; unfold Rng; rw [nI_toInt (by omega)]; omega
    have rW : Rng (c0' 2) 2 8 := by rw [d8]; unfold Rng; rw [nI_toInt (by omega)]; omega
    exact ⟨⟨d9.trans d7.symm, g1.trans d8.symm, (gk' 6 (by decide) (by decide) (by decide) (by decide) (by decide)).trans q2, (gk' 9 (by decide) (by decide) (by decide) (by decide) (by decide)).trans q3, rfl, q5, q6, q7, q8, q9⟩, ⟨Or.inr ⟨rR, rW⟩, gr w1, w2⟩, h3, ⟨g3, (show Rng 0 0 80 from ⟨by decide, by decide⟩), b3⟩, ⟨g12, Or.inl rfl, ⟨fun q => absurd (show (0 : Int32) = 1 from q) (by decide), fun _ => ⟨y9, g21, Or.inl y12⟩⟩, (gk' 25 (by decide) (by decide) (by decide) (by decide) (by decide)).trans a4, (gk' 26 (by decide) (by decide) (by decide) (by decide) (by decide)).trans a5, ⟨y13, y14, y15⟩, (show Rng (layE (E 12) (-9) 9) 0 (100 * (n + 1 : Nat)) by rw [y9]; exact ⟨by decide, by have : (0 : Int32).toInt = 0 := rfl; omega⟩)⟩, ⟨(gk' 28 (by decide) (by decide) (by decide) (by decide) (by decide)).trans l1, l2, l3⟩, h7, ⟨(gk' 31 (by decide) (by decide) (by decide) (by decide) (by decide)).trans i1, i2⟩, h9, fun q => ⟨(h10 q).1, (h10 q).2.up⟩⟩
