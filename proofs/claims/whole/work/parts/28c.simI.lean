/-! plan -/
theorem pt13 (E : Nat → Nat → Int32) (c s : Nat → Int32) : fX5_passTen s (sh 3 (ups E 13 c)) = fX5_passTen s (sh 3 E) := rfl
theorem ta13 (E : Nat → Nat → Int32) (c s : Nat → Int32) (a : Int32) : fX5_tryAct s (sh 3 (ups E 13 c)) a = fX5_tryAct s (sh 3 E) a := rfl
theorem li13 (E : Nat → Nat → Int32) (c s : Nat → Int32) : fX5_livesIn s (sh 3 (ups E 13 c)) = fX5_livesIn s (sh 3 E) := rfl
theorem la13 (E : Nat → Nat → Int32) (c : Nat → Int32) : fX7_livesByActs_13 (ups E 13 c) = fX7_livesByActs_13 E := by
  funext s c0 x1 x2 x3
  unfold fX7_livesByActs_13 fX7_livesByActs_51 fX7_livesByActs_68
  simp only [pt13, ta13, li13]
theorem lvs_r {w : Nat → Nat → Int32} {s : Nat → Int32} (hw : OW w) (ho : OS w s) : 0 ≤ (lvs w s).toInt ∧ (lvs w s).toInt ≤ (w 0 6).toInt := by
  obtain ⟨c0, c60⟩ := hw.2.2.2.2.2.1
  have k100 : (100 : Int32).toInt = 100 := rfl
  have fin : ∀ y : Int32, 0 ≤ y.toInt → y.toInt ≤ 40 → 0 ≤ ((w 0 6 * y) / 100).toInt ∧ ((w 0 6 * y) / 100).toInt ≤ (w 0 6).toInt := fun y y0 y40 => by
    have b1 : (w 0 6).toInt * y.toInt ≤ (w 0 6).toInt * 40 := Int.mul_le_mul_of_nonneg_left y40 c0
    have b2 : 0 ≤ (w 0 6).toInt * y.toInt := Int.mul_nonneg c0 y0
    have b3 : (w 0 6 * y).toInt = (w 0 6).toInt * y.toInt := im (by omega) (by omega)
    have b4 : (w 0 6 * y / 100).toInt = (w 0 6).toInt * y.toInt / 100 := by rw [idv (by rw [b3]; exact b2) (by decide), b3, k100]
    rw [b4]
    omega
  unfold lvs
  by_cases c5 : s 10 = 5
  · rw [if_pos c5]; exact lvB_r hw ho.2.2.2.2.2.2.2.2.1
  · rw [if_neg c5]
    by_cases c6 : s 10 = 6
    · rw [if_pos c6]
      by_cases c12 : s 12 = 0
      · rw [if_pos c12]; exact fin 40 (by decide) (by decide)
      · rw [if_neg c12]; exact fin 10 (by decide) (by decide)
    · rw [if_neg c6]
      by_cases c7 : s 10 = 7
      · rw [if_pos c7]; exact ⟨by decide, c0⟩
      · rw [if_neg c7]; exact ⟨c0, Int.le_refl _⟩
theorem ss_mayAnchor {T : Nat} {m w : Nat → Nat → Int32} {s : Nat → Int32} (h : SS T m w s) : (fX5_mayAnchor s = some 0 ∧ fX8_mayAnchor m = some 0) ∨ (fX5_mayAnchor s = some 1 ∧ fX8_mayAnchor m = some 1 ∧ (s 10).toInt ≤ 4 ∧ 1 ≤ (s 5).toInt) := by
  obtain ⟨h1, h2, h3, h4, h5, h6, h7, h8, h9, h10⟩ := h
  have e22 : m 0 22 = s 10 := h2.2.2.2.2.2.2.2.2.2.1
  have e17 : m 0 17 = s 5 := h2.2.2.2.2.1
  have n1 : ¬ (1 : Int32) = 0 := by decide
  have hs0 : ¬ s 0 = 0 := by rw [h9]; decide
  have hm0 : ¬ m 0 12 = 0 := by rw [h10]; decide
  unfold fX5_mayAnchor fX8_mayAnchor
  rw [if_neg hm0, e22, e17]
  rcases en_cases h5 with k | k
  · have al1 : fX5_isAlive s = some 1 := by unfold fX5_isAlive; rw [if_neg hs0, e_en0 k, ob1_s, if_pos rfl]
    have x2 : fX8_ended m = some 0 := m_en0 (by rw [e22]; exact k)
    rw [al1, x2, ob1_s, ob1_s, if_neg n1, if_pos rfl]
    by_cases c4 : s 10 = 4
    · left; rw [if_pos c4]; exact ⟨rfl, rfl⟩
    · rw [if_neg c4]
      by_cases c0 : s 5 ≤ 0
      · left; rw [if_pos c0]; exact ⟨rfl, rfl⟩
      · right; rw [if_neg c0]
        refine ⟨rfl, rfl, k, ?_⟩
        have : (0 : Int) < (s 5).toInt := Int.not_le.mp (fun q => c0 (ile.mpr q))
        omega
  · have al0 : fX5_isAlive s = some 0 := by unfold fX5_isAlive; rw [if_neg hs0, e_en1 k, ob1_s, if_neg n1]
    have x2 : fX8_ended m = some 1 := m_en1 (by rw [e22]; have := k.1; omega)
    left; rw [al0, x2, ob1_s, ob1_s, if_pos rfl, if_neg n1]; exact ⟨rfl, rfl⟩
theorem act_turn {T : Nat} {B w : Nat → Nat → Int32} {g s : Nat → Int32} (hw : OW w) (hT : T < 1000000) (h : SS T (ups B 0 g) w s) {d : Int32} (hd : D8 d) : ∃ u s' : Nat → Int32, ob1 (fX8_mayTurn (ups B 0 g) d) (fun r2 => if r2 = 0 then some g else ob1 (fX8_wears (ups B 0 g) d) (fun u4 => some u4)) = some u ∧ ob1 (fX5_mayTurn s w d) (fun r4 => if r4 = 0 then some s else ob1 (fX5_turnBeforeWind s w d) (fun u6 => some u6)) = some s' ∧ SS T (ups B 0 u) w s' ∧ FrS s s' ∧ FrG g u ∧ (Rng (s 10) 5 8 → u = g) := by
  rcases ss_may hw hT h hd with ⟨a1, a2⟩ | ⟨a1, a2, a3, a4⟩
  · rw [a1, a2, ob1_s, ob1_s, if_pos rfl, if_pos rfl]
    exact ⟨g, s, rfl, rfl, h, FrS.rf, FrG.rf, fun _ => rfl⟩
  · rw [a1, a2, ob1_s, ob1_s, if_neg (by decide), if_neg (by decide)]
    obtain ⟨u, s', b1, b2, b3, b4, b5⟩ := ss_wear hw hT h hd a3
    rw [ups2] at b3
    rw [ups_s] at b5
    rw [b1, b2, ob1_s, ob1_s]
    exact ⟨u, s', rfl, rfl, b3, b4, b5, fun q => absurd a3 (by have := q.1; omega)⟩
theorem ss_act {T : Nat} {B w : Nat → Nat → Int32} {g s : Nat → Int32} (hw : OW w) (hT : T < 1000000) (h : SS T (ups B 0 g) w s) (a : Int32) : ∃ u s' : Nat → Int32, fX8_act (ups B 0 g) a = some u ∧ fX5_tryAct s w a = some s' ∧ SS T (ups B 0 u) w s' ∧ FrS s s' ∧ FrG g u ∧ (Rng (s 10) 5 8 → u = g) := by
  have hb : ups (ups B 0 g) 0 g = ups B 0 g := ups2
  have e0 : ups B 0 g 0 = g := rfl
  have e14 : g 14 = s 2 := h.2.1.2.1
  have o2 : D8 (s 2) := h.2.2.2.2.1.1
  have gr : ∀ x : Int32, fX7_goneRound x = some (x &&& 7) := fun _ => rfl
  have n1 : ¬ (1 : Int32) = 0 := by decide
  unfold fX8_act fX5_tryAct
  rw [e0, hb]
  by_cases c1 : a = 1
  · rw [if_pos c1, if_pos c1]
    unfold fX5_tryAct_10 fX5_tryAct_25
    rw [if_pos c1, gr, ob1_s, e14, d8_add o2 ⟨by decide, by decide⟩]
    exact act_turn hw hT h (and7 _)
  · rw [if_neg c1, if_neg c1]
    by_cases c2 : a = 2
    · rw [if_pos c2, if_pos c2]
      unfold fX5_tryAct_10 fX5_tryAct_25
      have e6 : (s 2 + -2) &&& 7 = (s 2 + 6) &&& 7 := by
        rcases c8 o2.1 o2.2 with q | q | q | q | q | q | q | q <;> rw [q] <;> decide
      rw [if_neg c1, gr, ob1_s, e14, d8_add o2 ⟨by decide, by decide⟩, e6]
      exact act_turn hw hT h (and7 _)
    · rw [if_neg c2, if_neg c2]
      by_cases c3 : a = 3
      · rw [if_pos c3, if_pos c3]
        rcases ss_mayAnchor h with ⟨a1, a2⟩ | ⟨a1, a2, a3, a4⟩
        · rw [a1, a2, ob1_s, ob1_s, if_pos rfl, if_pos rfl]
          exact ⟨g, s, rfl, rfl, h, FrS.rf, FrG.rf, fun _ => rfl⟩
        · rw [a1, a2, ob1_s, ob1_s, if_neg n1, if_neg n1]
          obtain ⟨h1, h2, h3, h4, h5, h6, h7, h8, h9, h10⟩ := h
          exact ⟨ups g 22 4, ups s 10 4, rfl, rfl, ⟨h1, rf_kind (show RF g s from h2) (by decide), h3, h4, os_kind h5 a3 ⟨by decide, by decide⟩, fun _ => h6 a3, fun _ => a4, h8, h9, h10⟩, fun k q => ups_n _ _ _ _ (by omega), fun k q => ups_n _ _ _ _ (by omega), fun q => absurd a3 (by have := q.1; omega)⟩
      · rw [if_neg c3, if_neg c3]
        by_cases c4 : a = 4
        · rw [if_pos c4, if_pos c4]
          have hs0 : ¬ s 0 = 0 := by rw [h.2.2.2.2.2.2.2.2.1]; decide
          have e22 : ups B 0 g 0 22 = s 10 := h.2.1.2.2.2.2.2.2.2.2.2.1
          rcases en_cases h.2.2.2.2.1 with k | k
          · have al1 : fX5_isAlive s = some 1 := by unfold fX5_isAlive; rw [if_neg hs0, e_en0 k, ob1_s, if_pos rfl]
            have x2 : fX8_ended (ups B 0 g) = some 0 := m_en0 (by rw [e22]; exact k)
            have e15 : g 15 = s 3 := h.2.1.2.2.1
            rw [al1, x2, ob1_s, ob1_s, if_pos rfl, if_neg n1, e15]
            by_cases c5 : 3 ≤ s 3
            · rw [if_pos c5, if_pos c5]
              exact ⟨g, s, rfl, rfl, h, FrS.rf, FrG.rf, fun _ => rfl⟩
            · rw [if_neg c5, if_neg c5]
              have hv : Rng (s 3 + 1) 0 3 := by
                obtain ⟨o3, o3'⟩ := h.2.2.2.2.1.2.1
                have k1 : (1 : Int32).toInt = 1 := rfl
                have : (s 3).toInt < (3 : Int) := Int.not_le.mp (fun q => c5 (ile.mpr q))
                unfold Rng
                rw [ia] <;> omega
              exact ⟨_, _, rfl, rfl, ss_sail h hv, fun k q => ups_n _ _ _ _ (by omega), fun k q => ups_n _ _ _ _ (by omega), fun q => absurd k (by have := q.1; omega)⟩
          · have al0 : fX5_isAlive s = some 0 := by unfold fX5_isAlive; rw [if_neg hs0, e_en1 k, ob1_s, if_neg n1]
            have x2 : fX8_ended (ups B 0 g) = some 1 := m_en1 (by rw [e22]; have := k.1; omega)
            rw [al0, x2, ob1_s, ob1_s, if_neg n1, if_pos rfl]
            exact ⟨g, s, rfl, rfl, h, FrS.rf, FrG.rf, fun _ => rfl⟩
        · rw [if_neg c4, if_neg c4]
          exact ⟨g, s, rfl, rfl, h, FrS.rf, FrG.rf, fun _ => rfl⟩
theorem ten_ended {w : Nat → Nat → Int32} {s : Nat → Int32} (k : Rng (s 10) 5 8) : ten w s = ups s 9 (s 9 + 1) := by
  unfold ten fX5_passTen
  rw [e_en1 k, ob1_s, if_neg (by decide)]
  rfl
/-- what the model does with a row's lives -/
def FinP (M : Nat → Nat → Int32) (s84 : (Nat → Int32) → (Nat → Int32) → (Nat → Int32) → (Nat → Int32) → Int32 → Int32 → Int32 → Int32 → Int32 → Int32 → Option (Int32 × (Nat → Int32) × (Nat → Int32) × (Nat → Int32) × (Nat → Int32))) (K : Nat → Int32) (n x2 x3 x4 x5 row : Int32) (g' : Nat → Int32) (v : Int32) : Option (Int32 × (Nat → Int32) × (Nat → Int32) × (Nat → Int32) × (Nat → Int32)) := if v ≤ x5 then fX8_plan_155 M s84 g' (M 3) (M 9) K n x2 x3 x4 x5 row else fX8_plan_155 M s84 g' (M 3) (M 9) K n x2 x3 row v row
theorem div5 {n t : Nat} (hn : n ≤ 4) (ht : t < n) : nI (5 ^ (n - t)) / 5 = nI (5 ^ (n - (t + 1))) ∧ ¬ nI (5 ^ (n - (t + 1))) = 0 := by
  have : n - t = 1 ∨ n - t = 2 ∨ n - t = 3 ∨ n - t = 4 := by omega
  rcases this with q | q | q | q
  · rw [show n - (t + 1) = 0 by omega, q]; decide
  · rw [show n - (t + 1) = 1 by omega, q]; decide
  · rw [show n - (t + 1) = 2 by omega, q]; decide
  · rw [show n - (t + 1) = 3 by omega, q]; decide
theorem e_actIn {n t : Nat} (hn : n ≤ 4) (ht : t < n) (row : Int32) : fX7_actInRow (nI n) row (nI t) = some (zrem (row / nI (5 ^ (n - (t + 1)))) 5) := by
  have e : (nI n - 1) - nI t = nI (n - (t + 1)) := by
    apply ieq.mpr
    have a1 : (nI n).toInt = n := nI_toInt (by omega)
    have a2 : (nI t).toInt = t := nI_toInt (by omega)
    have a3 : (nI (n - (t + 1))).toInt = ((n - (t + 1) : Nat) : Int) := nI_toInt (by omega)
    have a4 : (1 : Int32).toInt = 1 := rfl
    have a5 : (nI n - 1).toInt = n - 1 := by rw [is'] <;> omega
    rw [is'] <;> omega
  unfold fX7_actInRow
  rw [e]
  have : n - (t + 1) = 0 ∨ n - (t + 1) = 1 ∨ n - (t + 1) = 2 ∨ n - (t + 1) = 3 := by omega
  rcases this with q | q | q | q <;> rw [q]
  · rw [show fX7_valueAt 5 sROWS_OF_ACTS (nI 0) = some (nI (5 ^ 0)) from rfl, ob1_s, if_neg (by decide), dv_s (by decide)]
  · rw [show fX7_valueAt 5 sROWS_OF_ACTS (nI 1) = some (nI (5 ^ 1)) from rfl, ob1_s, if_neg (by decide), dv_s (by decide)]
  · rw [show fX7_valueAt 5 sROWS_OF_ACTS (nI 2) = some (nI (5 ^ 2)) from rfl, ob1_s, if_neg (by decide), dv_s (by decide)]
  · rw [show fX7_valueAt 5 sROWS_OF_ACTS (nI 3) = some (nI (5 ^ 3)) from rfl, ob1_s, if_neg (by decide), dv_s (by decide)]
theorem plan_end {M w : Nat → Nat → Int32} {K : Nat → Int32} {s84 : (Nat → Int32) → (Nat → Int32) → (Nat → Int32) → (Nat → Int32) → Int32 → Int32 → Int32 → Int32 → Int32 → Int32 → Option (Int32 × (Nat → Int32) × (Nat → Int32) × (Nat → Int32) × (Nat → Int32))} (n x2 x3 x4 x5 row x7 : Int32) (f T : Nat) (g s : Nat → Int32) (h : SS T (ups (ups (ups M 3 (M 3)) 11 K) 0 g) w s) : zl12 (fX8_plan_96 M s84) (f + 1) g (M 3) (M 9) K n x2 x3 x4 x5 row x7 (nI 20) = FinP M s84 K n x2 x3 x4 x5 row g (lvs w s) := by
  show fX8_plan_96 M s84 (zl12 (fX8_plan_96 M s84) f) g (M 3) (M 9) K n x2 x3 x4 x5 row x7 (nI 20) = _
  generalize zl12 (fX8_plan_96 M s84) f = Z
  have hl : fX8_lives (ups (ups (ups (ups M 0 g) 3 (M 3)) 9 (M 9)) 11 K) = some (lvs w s) := by rw [bun4]; exact m_lives h.1 h.2.1
  unfold fX8_plan_96 FinP
  rw [if_pos (by decide), hl, ob1_s, ob1_s]
theorem ended_loop {M w : Nat → Nat → Int32} {K : Nat → Int32} {s84 : (Nat → Int32) → (Nat → Int32) → (Nat → Int32) → (Nat → Int32) → Int32 → Int32 → Int32 → Int32 → Int32 → Int32 → Option (Int32 × (Nat → Int32) × (Nat → Int32) × (Nat → Int32) × (Nat → Int32))} (hw : OW w) {n : Nat} (hn : n ≤ 4) (x2 x3 x4 x5 row : Int32) : ∀ (f t T : Nat) (g s : Nat → Int32), T + (20 - t) < 1000000 → t ≤ 20 → 20 < f + t → SS T (ups (ups (ups M 3 (M 3)) 11 K) 0 g) w s → Rng (s 10) 5 8 → ∃ g' : Nat → Int32, zl12 (fX8_plan_96 M s84) f g (M 3) (M 9) K (nI n) x2 x3 x4 x5 row (nI (5 ^ (n - t))) (nI t) = FinP M s84 K (nI n) x2 x3 x4 x5 row g' (lvs w s) ∧ FrG g g' := by
  intro f
  induction f with
  | zero => intro t T g s hT h1 h2 h hk; omega
  | succ f ih =>
    intro t T g s hT h1 h2 h hk
    by_cases c : t = 20
    · subst c
      exact ⟨g, plan_end _ _ _ _ _ _ _ f T g s h, FrG.rf⟩
    · show ∃ g' : Nat → Int32, fX8_plan_96 M s84 (zl12 (fX8_plan_96 M s84) f) g (M 3) (M 9) K (nI n) x2 x3 x4 x5 row (nI (5 ^ (n - t))) (nI t) = FinP M s84 K (nI n) x2 x3 x4 x5 row g' (lvs w s) ∧ FrG g g'
      have i2 := fun T g s => ih (t + 1) T g s
      generalize zl12 (fX8_plan_96 M s84) f = Z at *
      have k20 : (20 : Int32) = nI 20 := rfl
      have step : ∀ x7, x7 = nI (5 ^ (n - (t + 1))) → ∃ g' : Nat → Int32, fX8_plan_126 M s84 Z g (M 3) (M 9) K (nI n) x2 x3 x4 x5 row x7 (nI t) = FinP M s84 K (nI n) x2 x3 x4 x5 row g' (lvs w s) ∧ FrG g g' := fun x7 e7 => by
        obtain ⟨u, a1, a2, a3, a4, a5⟩ := ss_ten hw (by omega) h
        rw [ups2] at a3
        rw [ups_s] at a5
        rw [ten_ended hk] at a3
        unfold fX8_plan_126
        rw [bun4, a1, ob1_s, nI_1, e7]
        obtain ⟨g', b1, b2⟩ := i2 (T + 1) u _ (by omega) (by omega) (by omega) a3 hk
        exact ⟨g', b1, a5.tr b2⟩
      unfold fX8_plan_96
      rw [k20, if_neg (by rw [nI_leI (by omega) (by omega)]; omega)]
      by_cases ct : n ≤ t
      · rw [if_pos (by rw [nI_leI (by omega) (by omega)]; omega)]
        exact step _ (by rw [show n - t = 0 by omega, show n - (t + 1) = 0 by omega])
      · rw [if_neg (by rw [nI_leI (by omega) (by omega)]; omega)]
        obtain ⟨d1, d2⟩ := div5 hn (show t < n by omega)
        rw [d1, dv_s d2, bun4]
        obtain ⟨u, s', a1, a2, a3, a4, a5, a6⟩ := ss_act hw (by omega) h (zrem (row / nI (5 ^ (n - (t + 1)))) 5)
        rw [a1, ob1_s, a6 hk]
        exact step _ rfl
theorem lives_loop {M E w : Nat → Nat → Int32} {K : Nat → Int32} {s84 : (Nat → Int32) → (Nat → Int32) → (Nat → Int32) → (Nat → Int32) → Int32 → Int32 → Int32 → Int32 → Int32 → Int32 → Option (Int32 × (Nat → Int32) × (Nat → Int32) × (Nat → Int32) × (Nat → Int32))} (hEw : sh 3 E = w) (hw : OW w) {n : Nat} (hn : n ≤ 4) (x2 x3 x4 x5 row : Int32) : ∀ (f f2 t T : Nat) (g s : Nat → Int32), T + (20 - t) < 1000000 → t ≤ 20 → 20 < f + t → 20 < f2 + t → SS T (ups (ups (ups M 3 (M 3)) 11 K) 0 g) w s → ∃ (v : Int32) (g' s' : Nat → Int32), zl4 (fX7_livesByActs_13 E) f2 s (nI n) row (nI t) = some (v, s') ∧ zl12 (fX8_plan_96 M s84) f g (M 3) (M 9) K (nI n) x2 x3 x4 x5 row (nI (5 ^ (n - t))) (nI t) = FinP M s84 K (nI n) x2 x3 x4 x5 row g' v ∧ FrG g g' ∧ FrS s s' ∧ 0 ≤ v.toInt ∧ v.toInt ≤ (w 0 6).toInt := by
  have k20 : (20 : Int32) = nI 20 := rfl
  intro f
  induction f with
  | zero => intro f2 t T g s hT h1 h2 h3 h; omega
  | succ f ih =>
    intro f2 t T g s hT h1 h2 h3 h
    obtain ⟨f2', rfl⟩ : ∃ f2', f2 = f2' + 1 := ⟨f2 - 1, by omega⟩
    obtain ⟨l0, l1⟩ := lvs_r hw h.2.2.2.2.1
    have eE : ∀ t, zl4 (fX7_livesByActs_13 E) (f2' + 1) s (nI n) row t = fX7_livesByActs_13 E (zl4 (fX7_livesByActs_13 E) f2') s (nI n) row t := fun _ => rfl
    rw [eE]
    have i2 := fun T g s => ih f2' (t + 1) T g s
    by_cases c : t = 20
    · subst c
      refine ⟨lvs w s, g, s, ?_, plan_end _ _ _ _ _ _ _ f T g s h, FrG.rf, FrS.rf, l0, l1⟩
      generalize zl4 (fX7_livesByActs_13 E) f2' = Z
      unfold fX7_livesByActs_13 fX7_livesByActs_68
      rw [hEw, if_pos (by decide), e_lives, ob1_s]
    · rcases en_cases h.2.2.2.2.1 with k | k
      · have step : ∀ (g2 s2 : Nat → Int32), SS T (ups (ups (ups M 3 (M 3)) 11 K) 0 g2) w s2 → FrG g g2 → FrS s s2 → ∃ (v : Int32) (g' s' : Nat → Int32), fX7_livesByActs_51 E (zl4 (fX7_livesByActs_13 E) f2') s2 (nI n) row (nI t) = some (v, s') ∧ fX8_plan_126 M s84 (zl12 (fX8_plan_96 M s84) f) g2 (M 3) (M 9) K (nI n) x2 x3 x4 x5 row (nI (5 ^ (n - (t + 1)))) (nI t) = FinP M s84 K (nI n) x2 x3 x4 x5 row g' v ∧ FrG g g' ∧ FrS s s' ∧ 0 ≤ v.toInt ∧ v.toInt ≤ (w 0 6).toInt := fun g2 s2 hs2 fg fs => by
          obtain ⟨u, a1, a2, a3, a4, a5⟩ := ss_ten hw (by omega) hs2
          rw [ups2] at a3
          rw [ups_s] at a5
          unfold fX7_livesByActs_51 fX8_plan_126
          rw [bun4, a1, hEw, a2, ob1_s, ob1_s, nI_1]
          obtain ⟨v, g', s', b1, b2, b3, b4, b5, b6⟩ := i2 (T + 1) u (ten w s2) (by omega) (by omega) (by omega) (by omega) a3
          exact ⟨v, g', s', b1, b2, fg.tr (a5.tr b3), fs.tr (a4.tr b4), b5, b6⟩
        show ∃ (v : Int32) (g' s' : Nat → Int32), fX7_livesByActs_13 E (zl4 (fX7_livesByActs_13 E) f2') s (nI n) row (nI t) = some (v, s') ∧ fX8_plan_96 M s84 (zl12 (fX8_plan_96 M s84) f) g (M 3) (M 9) K (nI n) x2 x3 x4 x5 row (nI (5 ^ (n - t))) (nI t) = FinP M s84 K (nI n) x2 x3 x4 x5 row g' v ∧ FrG g g' ∧ FrS s s' ∧ 0 ≤ v.toInt ∧ v.toInt ≤ (w 0 6).toInt
        generalize zl4 (fX7_livesByActs_13 E) f2' = Z1 at *
        generalize zl12 (fX8_plan_96 M s84) f = Z2 at *
        unfold fX7_livesByActs_13 fX8_plan_96
        have c20 : ¬ nI 20 ≤ nI t := by rw [nI_leI (by omega) (by omega)]; omega
        rw [k20, if_neg c20, if_neg c20, e_en0 k, ob1_s, if_pos rfl]
        by_cases ct : n ≤ t
        · have cn : nI n ≤ nI t := by rw [nI_leI (by omega) (by omega)]; omega
          rw [if_pos cn, if_pos cn]
          have q := step g s h FrG.rf FrS.rf
          rw [show n - (t + 1) = 0 by omega] at q
          rw [show n - t = 0 by omega]
          exact q
        · have cn : ¬ nI n ≤ nI t := by rw [nI_leI (by omega) (by omega)]; omega
          obtain ⟨d1, d2⟩ := div5 hn (show t < n by omega)
          rw [if_neg cn, if_neg cn, d1, dv_s d2, bun4, e_actIn hn (by omega), ob1_s, hEw]
          obtain ⟨u, s', a1, a2, a3, a4, a5, a6⟩ := ss_act hw (by omega) h (zrem (row / nI (5 ^ (n - (t + 1)))) 5)
          rw [a1, a2, ob1_s, ob1_s]
          exact step u s' a3 a5 a4
      · obtain ⟨g', b1, b2⟩ := ended_loop (s84 := s84) hw hn x2 x3 x4 x5 row (f + 1) t T g s hT h1 h2 h k
        refine ⟨lvs w s, g', s, ?_, b1, b2, FrS.rf, l0, l1⟩
        generalize zl4 (fX7_livesByActs_13 E) f2' = Z
        have c20 : ¬ nI 20 ≤ nI t := by rw [nI_leI (by omega) (by omega)]; omega
        unfold fX7_livesByActs_13 fX7_livesByActs_68
        rw [hEw, k20, if_neg c20, e_en1 k, ob1_s, if_neg (by decide), e_lives, ob1_s]
theorem cpy_out (c s : Nat → Int32) {k : Nat} (hk : 17 ≤ k) : cpy c s k = c k := by
  unfold cpy
  rw [ups_n _ _ _ _ (by omega), ups_n _ _ _ _ (by omega), ups_n _ _ _ _ (by omega), ups_n _ _ _ _ (by omega), ups_n _ _ _ _ (by omega), ups_n _ _ _ _ (by omega), ups_n _ _ _ _ (by omega), ups_n _ _ _ _ (by omega), ups_n _ _ _ _ (by omega), ups_n _ _ _ _ (by omega), ups_n _ _ _ _ (by omega), ups_n _ _ _ _ (by omega), ups_n _ _ _ _ (by omega), ups_n _ _ _ _ (by omega), ups_n _ _ _ _ (by omega), ups_n _ _ _ _ (by omega), ups_n _ _ _ _ (by omega)]
theorem cpy_same {c c' s : Nat → Int32} (h : ∀ k, 17 ≤ k → c k = c' k) : cpy c s = cpy c' s := by
  funext k
  by_cases q : k < 17
  · rw [cpy_at _ _ _ q, cpy_at _ _ _ q]
  · rw [cpy_out _ _ (by omega), cpy_out _ _ (by omega)]; exact h k (by omega)
/-- the lives of a row of acts, by the class -/
def VR (E : Nat → Nat → Int32) (n row : Nat) : Int32 × (Nat → Int32) := (zl4 (fX7_livesByActs_13 E) zFU (cpy (E 13) (E 12)) (nI n) (nI row) 0).getD (0, E 13)
theorem row_run {N : Nat} {E M : Nat → Nat → Int32} {K : Nat → Int32} {s84 : (Nat → Int32) → (Nat → Int32) → (Nat → Int32) → (Nat → Int32) → Int32 → Int32 → Int32 → Int32 → Int32 → Int32 → Option (Int32 × (Nat → Int32) × (Nat → Int32) × (Nat → Int32) × (Nat → Int32))} (hN : N < 1000) (h : zR N E M) (e : E 12 0 = 1) (hK : Kept K (M 0) (M 3 5)) {n : Nat} (hn : n ≤ 4) (row : Nat) (x2 x3 x4 x5 : Int32) (g c : Nat → Int32) (hg : GR (M 0) g) (hc : ∀ k, 17 ≤ k → c k = E 13 k) : fX7_livesByActs (ups E 13 c) (nI n) (nI row) = some (VR E n row) ∧ (∀ k, 17 ≤ k → (VR E n row).2 k = E 13 k) ∧ 0 ≤ (VR E n row).1.toInt ∧ (VR E n row).1.toInt ≤ (E 3 6).toInt ∧ ∃ u : Nat → Int32, RST (M 0) u ∧ zl12 (fX8_plan_96 M s84) zFU g (M 3) (M 9) K (nI n) x2 x3 x4 x5 (nI row) (nI (5 ^ n)) 0 = (if (VR E n row).1 ≤ x5 then s84 u (M 3) (M 9) K (nI n) x2 x3 x4 x5 (nI (row + 1)) else s84 u (M 3) (M 9) K (nI n) x2 x3 (nI row) (VR E n row).1 (nI (row + 1))) := by
  have hs := zR_SS h e
  have hw := h.2.1
  have hid := h.2.2.2.2.1.2.2.2.2.2.1
  have ho := hs.2.2.2.2.1
  have hcp := e_cpy c (s := E 12) (Or.inr e) ho.2.2.2.2.2.2.2.2.2.1 (Or.inl hid.1)
  have s1 : SS (100 * N) (ups (ups (ups M 3 (M 3)) 11 K) 0 g) (sh 3 E) (cpy (E 13) (E 12)) := (GR.ss (K := K) hs hid hg).ext (cpy_at (E 13) (E 12))
  obtain ⟨v, g', s', b1, b2, b3, b4, b5, b6⟩ := lives_loop (E := E) (s84 := s84) rfl hw hn x2 x3 x4 x5 (nI row) zFU zFU 0 (100 * N) g _ (by omega) (by omega) (by unfold zFU; omega) (by unfold zFU; omega) s1
  rw [nI_0] at b1 b2
  have eV : VR E n row = (v, s') := by unfold VR; rw [b1]; rfl
  rw [eV]
  refine ⟨?_, ?_, b5, b6, ?_⟩
  · unfold fX7_livesByActs
    have x13 : (ups E 13 c) 13 = c := rfl
    have x12 : (ups E 13 c) 12 = E 12 := rfl
    rw [x13, x12, hcp, ob1_s, la13, cpy_same hc, b1]
  · intro k hk
    exact (b4 k (by omega)).trans (cpy_out _ _ hk)
  · have kf : ∀ k, k < 13 ∨ k = 28 ∨ k = 31 → g' k = M 0 k := fun k hk => (b3 k (by omega)).trans (hg.k k hk)
    obtain ⟨u, z1, z2⟩ := again4 (d := M 3) hK kf (fun _ _ => rfl)
    refine ⟨u, z2, ?_⟩
    rw [Nat.sub_zero] at b2
    rw [b2]
    unfold FinP fX8_plan_155
    rw [z1, ob2_s, ob2_s, nI_1]
def FinM (M : Nat → Nat → Int32) (K : Nat → Int32) (n : Nat) (x2 : Int32) (u : Nat → Int32) (b : Nat) (m : Int32) : Option (Int32 × (Nat → Int32) × (Nat → Int32) × (Nat → Int32) × (Nat → Int32)) := if 0 ≤ x2 then zl7 (fX8_plan_177 M) zFU u (M 3) (M 9) K x2 (nI b) (nI n - 1) else some (m, u, M 3, M 9, K)
theorem rows_end {M : Nat → Nat → Int32} {K : Nat → Int32} (n : Nat) (x2 : Int32) (u : Nat → Int32) (b : Nat) (m : Int32) (R f : Nat) : zl10 (fX8_plan_84 M) (f + 1) u (M 3) (M 9) K (nI n) x2 (nI R) (nI b) m (nI R) = FinM M K n x2 u b m := by
  show fX8_plan_84 M (zl10 (fX8_plan_84 M) f) u (M 3) (M 9) K (nI n) x2 (nI R) (nI b) m (nI R) = _
  generalize zl10 (fX8_plan_84 M) f = Z
  unfold fX8_plan_84 FinM
  rw [if_pos (Int32.le_refl _)]
theorem rows_step {M : Nat → Nat → Int32} {K : Nat → Int32} (n : Nat) (x2 : Int32) (g : Nat → Int32) (b m : Int32) (R row f : Nat) (hR : R ≤ 625) (hr : row < R) : zl10 (fX8_plan_84 M) (f + 1) g (M 3) (M 9) K (nI n) x2 (nI R) b m (nI row) = zl12 (fX8_plan_96 M (zl10 (fX8_plan_84 M) f)) zFU g (M 3) (M 9) K (nI n) x2 (nI R) b m (nI row) (nI R) 0 := by
  show fX8_plan_84 M (zl10 (fX8_plan_84 M) f) g (M 3) (M 9) K (nI n) x2 (nI R) b m (nI row) = _
  generalize zl10 (fX8_plan_84 M) f = Z
  unfold fX8_plan_84
  rw [if_neg (by rw [nI_leI (by omega) (by omega)]; omega)]
theorem rows_full {N : Nat} {E M : Nat → Nat → Int32} {K : Nat → Int32} (hN : N < 1000) (h : zR N E M) (e : E 12 0 = 1) (hK : Kept K (M 0) (M 3 5)) {n : Nat} (hn : n ≤ 4) (hR : 5 ^ n ≤ 625) (x2 : Int32) (b : Nat) (m : Int32) (hm : (E 3 6).toInt ≤ m.toInt) : ∀ (f row : Nat) (g : Nat → Int32), row ≤ 5 ^ n → 5 ^ n < f + row → GR (M 0) g → (row = 5 ^ n → RST (M 0) g) → ∃ u : Nat → Int32, RST (M 0) u ∧ zl10 (fX8_plan_84 M) f g (M 3) (M 9) K (nI n) x2 (nI (5 ^ n)) (nI b) m (nI row) = FinM M K n x2 u b m := by
  intro f
  induction f with
  | zero => intro row g h1 h2 hg hr; omega
  | succ f ih =>
    intro row g h1 h2 hg hr
    by_cases c : row = 5 ^ n
    · rw [c]
      exact ⟨g, hr c, rows_end n x2 g b m (5 ^ n) f⟩
    · rw [rows_step n x2 g (nI b) m (5 ^ n) row f hR (by omega)]
      obtain ⟨a1, a2, a3, a4, u, a5, a6⟩ := row_run (s84 := zl10 (fX8_plan_84 M) f) hN h e hK hn row x2 (nI (5 ^ n)) (nI b) m g (E 13) hg (fun _ _ => rfl)
      rw [a6, if_pos (ile.mpr (by omega))]
      exact ih (row + 1) u (by omega) (by omega) (Or.inl a5) (fun _ => a5)
theorem rows_all {N : Nat} {E M : Nat → Nat → Int32} {K : Nat → Int32} (hN : N < 1000) (h : zR N E M) (e : E 12 0 = 1) (hK : Kept K (M 0) (M 3 5)) {n : Nat} (hn : n ≤ 4) (hR : 5 ^ n ≤ 625) (x2 : Int32) : ∀ (f row f2 b : Nat) (m : Int32) (g c : Nat → Int32), row ≤ 5 ^ n → 5 ^ n < f + row → 5 ^ n < f2 + row → GR (M 0) g → (row = 5 ^ n → RST (M 0) g) → (∀ k, 17 ≤ k → c k = E 13 k) → b < 700 → (m = (VR E n b).1 ∨ (row = 0 ∧ m = -1)) → ∃ (u c' : Nat → Int32) (b' : Nat), RST (M 0) u ∧ b' < 700 ∧ (∀ k, 17 ≤ k → c' k = E 13 k) ∧ zl10 (fX8_plan_84 M) f g (M 3) (M 9) K (nI n) x2 (nI (5 ^ n)) (nI b) m (nI row) = FinM M K n x2 u b' (VR E n b').1 ∧ zl7 (fX7_bestRowOfActs_25 E) f2 c (nI n) (nI (5 ^ n)) (E 3 6) (nI b) m (nI row) = some (nI b', c') := by
  have hpos : 0 < 5 ^ n := Nat.pos_of_ne_zero (by intro q; simp at q)
  have hcrew : 0 ≤ (E 3 6).toInt := h.2.1.2.2.2.2.2.1.1
  intro f
  induction f with
  | zero => intro row f2 b m g c h1 h2; omega
  | succ f ih =>
    intro row f2 b m g c h1 h2 h3 hg hr hc hb hm
    obtain ⟨f2', rfl⟩ : ∃ f2', f2 = f2' + 1 := ⟨f2 - 1, by omega⟩
    have eE : ∀ c b m t, zl7 (fX7_bestRowOfActs_25 E) (f2' + 1) c (nI n) (nI (5 ^ n)) (E 3 6) b m t = fX7_bestRowOfActs_25 E (zl7 (fX7_bestRowOfActs_25 E) f2') c (nI n) (nI (5 ^ n)) (E 3 6) b m t := fun _ _ _ _ => rfl
    rw [eE]
    by_cases cR : row = 5 ^ n
    · rcases hm with hm | ⟨hm, -⟩
      · refine ⟨g, c, b, hr cR, hb, hc, ?_, ?_⟩
        · rw [cR, hm]; exact rows_end n x2 g b _ (5 ^ n) f
        · generalize zl7 (fX7_bestRowOfActs_25 E) f2' = Z
          unfold fX7_bestRowOfActs_25
          rw [if_pos (by rw [cR]; exact Int32.le_refl _)]
      · omega
    · have cn : ¬ nI (5 ^ n) ≤ nI row := by rw [nI_leI (by omega) (by omega)]; omega
      by_cases cm : E 3 6 ≤ m
      · have hm' : m = (VR E n b).1 := by
          rcases hm with hm | ⟨-, hm⟩
          · exact hm
          · exfalso
            have := ile.mp cm
            rw [hm] at this
            have k1 : (-1 : Int32).toInt = -1 := rfl
            omega
        obtain ⟨u, z1, z2⟩ := rows_full hN h e hK hn hR x2 b m (ile.mp cm) (f + 1) row g h1 h2 hg hr
        refine ⟨u, c, b, z1, hb, hc, by rw [z2, hm'], ?_⟩
        generalize zl7 (fX7_bestRowOfActs_25 E) f2' = Z
        unfold fX7_bestRowOfActs_25
        rw [if_neg cn, if_pos cm]
      · rw [rows_step n x2 g (nI b) m (5 ^ n) row f hR (by omega)]
        obtain ⟨a1, a2, a3, a4, u, a5, a6⟩ := row_run (s84 := zl10 (fX8_plan_84 M) f) hN h e hK hn row x2 (nI (5 ^ n)) (nI b) m g c hg hc
        rw [a6]
        have i2 := fun b m g c => ih (row + 1) f2' b m g c (by omega) (by omega) (by omega)
        have hu : GR (M 0) u := Or.inl a5
        generalize zl7 (fX7_bestRowOfActs_25 E) f2' = Z1 at *
        generalize zl10 (fX8_plan_84 M) f = Z2 at *
        unfold fX7_bestRowOfActs_25 fX7_bestRowOfActs_61
        have eV : VR E n row = ((VR E n row).1, (VR E n row).2) := rfl
        rw [if_neg cn, if_neg cm, a1, eV, ob2_s, nI_1]
        by_cases cv : (VR E n row).1 ≤ m
        · rw [if_pos cv, if_pos cv]
          refine i2 b m u _ hu (fun _ => a5) a2 hb (Or.inl ?_)
          rcases hm with hm | ⟨-, hm⟩
          · exact hm
          · exfalso
            have := ile.mp cv
            rw [hm] at this
            have k1 : (-1 : Int32).toInt = -1 := rfl
            omega
        · rw [if_neg cv, if_neg cv]
          exact i2 row _ u _ hu (fun _ => a5) a2 (by omega) (Or.inl rfl)
theorem pow_loop {M : Nat → Nat → Int32} {K g : Nat → Int32} {n : Nat} (hn : n ≤ 4) (x2 : Int32) : ∀ (f t : Nat), t ≤ n → n < f + t → zl8 (fX8_plan_59 M) f g (M 3) (M 9) K (nI n) x2 (nI (5 ^ t)) (nI t) = zl10 (fX8_plan_84 M) zFU g (M 3) (M 9) K (nI n) x2 (nI (5 ^ n)) 0 (-1) 0 := by
  intro f
  induction f with
  | zero => intro t h1 h2; omega
  | succ f ih =>
    intro t h1 h2
    show fX8_plan_59 M (zl8 (fX8_plan_59 M) f) g (M 3) (M 9) K (nI n) x2 (nI (5 ^ t)) (nI t) = _
    have i2 := ih (t + 1)
    generalize zl8 (fX8_plan_59 M) f = Z at *
    unfold fX8_plan_59
    by_cases c : t = n
    · rw [if_pos (by rw [c]; exact Int32.le_refl _), c]
    · rw [if_neg (by rw [nI_leI (by omega) (by omega)]; omega), nI_1]
      have k5 : (5 : Int32) = nI 5 := rfl
      have : nI (5 ^ t) * 5 = nI (5 ^ (t + 1)) := by
        rw [k5, Nat.pow_succ]
        exact (Int32.ofNat_mul _ _).symm
      rw [this]
      exact i2 (by omega) (by omega)
theorem digit (b : Nat) (hb : b < 700) : nI b / 5 = nI (b / 5) ∧ zrem (nI b) 5 = nI (b % 5) := by
  have a1 : (nI b).toInt = b := nI_toInt (by omega)
  have k5 : (5 : Int32).toInt = 5 := rfl
  constructor
  · apply ieq.mpr
    rw [idv (by omega) (by decide), a1, k5, nI_toInt (by omega)]
    omega
  · apply ieq.mpr
    rw [irm (by omega) (by decide), a1, k5, nI_toInt (by omega)]
    omega
theorem digits {M : Nat → Nat → Int32} {K u : Nat → Int32} (i : Nat) (hi : i < 100) : ∀ (k f b : Nat), k < f → k < 100 → b < 700 → zl7 (fX8_plan_177 M) f u (M 3) (M 9) K (nI i) (nI b) (nI (i + k)) = some (nI (b / 5 ^ k % 5), u, M 3, M 9, K) := by
  intro k
  induction k with
  | zero =>
    intro f b h1 h2 h3
    obtain ⟨f', rfl⟩ : ∃ f', f = f' + 1 := ⟨f - 1, by omega⟩
    show fX8_plan_177 M (zl7 (fX8_plan_177 M) f') u (M 3) (M 9) K (nI i) (nI b) (nI (i + 0)) = _
    generalize zl7 (fX8_plan_177 M) f' = Z
    unfold fX8_plan_177
    rw [Nat.add_zero, if_pos (Int32.le_refl _), (digit b h3).2, Nat.pow_zero, Nat.div_one]
  | succ k ih =>
    intro f b h1 h2 h3
    obtain ⟨f', rfl⟩ : ∃ f', f = f' + 1 := ⟨f - 1, by omega⟩
    show fX8_plan_177 M (zl7 (fX8_plan_177 M) f') u (M 3) (M 9) K (nI i) (nI b) (nI (i + (k + 1))) = _
    have i2 := ih f' (b / 5) (by omega) (by omega) (by omega)
    generalize zl7 (fX8_plan_177 M) f' = Z at *
    unfold fX8_plan_177
    rw [if_neg (by rw [nI_leI (by omega) (by omega)]; omega), (digit b h3).1, ← Nat.add_assoc, nI_dn (by omega), i2, Nat.div_div_eq_div_mul]
    rw [Nat.pow_succ, Nat.mul_comm]
theorem sim_plan {n : Nat} {E M : Nat → Nat → Int32} (hn : n < 1000) (h : zR n E M) (a0 : Int32) (a1 : Int32) : ∃ (r : Int32) (c13 : Nat → Int32) (c28 : Nat → Int32) (d0 : Nat → Int32) (d3 : Nat → Int32) (d9 : Nat → Int32) (d11 : Nat → Int32), fX7_plan E a0 a1 = some (r, c13, c28) ∧ fX8_plan M a0 a1 = some (r, d0, d3, d9, d11) ∧ zR (n + 1) (ups (ups E 13 c13) 28 c28) (ups (ups (ups (ups M 0 d0) 3 d3) 9 d9) 11 d11) := by
  have ref : ∀ r : Int32, isRef r → fX7_plan E a0 a1 = some (r, E 13, rf1 (E 28) r) → fX8_plan M a0 a1 = some (r, M 0, M 3, rf1 (M 9) r, M 11) → ∃ (r : Int32) (c13 : Nat → Int32) (c28 : Nat → Int32) (d0 : Nat → Int32) (d3 : Nat → Int32) (d9 : Nat → Int32) (d11 : Nat → Int32), fX7_plan E a0 a1 = some (r, c13, c28) ∧ fX8_plan M a0 a1 = some (r, d0, d3, d9, d11) ∧ zR (n + 1) (ups (ups E 13 c13) 28 c28) (ups (ups (ups (ups M 0 d0) 3 d3) 9 d9) 11 d11) := fun r hr e1 e2 => ⟨r, _, _, _, _, _, _, e1, e2, by first | exact zR_ref h r | (simp only [ups_id]; exact zR_ref h r)⟩
  by_cases c1 : a0 < 0
  · exact ref (-4) r4 (by simp only [fX7_plan, fX7_plan_9, c1, ups_id, ob1_s, ob2_s, ob3_s, ob4_s, nm_s, ↓reduceIte, i10, e_ref _ r1, e_ref _ r2, e_ref _ r3, e_ref _ r4, e_ref _ r6, m_ref _ r1, m_ref _ r2, m_ref _ r3, m_ref _ r4, m_ref _ r6]) (by simp only [fX8_plan, fX8_plan_9, c1, ups_id, ob1_s, ob2_s, ob3_s, ob4_s, nm_s, ↓reduceIte, i10, e_ref _ r1, e_ref _ r2, e_ref _ r3, e_ref _ r4, e_ref _ r6, m_ref _ r1, m_ref _ r2, m_ref _ r3, m_ref _ r4, m_ref _ r6])
  · by_cases c2 : (-1 : Int32) ≤ a1
    · by_cases c3 : a0 ≤ 4
      · by_cases e : E 12 0 = 1
        · have hs := zR_SS h e
          have n0 : ¬ E 12 0 = 0 := by rw [e]; decide
          have m0 : ¬ M 0 12 = 0 := by rw [hs.2.2.2.2.2.2.2.2.2]; decide
          by_cases c4 : a1 < a0
          · have q1 : 0 ≤ a0.toInt := nn c1
            have q2 : a0.toInt ≤ (4 : Int) := ile.mp c3
            have q3 : (-1 : Int) ≤ a1.toInt := ile.mp c2
            have q4 : a1.toInt < a0.toInt := ilt.mp c4
            obtain ⟨A, hA, hA4⟩ : ∃ A : Nat, a0 = nI A ∧ A ≤ 4 := ⟨a0.toInt.toNat, nI_of' q1, by omega⟩
            have kA : (nI A).toInt = A := nI_toInt (by omega)
            subst hA
            have hR : 5 ^ A ≤ 625 := by
              have : A = 0 ∨ A = 1 ∨ A = 2 ∨ A = 3 ∨ A = 4 := by omega
              rcases this with r | r | r | r | r <;> rw [r] <;> decide
            have hpos : 0 < 5 ^ A := Nat.pos_of_ne_zero (by intro q; simp at q)
            obtain ⟨K, k1, k2⟩ := m_keep M
            obtain ⟨u, c', b, z1, z2, z3, z4, z5⟩ := rows_all hn h e k2 hA4 hR a1 zFU 0 zFU 0 (-1) (M 0) (E 13) (by omega) (by unfold zFU; omega) (by unfold zFU; omega) (Or.inr rfl) (fun q => absurd q.symm (by omega)) (fun _ _ => rfl) (by omega) (Or.inr ⟨rfl, rfl⟩)
            have pl := pow_loop (M := M) (K := K) (g := M 0) hA4 a1 zFU 0 (by omega) (by unfold zFU; omega)
            rw [nI_0] at z4 z5 pl
            rw [z4] at pl
            have l1 : nI (5 ^ 0) = (1 : Int32) := rfl
            rw [l1] at pl
            have eM : fX8_plan M (nI A) a1 = FinM M K A a1 u b (VR E A b).1 := by
              unfold fX8_plan
              rw [if_neg c1, if_pos c2, if_pos c3, if_neg m0, if_pos c4]
              simp only [ups_id]
              rw [k1, ob1_s, pl]
            have vR : fX7_valueAt 5 sROWS_OF_ACTS (nI A) = some (nI (5 ^ A)) := by
              have : A = 0 ∨ A = 1 ∨ A = 2 ∨ A = 3 ∨ A = 4 := by omega
              rcases this with r | r | r | r | r <;> rw [r] <;> rfl
            have bE : fX7_bestRowOfActs E (nI A) = some (nI b, c') := by
              unfold fX7_bestRowOfActs
              rw [vR, ob1_s, z5]
            by_cases c5 : 0 ≤ a1
            · have q5 : (0 : Int) ≤ a1.toInt := ile.mp c5
              obtain ⟨I, hI, hI4⟩ : ∃ I : Nat, a1 = nI I ∧ I < A := ⟨a1.toInt.toNat, nI_of' q5, by omega⟩
              subst hI
              have eR : fX7_actInRow (nI A) (nI b) (nI I) = some (nI (b / 5 ^ (A - (I + 1)) % 5)) := by
                rw [e_actIn hA4 hI4]
                have t1 : (nI b).toInt = b := nI_toInt (by omega)
                have t2 : 5 ^ (A - (I + 1)) ≤ 625 ∧ 0 < 5 ^ (A - (I + 1)) := by
                  have : A - (I + 1) = 0 ∨ A - (I + 1) = 1 ∨ A - (I + 1) = 2 ∨ A - (I + 1) = 3 := by omega
                  rcases this with r | r | r | r <;> rw [r] <;> decide
                generalize 5 ^ (A - (I + 1)) = D at *
                have t3 : (nI D).toInt = D := nI_toInt (by omega)
                have t4 : b / D ≤ b := Nat.div_le_self _ _
                have t5 : nI b / nI D = nI (b / D) := by
                  apply ieq.mpr
                  rw [idv (by omega) (by omega), t1, t3, nI_toInt (by omega)]
                  exact (Int.natCast_ediv b D).symm
                rw [t5, (digit (b / D) (by omega)).2]
              have e1 : fX7_plan E (nI A) (nI I) = some (nI (b / 5 ^ (A - (I + 1)) % 5), c', E 28) := by
                unfold fX7_plan
                rw [if_neg c1, if_pos c2, if_pos c3, if_neg n0, if_pos c4]
                simp only [ups_id]
                rw [bE, ob2_s, if_pos c5, eR, ob1_s]
              have e2 : fX8_plan M (nI A) (nI I) = some (nI (b / 5 ^ (A - (I + 1)) % 5), u, M 3, M 9, K) := by
                rw [eM]
                unfold FinM
                rw [if_pos c5]
                have t6 : nI A - 1 = nI (I + (A - (I + 1))) := by
                  apply ieq.mpr
                  have k1 : (1 : Int32).toInt = 1 := rfl
                  have k2 : (nI (I + (A - (I + 1)))).toInt = ((I + (A - (I + 1)) : Nat) : Int) := nI_toInt (by omega)
                  rw [is' (by omega) (by omega), k2]
                  omega
                rw [t6]
                exact digits I (by omega) (A - (I + 1)) zFU b (by unfold zFU; omega) (by omega) z2
              refine ⟨_, _, _, _, _, _, _, e1, e2, ?_⟩
              rw [ups_idn (by decide), ups_idn (by decide), ups_idn (by decide)]
              exact zR_mind h e z1
            · obtain ⟨a1', a2', -⟩ := row_run (s84 := fun _ _ _ _ _ _ _ _ _ _ => none) hn h e k2 hA4 b 0 0 0 0 (M 0) c' (Or.inr rfl) z3
              have e1 : fX7_plan E (nI A) a1 = some ((VR E A b).1, (VR E A b).2, E 28) := by
                unfold fX7_plan
                rw [if_neg c1, if_pos c2, if_pos c3, if_neg n0, if_pos c4]
                simp only [ups_id]
                have x28 : ups (ups E 13 c') 28 (E 28) = ups E 13 c' := ups_idn (by decide)
                rw [bE, ob2_s, if_neg c5, x28, a1']
                rfl
              have e2 : fX8_plan M (nI A) a1 = some ((VR E A b).1, u, M 3, M 9, K) := by
                rw [eM]
                unfold FinM
                rw [if_neg c5]
              refine ⟨_, _, _, _, _, _, _, e1, e2, ?_⟩
              rw [ups_idn (by decide), ups_idn (by decide), ups_idn (by decide)]
              exact zR_mind h e z1
          · have e1 : fX7_plan E a0 a1 = some (-9, E 13, E 28) := by
              unfold fX7_plan
              rw [if_neg c1, if_pos c2, if_pos c3, if_neg n0, if_neg c4]
            have e2 : fX8_plan M a0 a1 = some (-9, M 0, M 3, M 9, M 11) := by
              unfold fX8_plan
              rw [if_neg c1, if_pos c2, if_pos c3, if_neg m0, if_neg c4]
            refine ⟨_, _, _, _, _, _, _, e1, e2, ?_⟩
            simp only [ups_id]
            exact zR_mono h
        · have e0 : E 12 0 = 0 := h.2.2.2.2.1.2.1.resolve_right e
          have m0 : M 0 12 = 0 := h.2.2.2.2.1.1.trans e0
          exact ref (-3) r3 (by simp only [fX7_plan, c1, c2, c3, e0, ups_id, ob1_s, ob2_s, ob3_s, ob4_s, nm_s, ↓reduceIte, i10, e_ref _ r1, e_ref _ r2, e_ref _ r3, e_ref _ r4, e_ref _ r6, m_ref _ r1, m_ref _ r2, m_ref _ r3, m_ref _ r4, m_ref _ r6]) (by simp only [fX8_plan, c1, c2, c3, m0, ups_id, ob1_s, ob2_s, ob3_s, ob4_s, nm_s, ↓reduceIte, i10, e_ref _ r1, e_ref _ r2, e_ref _ r3, e_ref _ r4, e_ref _ r6, m_ref _ r1, m_ref _ r2, m_ref _ r3, m_ref _ r4, m_ref _ r6])
      · exact ref (-6) r6 (by simp only [fX7_plan, c1, c2, c3, ups_id, ob1_s, ob2_s, ob3_s, ob4_s, nm_s, ↓reduceIte, i10, e_ref _ r1, e_ref _ r2, e_ref _ r3, e_ref _ r4, e_ref _ r6, m_ref _ r1, m_ref _ r2, m_ref _ r3, m_ref _ r4, m_ref _ r6]) (by simp only [fX8_plan, c1, c2, c3, ups_id, ob1_s, ob2_s, ob3_s, ob4_s, nm_s, ↓reduceIte, i10, e_ref _ r1, e_ref _ r2, e_ref _ r3, e_ref _ r4, e_ref _ r6, m_ref _ r1, m_ref _ r2, m_ref _ r3, m_ref _ r4, m_ref _ r6])
    · exact ref (-4) r4 (by simp only [fX7_plan, fX7_plan_9, c1, c2, ups_id, ob1_s, ob2_s, ob3_s, ob4_s, nm_s, ↓reduceIte, i10, e_ref _ r1, e_ref _ r2, e_ref _ r3, e_ref _ r4, e_ref _ r6, m_ref _ r1, m_ref _ r2, m_ref _ r3, m_ref _ r4, m_ref _ r6]) (by simp only [fX8_plan, fX8_plan_9, c1, c2, ups_id, ob1_s, ob2_s, ob3_s, ob4_s, nm_s, ↓reduceIte, i10, e_ref _ r1, e_ref _ r2, e_ref _ r3, e_ref _ r4, e_ref _ r6, m_ref _ r1, m_ref _ r2, m_ref _ r3, m_ref _ r4, m_ref _ r6])
