/-! the end of a ten, and the whole of it -/
theorem en_end {w : Nat → Nat → Int32} {s : Nat → Int32} {k : Int32} : endE w s k 10 = k := by
  unfold endE
  rw [ups_n _ _ _ _ (by decide), ups_n _ _ _ _ (by decide), ups_s]
theorem ten_end {m w : Nat → Nat → Int32} {g s : Nat → Int32} (hf : RF g s) (ho : OS w s) (htb : TB s) : ∃ g' s' : Nat → Int32, fX8_step_333 m g = some g' ∧ fX5_passTen_80 w s = some s' ∧ RF g' s' ∧ OS w s' ∧ TB s' ∧ s' 9 = s 9 + 1 ∧ GrE s s' ∧ GrM g g' ∧ K4 s s' := by
  refine ⟨ups g 21 (g 21 + 1), ups s 9 (s 9 + 1), rfl, rfl, ?_, os_ten ho, ?_, ups_s _ _ _, fun k _ _ _ _ p5 _ _ _ => ups_n _ _ _ _ p5, fun k _ _ _ _ p5 _ _ _ => ups_n _ _ _ _ p5, fun q => by rw [ups_n _ _ _ _ (by decide)] at q; exact q⟩
  · rw [hf.2.2.2.2.2.2.2.2.1]; exact rf_ten hf
  · intro h
    rw [ups_n _ _ _ _ (by decide)] at h
    rw [ups_n _ _ _ _ (by decide), ups_n _ _ _ _ (by decide)]
    exact htb h
theorem tail {m w : Nat → Nat → Int32} {g s : Nat → Int32} (hw : OW w) (hr : RW (ups m 0 g) w) (hf : RF g s) (ho : OS w s) (htb : TB s) (hD : D8 (wnd s w)) (x3 : Int32) : ∃ g' s' : Nat → Int32, fX8_step_240 m g (wnd s w) x3 = some g' ∧ fX5_passTen_47 w s x3 = some s' ∧ RF g' s' ∧ OS w s' ∧ TB s' ∧ s' 9 = s 9 + 1 ∧ GrE s s' ∧ GrM g g' ∧ K4 s s' := by
  unfold fX8_step_240 fX5_passTen_47
  rcases en_cases ho with hk | hk
  · rw [m_en0 (show (ups m 0 g 0 22).toInt ≤ 4 by show (g 22).toInt ≤ 4; rw [hf.2.2.2.2.2.2.2.2.2.1]; exact hk), e_en0 hk, ob1_s, ob1_s, if_pos rfl, if_pos rfl]
    have q2 : m 3 ((2 : Int32)).toNatClampNeg = w 0 5 := hr.2.2.2.2.2.2.2.2.2.2.2.1
    have q3 : m 3 ((3 : Int32)).toNatClampNeg = w 0 6 := hr.2.2.2.2.2.2.2.2.2.2.2.2.1
    have e18 : g 18 = s 6 := hf.2.2.2.2.2.1
    rw [q2, q3, e18]
    unfold fX5_leak
    have hWr : 0 ≤ (zmax 0 (s 6 + w 0 5 - w 0 6 / 10)).toInt := by rw [zmax_i]; have : (0 : Int32).toInt = 0 := rfl; omega
    generalize zmax 0 (s 6 + w 0 5 - w 0 6 / 10) = X at *
    by_cases c : X < 100
    · rw [if_pos c, if_pos c, ob1_s]
      have hX : Rng X 0 100 := ⟨hWr, by have : X.toInt < 100 := ilt.mp c; omega⟩
      have hf1 := rf_water (x := X) hf
      have ho1 := os_water ho hX
      have hk1 : (ups s 6 X 10).toInt ≤ 4 := hk
      have htb1 : TB (ups s 6 X) := htb
      unfold fX5_passTen_59
      rw [e_en0 hk1, ob1_s, if_pos rfl]
      have e22 : g 22 = s 10 := hf.2.2.2.2.2.2.2.2.2.1
      have e22' : (ups s 6 X) 10 = s 10 := ups_n _ _ _ _ (by decide)
      rw [e22, e22']
      by_cases c4 : s 10 = 4
      · rw [if_pos c4, if_pos c4]
        obtain ⟨g', s', a1, a2, a3, a4, a5, a6, a7, a8, a9⟩ := ten_end (m := m) hf1 ho1 htb1
        exact ⟨g', s', a1, a2, a3, a4, a5, a6, fun k p1 p2 p3 p4 p5 p6 p7 p8 => (a7 k p1 p2 p3 p4 p5 p6 p7 p8).trans (ups_n _ _ _ _ p2), fun k p1 p2 p3 p4 p5 p6 p7 p8 => (a8 k p1 p2 p3 p4 p5 p6 p7 p8).trans (ups_n _ _ _ _ p2), fun q => by have q2 := a9 q; rw [ups_n _ _ _ _ (by decide)] at q2; exact q2⟩
      · rw [if_neg c4, if_neg c4]
        have fin : ∀ K : Int32, Rng K 0 1 → ∃ g' s' : Nat → Int32, fX8_step_333 m (ups (ups g 18 X) 22 K) = some g' ∧ fX5_passTen_80 w (ups (ups s 6 X) 10 K) = some s' ∧ RF g' s' ∧ OS w s' ∧ TB s' ∧ s' 9 = s 9 + 1 ∧ GrE s s' ∧ GrM g g' ∧ K4 s s' := fun K hK' => by
          have hK : Rng K 0 4 := ⟨hK'.1, by have := hK'.2; omega⟩
          obtain ⟨g', s', a1, a2, a3, a4, a5, a6, a7, a8, a9⟩ := ten_end (m := m) (rf_kind (x := K) hf1 hK.2) (os_kind ho1 hk1 hK) (fun _ => htb hk)
          exact ⟨g', s', a1, a2, a3, a4, a5, a6, fun k p1 p2 p3 p4 p5 p6 p7 p8 => (a7 k p1 p2 p3 p4 p5 p6 p7 p8).trans ((ups_n _ _ _ _ p6).trans (ups_n _ _ _ _ p2)), fun k p1 p2 p3 p4 p5 p6 p7 p8 => (a8 k p1 p2 p3 p4 p5 p6 p7 p8).trans ((ups_n _ _ _ _ p6).trans (ups_n _ _ _ _ p2)), fun q => by have q2 := a9 q; rw [ups_s] at q2; have := hK'.2; omega⟩
        unfold fX5_settleKind fX8_step_329 fX8_step_330 fX5_settleKind_25 fX5_settleKind_26
        have e14 : (ups g 18 X) 14 = s 2 := (ups_n _ _ _ _ (by decide)).trans hf.2.1
        have e14' : g 14 = s 2 := hf.2.1
        by_cases c0 : x3 ≤ 0
        · rw [if_pos c0, if_pos c0, ob1_s]
          exact fin 1 ⟨by decide, by decide⟩
        · rw [if_neg c0, if_neg c0]
          have hwn : fX5_windIn (ups s 6 X) w = some (wnd s w) := e_wnd hw
          have hap : fX7_apart ((ups s 6 X) 2) (wnd s w) = some (zap (s 2) (wnd s w)) := rfl
          rw [e14', m_apart ho.1 hD, hwn, ob1_s, ob1_s, hap, ob1_s]
          by_cases c2 : 2 ≤ zap (s 2) (wnd s w)
          · rw [if_pos c2, if_pos c2, ob1_s]
            exact fin 1 ⟨by decide, by decide⟩
          · rw [if_neg c2, if_neg c2, ob1_s]
            exact fin 0 ⟨by decide, by decide⟩
    · rw [if_neg c, if_neg c]
      have hf1 := rf_water (x := 100) hf
      have ho1 : OS w (ups s 6 100) := os_water ho ⟨by decide, by decide⟩
      have hme : fX8_end (ups m 0 (ups g 18 100)) 7 = some (endM w (ups g 18 100) 7) := m_end hw (show RW (ups m 0 (ups g 18 100)) w from hr) 7
      have ht : fX5_tideIn (ups s 6 100) w = some (tid w (s 9)) := by
        unfold fX5_tideIn
        rw [e_tid hw, ob1_s]
        rfl
      have hee : fX5_endAs (ups s 6 100) 7 (tid w (s 9)) (drk w (s 9)) = some (endE w (ups s 6 100) 7) := e_endAs (drk_r _ _)
      rw [hme, ob1_s, ht, ob1_s, e_dark, ob1_s, hee, ob1_s, ob1_s]
      unfold fX5_passTen_59
      have hk8 : Rng (endE w (ups s 6 100) 7 10) 5 8 := by rw [en_end]; exact ⟨by decide, by decide⟩
      rw [e_en1 hk8, ob1_s, if_neg (by decide)]
      obtain ⟨g', s', a1, a2, a3, a4, a5, a6, a7, a8, a9⟩ := ten_end (m := m) (rf_end0 (w := w) (k := 7) hf1) (os_end0 (k := 7) hw ho1 ⟨by decide, by decide⟩) (fun h => absurd h (by have := hk8.1; omega))
      refine ⟨g', s', a1, a2, a3, a4, a5, a6.trans ?_, fun k p1 p2 p3 p4 p5 p6 p7 p8 => (a7 k p1 p2 p3 p4 p5 p6 p7 p8).trans ?_, fun k p1 p2 p3 p4 p5 p6 p7 p8 => (a8 k p1 p2 p3 p4 p5 p6 p7 p8).trans ?_, fun q => by have q2 := a9 q; have := hk8.1; omega⟩
      · unfold endE; rw [ups_n _ _ _ _ (by decide), ups_n _ _ _ _ (by decide), ups_n _ _ _ _ (by decide), ups_n _ _ _ _ (by decide)]
      · unfold endE; rw [ups_n _ _ _ _ p8, ups_n _ _ _ _ p7, ups_n _ _ _ _ p6, ups_n _ _ _ _ p2]
      · unfold endM; rw [ups_n _ _ _ _ p8, ups_n _ _ _ _ p7, ups_n _ _ _ _ p6, ups_n _ _ _ _ p2]
  · rw [m_en1 (show 4 < (ups m 0 g 0 22).toInt by show 4 < (g 22).toInt; rw [hf.2.2.2.2.2.2.2.2.2.1]; have := hk.1; omega), e_en1 hk, ob1_s, ob1_s, if_neg (by decide), if_neg (by decide)]
    unfold fX5_passTen_59
    rw [e_en1 hk, ob1_s, if_neg (by decide)]
    exact ten_end hf ho htb
