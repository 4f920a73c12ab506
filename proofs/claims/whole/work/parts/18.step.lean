/-- a ten: the two readings go on alike -/
theorem s_step {m w : Nat → Nat → Int32} {s : Nat → Int32} (hw : OW w) (hr : RW m w) (hf : RF (m 0) s) (hm : RM (m 0) s) (hg : RGn m w s) (ho : OS w s) (htb : TB s) (ht : (s 9).toInt < 2147483647) : ∃ u s' : Nat → Int32, fX8_step m = some u ∧ fX5_passTen s w = some s' ∧ RF u s' ∧ OS w s' ∧ TB s' ∧ s' 9 = s 9 + 1 ∧ GrE s s' ∧ GrM (m 0) u ∧ K4 s s' := by
  have hr0 : RW (ups m 0 (m 0)) w := hr
  unfold fX8_step fX5_passTen
  rcases en_cases ho with hk | hk
  · have hD : D8 (wnd s w) := wnd_r hm ht
    have e21 : m 0 21 = s 9 := hf.2.2.2.2.2.2.2.2.1
    have e22 : m 0 22 = s 10 := hf.2.2.2.2.2.2.2.2.2.1
    have hwm : fX8_wind_ (ups m 0 (m 0)) (m 0 21) = some (wnd s w) := by rw [e21]; exact m_wndAt hw hr0 (show RM ((ups m 0 (m 0)) 0) s from hm) ht
    rw [m_en0 (show (ups m 0 (m 0) 0 22).toInt ≤ 4 by show (m 0 22).toInt ≤ 4; rw [e22]; exact hk), e_en0 hk, ob1_s, ob1_s, if_pos rfl, if_pos rfl, hwm, ob1_s, m_lee hD, e22]
    by_cases c4 : s 10 = 4
    · rw [if_pos c4, if_pos c4]
      unfold fX5_passTen_24
      rw [if_pos c4]
      have hc := ho.2.2.2.2.2.2.2.2.2.2.2 hk
      have e13 : m 0 13 = s 1 := hf.1
      have e16 : m 0 16 = s 4 := hf.2.2.2.1
      have q0 : m 3 ((0 : Int32)).toNatClampNeg = w 0 3 := hr.2.2.2.2.2.2.2.2.2.1
      have hb : m 1 = w 2 := hr.2.2.2.2.1
      have hti : fX8_tide_ (ups m 0 (m 0)) (m 0 21) = some (tid w (s 9)) := by rw [e21]; exact m_tid hw hr0 _
      have hte : fX5_tideIn s w = some (tid w (s 9)) := by unfold fX5_tideIn; rw [e_tid hw, ob1_s]
      rw [gd_s (by rw [e13]; exact cell_in hw.1 hc), hti, ob1_s, q0, e13, e16, hb]
      unfold fX5_strainAtAnchor
      have hh : fX7_holdOf (w 2 (s 1).toNatClampNeg) (tid w (s 9)) = some (2 * zmin 9 (w 2 (s 1).toNatClampNeg + tid w (s 9)) + 3) := rfl
      have hl : fX7_loadOf (w 0 3) (s 4) = some (2 * w 0 3 + s 4) := rfl
      rw [e_ground hw.1 hc, ob1_s, hte, ob1_s, hh, ob1_s, hl, ob1_s]
      by_cases cl : 2 * w 0 3 + s 4 ≤ 2 * zmin 9 (w 2 (s 1).toNatClampNeg + tid w (s 9)) + 3
      · rw [if_pos cl, if_pos cl, ob1_s]
        exact tail hw hr0 hf ho htb hD 0
      · rw [if_neg cl, if_neg cl, e_wnd hw, ob1_s, e_lee, ob1_s]
        obtain ⟨g1, s1, a1, a2, a3, a4, a5, a6, a9⟩ := s_go (m := m) (g := m 0) (d := lee (wnd s w)) hw hr0 hf ho hk (lee_r _)
        rw [a1, a2, ob1_s, ob1_s, ob1_s]
        have fr1 : FrE s s1 := fun k p1 p2 p3 p4 p5 p6 p7 => a5 k p1 p5 p6 p7
        have fr2 : FrM (m 0) g1 := fun k p1 p2 p3 p4 p5 p6 p7 => a6 k p1 p5 p6 p7
        have tb1 : TB s1 := fun h => by
          rw [a5 7 (by decide) (by decide) (by decide) (by decide), a5 8 (by decide) (by decide) (by decide) (by decide)]
          exact htb hk
        have hwn := fr1.wn w
        obtain ⟨g', s', b1, b2, b3, b4, b5, b6, b7, b8, b9⟩ := tail (m := m) hw (fr2.rw hr0) a3 a4 tb1 (by rw [hwn]; exact hD) 0
        rw [hwn] at b1
        exact ⟨g', s', b1, b2, b3, b4, b5, b6.trans (by rw [a5 9 (by decide) (by decide) (by decide) (by decide)]), fr1.gr.tr b7, fr2.gr.tr b8, fun q => a9 (b9 q)⟩
    · rw [if_neg c4, if_neg c4]
      unfold fX5_paceIn
      have hap : fX7_apart (s 2) (wnd s w) = some (zap (s 2) (wnd s w)) := rfl
      have e14 : m 0 14 = s 2 := hf.2.1
      have e15 : m 0 15 = s 3 := hf.2.2.1
      have e16 : m 0 16 = s 4 := hf.2.2.2.1
      have q4 : m 3 ((4 : Int32)).toNatClampNeg = w 0 7 := hr.2.2.2.2.2.2.2.2.2.2.2.2.2.1
      rw [e14, m_apart ho.1 hD, ob1_s, e_wnd hw, ob1_s, hap, ob1_s, q4, e15, e16]
      have fin : ∀ P : Int32, Rng P 0 15 → ∃ u s' : Nat → Int32, fX8_step_122 m (m 0) (wnd s w) (lee (wnd s w)) P = some u ∧ ob1 (some P) (fun r4 => fX5_passTen_24 w s r4) = some s' ∧ RF u s' ∧ OS w s' ∧ TB s' ∧ s' 9 = s 9 + 1 ∧ GrE s s' ∧ GrM (m 0) u ∧ K4 s s' := fun P hP => by
        obtain ⟨g1, s1, a1, a2, a3, a4, a5, a6, a7, a8, a9⟩ := course (m := m) (g := m 0) hw hr0 hf ho hg hk htb hP
        rw [a1, ob1_s]
        unfold fX5_passTen_24
        rw [if_neg c4, a2, ob1_s]
        have hwn := a5.wn w
        obtain ⟨g', s', b1, b2, b3, b4, b5, b6, b7, b8, b9⟩ := tail (m := m) hw (a6.rw hr0) a3 a4 a8 (by rw [hwn]; exact hD) P
        rw [hwn] at b1
        exact ⟨g', s', b1, b2, b3, b4, b5, b6.trans (by rw [a5 9 (by decide) (by decide) (by decide) (by decide) (by decide) (by decide) (by decide)]), a5.gr.tr b7, a6.gr.tr b8, fun q => a9 (b9 q)⟩
      have hz := zap_r ho.1 hD
      by_cases cn : zap (s 2) (wnd s w) < w 0 7
      · have cn' : ¬ w 0 7 ≤ zap (s 2) (wnd s w) := Int32.not_le.mpr cn
        rw [if_pos cn, if_neg cn']
        exact fin 0 ⟨by decide, by decide⟩
      · have cn' : w 0 7 ≤ zap (s 2) (wnd s w) := Int32.not_lt.mp cn
        rw [if_neg cn, if_pos cn']
        refine fin _ ?_
        have o3 := ho.2.1
        have o4 := ho.2.2.1
        have k1 : (1 : Int32).toInt = 1 := rfl
        have h1 : (zap (s 2) (wnd s w) + 1).toInt = (zap (s 2) (wnd s w)).toInt + 1 := by rw [ia] <;> omega
        have h2 : (zmin (s 3) (s 4)).toInt = min (s 3).toInt (s 4).toInt := zmin_i _ _
        have h3 : 0 ≤ (zmin (s 3) (s 4)).toInt ∧ (zmin (s 3) (s 4)).toInt ≤ 3 := by rw [h2]; obtain ⟨p1, p2⟩ := o3; obtain ⟨p3, p4⟩ := o4; omega
        have h4 : (zmin (s 3) (s 4)).toInt * (zap (s 2) (wnd s w) + 1).toInt ≤ 3 * 5 := Int.mul_le_mul h3.2 (by omega) (by omega) (by omega)
        have h5 : 0 ≤ (zmin (s 3) (s 4)).toInt * (zap (s 2) (wnd s w) + 1).toInt := Int.mul_nonneg h3.1 (by omega)
        unfold Rng
        rw [im (by omega) (by omega)]
        exact ⟨h5, h4⟩
  · rw [m_en1 (show 4 < (ups m 0 (m 0) 0 22).toInt by show 4 < (m 0 22).toInt; rw [hf.2.2.2.2.2.2.2.2.2.1]; have := hk.1; omega), e_en1 hk, ob1_s, ob1_s, if_neg (by decide), if_neg (by decide)]
    exact ten_end hf ho htb
