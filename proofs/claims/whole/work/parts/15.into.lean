/-! into a cell -/
def RF (g s : Nat → Int32) : Prop := g 13 = s 1 ∧ g 14 = s 2 ∧ g 15 = s 3 ∧ g 16 = s 4 ∧ g 17 = s 5 ∧ g 18 = s 6 ∧ g 19 = s 7 ∧ g 20 = s 8 ∧ g 21 = s 9 ∧ g 22 = s 10 ∧ (4 < (s 10).toInt → g 23 = s 11 ∧ g 24 = s 12)
/-- a place: out of the bay, or a cell's number -/
def Plc (x : Int32) : Prop := Rng x (-9) 63 ∧ (x = -9 ∨ 0 ≤ x.toInt)
def OS (w : Nat → Nat → Int32) (s : Nat → Int32) : Prop := D8 (s 2) ∧ Rng (s 3) 0 3 ∧ Rng (s 4) 0 3 ∧ Rng (s 5) 0 2 ∧ Rng (s 6) 0 100 ∧ Rng (s 7) 0 100 ∧ Rng (s 8) 0 100 ∧ Rng (s 10) 0 8 ∧ Rng (s 11) 0 5 ∧ (s 12 = 0 ∨ s 12 = 1) ∧ Plc (s 1) ∧ ((s 10).toInt ≤ 4 → CellOk w (s 1))
theorem RW.root {m w : Nat → Nat → Int32} {u : Nat → Int32} (hr : RW m w) (h0 : u 0 = m 0 0) (h1 : u 1 = m 0 1) (h6 : u 6 = m 0 6) (h9 : u 9 = m 0 9) : RW (ups m 0 u) w := by
  obtain ⟨a0, a1, a2, a3, a4⟩ := hr
  exact ⟨h0.trans a0, h1.trans a1, h6.trans a2, h9.trans a3, a4⟩
theorem e_en0 {s : Nat → Int32} (h : (s 10).toInt ≤ 4) : fX5_isEnded s = some 0 := by
  have k : ∀ n : Int32, 4 < n.toInt → ¬ s 10 = n := fun n hn e => by rw [e] at h; omega
  unfold fX5_isEnded
  rw [if_neg (k 5 (by decide)), if_neg (k 6 (by decide)), if_neg (k 7 (by decide)), if_neg (k 8 (by decide))]
theorem e_en1 {s : Nat → Int32} (h : Rng (s 10) 5 8) : fX5_isEnded s = some 1 := by
  obtain ⟨h1, h2⟩ := h
  unfold fX5_isEnded
  by_cases c5 : s 10 = 5
  · rw [if_pos c5]
  · rw [if_neg c5]
    by_cases c6 : s 10 = 6
    · rw [if_pos c6]
    · rw [if_neg c6]
      by_cases c7 : s 10 = 7
      · rw [if_pos c7]
      · rw [if_neg c7]
        have a5 : ¬ (s 10).toInt = 5 := fun e => c5 (ieq.mpr e)
        have a6 : ¬ (s 10).toInt = 6 := fun e => c6 (ieq.mpr e)
        have a7 : ¬ (s 10).toInt = 7 := fun e => c7 (ieq.mpr e)
        have a8 : s 10 = 8 := ieq.mpr (by show (s 10).toInt = 8; omega)
        rw [if_pos a8]
theorem m_en0 {m : Nat → Nat → Int32} (h : (m 0 22).toInt ≤ 4) : fX8_ended m = some 0 := by
  unfold fX8_ended
  rw [if_pos (ile.mpr h)]
theorem m_en1 {m : Nat → Nat → Int32} (h : 4 < (m 0 22).toInt) : fX8_ended m = some 1 := by
  unfold fX8_ended
  rw [if_neg (fun c => by have : (m 0 22).toInt ≤ 4 := ile.mp c; omega)]
def drk (w : Nat → Nat → Int32) (x : Int32) : Int32 := if x < w 0 9 then 0 else 1
theorem drk_r (w : Nat → Nat → Int32) (x : Int32) : drk w x = 0 ∨ drk w x = 1 := by
  unfold drk
  by_cases c : x < w 0 9
  · rw [if_pos c]; exact Or.inl rfl
  · rw [if_neg c]; exact Or.inr rfl
theorem e_dark (w : Nat → Nat → Int32) (x : Int32) : fX6_isDarkAt w x = some (drk w x) := by
  unfold fX6_isDarkAt drk
  by_cases c : x < w 0 9
  · rw [if_pos c, if_pos c]
  · rw [if_neg c, if_neg c]
def endE (w : Nat → Nat → Int32) (s : Nat → Int32) (k : Int32) : Nat → Int32 := ups (ups (ups s 10 k) 11 (tid w (s 9))) 12 (drk w (s 9))
def endM (w : Nat → Nat → Int32) (g : Nat → Int32) (k : Int32) : Nat → Int32 := ups (ups (ups g 22 k) 23 (tid w (g 21))) 24 (drk w (g 21))
theorem m_end {m w : Nat → Nat → Int32} (hw : OW w) (hr : RW m w) (k : Int32) : fX8_end m k = some (endM w (m 0) k) := by
  unfold fX8_end
  rw [m_tid hw (show RW (ups m 0 (ups (m 0) 22 k)) w from hr), ob1_s]
  have h6 : m 3 ((6 : Int32)).toNatClampNeg = w 0 9 := hr.2.2.2.2.2.2.2.2.2.2.2.2.2.2
  rw [h6]
  unfold endM drk fX8_end_37
  by_cases c : m 0 21 < w 0 9
  · rw [if_pos c, if_pos c]; rfl
  · rw [if_neg c, if_neg c]; rfl
theorem e_endAs {s : Nat → Int32} {k t d : Int32} (hd : d = 0 ∨ d = 1) : fX5_endAs s k t d = some (ups (ups (ups s 10 k) 11 t) 12 d) := gz_s hd
theorem e_ground {w : Nat → Nat → Int32} (hd : RDim (w 1 1) (w 1 2)) {q : Int32} (hc : CellOk w q) : fX1_groundAt (sh 1 w) q = some (w 2 q.toNatClampNeg) := by
  unfold fX1_groundAt
  rw [if_neg (nn' hc.1), if_neg (fun c => by have : (64 : Int) ≤ q.toInt := ile.mp c; have := cell_64 hd hc; omega), gd_s (cell_in hd hc)]
  rfl
theorem s_into {m w : Nat → Nat → Int32} {s : Nat → Int32} {d : Int32} (hw : OW w) (hr : RW m w) (h13 : m 0 13 = s 1) (h21 : m 0 21 = s 9) (hc : CellOk w (s 1)) (hd : D8 d) : (∃ v, CellOk w v ∧ fX8_into m d = some (ups (m 0) 13 v) ∧ fX5_goInto s w d = some (ups s 1 v)) ∨ ∃ v k, Plc v ∧ Rng k 5 8 ∧ fX8_into m d = some (endM w (ups (m 0) 13 v) k) ∧ fX5_goInto s w d = some (endE w (ups s 1 v) k) := by
  have hdim := hw.1
  have hq := nbr_r hdim hc hd
  have e1 : fX1_beside (sh 1 w) (s 1) d = some (nbr (w 1 1) (w 1 2) (s 1) d) := e_beside hdim hc hd
  have e2 : fX8_beside (ups m 0 (m 0)) (m 0 13) d = some (if nbr (w 1 1) (w 1 2) (s 1) d = -1 then -9 else nbr (w 1 1) (w 1 2) (s 1) d) := by rw [h13]; exact m_beside (show RW (ups m 0 (m 0)) w from hr) hdim hc hd
  have hrv : ∀ v : Int32, RW (ups m 0 (ups (m 0) 13 v)) w := fun v => hr
  have hme : ∀ v k : Int32, fX8_end (ups m 0 (ups (m 0) 13 v)) k = some (endM w (ups (m 0) 13 v) k) := fun v k => m_end hw (hrv v) k
  have hee : ∀ v k : Int32, (ob1 (fX6_isDarkAt w ((ups s 1 v) 9)) (fun r => ob1 (fX5_endAs (ups s 1 v) k (tid w (s 9)) r) (fun u => some u))) = some (endE w (ups s 1 v) k) := fun v k => by
    rw [e_dark, ob1_s, e_endAs (drk_r _ _), ob1_s]; rfl
  unfold fX8_into fX5_goInto
  rw [e1, e2, ob1_s, ob1_s, e_tid hw]
  generalize nbr (w 1 1) (w 1 2) (s 1) d = q at *
  by_cases c1 : q = -1
  · right
    refine ⟨-9, 8, ⟨⟨by decide, by decide⟩, Or.inl rfl⟩, ⟨by decide, by decide⟩, ?_, ?_⟩
    · rw [if_pos c1, if_neg (by decide), hme, ob1_s]
    · have : fX1_groundAt (sh 1 w) q = some 0 := by rw [c1]; rfl
      rw [this, ob1_s, ob1_s, if_pos c1]
      unfold fX5_goInto_48
      rw [if_pos c1]
      exact hee (-9) 8
  · have hcq : CellOk w q := hq.resolve_left c1
    have h64 := cell_64 hdim hcq
    have hvr : Plc q := ⟨⟨by have := hcq.1; omega, by omega⟩, Or.inr hcq.1⟩
    rw [if_neg c1, e_ground hdim hcq, ob1_s, ob1_s, if_neg c1]
    unfold fX5_goInto_48 fX5_goInto_117
    rw [if_neg c1, if_pos (show (0 : Int32) ≤ q from ile.mpr hcq.1)]
    simp only [gd_s (cell_in hdim hcq)]
    have hb : m 1 = w 2 := hr.2.2.2.2.1
    have h1 : m 3 ((1 : Int32)).toNatClampNeg = w 0 4 := hr.2.2.2.2.2.2.2.2.2.2.1
    rw [hb, h1]
    by_cases c0 : w 2 q.toNatClampNeg = 0
    · right
      refine ⟨q, 6, hvr, ⟨by decide, by decide⟩, ?_, ?_⟩
      · rw [if_pos c0, hme, ob1_s]
      · rw [if_neg (by rw [c0]; decide), if_pos c0]
        exact hee q 6
    · by_cases c30 : w 2 q.toNatClampNeg = 30
      · right
        refine ⟨q, 5, hvr, ⟨by decide, by decide⟩, ?_, ?_⟩
        · rw [if_neg c0, if_pos c30, hme, ob1_s]
        · rw [if_pos c30]
          exact hee q 5
      · rw [if_neg c0, if_neg c30, if_neg c30, if_neg c0]
        have ht : fX8_tide_ (ups m 0 (ups (m 0) 13 q)) (m 0 21) = some (tid w (s 9)) := by rw [h21]; exact m_tid hw (hrv q) _
        rw [ht, ob1_s]
        by_cases c4 : w 0 4 ≤ w 2 q.toNatClampNeg + tid w (s 9)
        · left
          exact ⟨q, hcq, by rw [if_pos c4], by rw [if_pos c4]⟩
        · right
          refine ⟨q, 6, hvr, ⟨by decide, by decide⟩, ?_, ?_⟩
          · rw [if_neg c4, hme, ob1_s]
          · rw [if_neg c4]
            exact hee q 6
/-- the two after an end, or after a step into a cell, alike -/
theorem rf_mv {g s : Nat → Int32} {v : Int32} (hf : RF g s) (hk : (s 10).toInt ≤ 4) : RF (ups g 13 v) (ups s 1 v) := by
  obtain ⟨f1, f2, f3, f4, f5, f6, f7, f8, f9, f10, f11⟩ := hf
  unfold RF
  simp only [ups_at]
  simp
  exact ⟨f2, f3, f4, f5, f6, f7, f8, f9, f10, fun h => absurd h (by omega)⟩
theorem rf_end {w : Nat → Nat → Int32} {g s : Nat → Int32} {v k : Int32} (hf : RF g s) : RF (endM w (ups g 13 v) k) (endE w (ups s 1 v) k) := by
  obtain ⟨f1, f2, f3, f4, f5, f6, f7, f8, f9, f10, f11⟩ := hf
  unfold RF endM endE
  simp only [ups_at]
  simp
  rw [f9]
  exact ⟨f2, f3, f4, f5, f6, f7, f8, rfl, fun h => ⟨rfl, rfl⟩⟩
theorem os_mv {w : Nat → Nat → Int32} {s : Nat → Int32} {v : Int32} (hw : OW w) (ho : OS w s) (hv : CellOk w v) : OS w (ups s 1 v) := by
  obtain ⟨o2, o3, o4, o5, o6, o7, o8, o10, o11, o12, o1, oc⟩ := ho
  have hvr : Plc v := ⟨⟨by have := hv.1; omega, by have := cell_64 hw.1 hv; omega⟩, Or.inr hv.1⟩
  unfold OS
  simp only [ups_at]
  simp
  exact ⟨o2, o3, o4, o5, o6, o7, o8, o10, o11, o12, hvr, fun _ => hv⟩
theorem os_end {w : Nat → Nat → Int32} {s : Nat → Int32} {v k : Int32} (hw : OW w) (ho : OS w s) (hv : Plc v) (hkk : Rng k 5 8) : OS w (endE w (ups s 1 v) k) := by
  obtain ⟨o2, o3, o4, o5, o6, o7, o8, o10, o11, o12, o1, oc⟩ := ho
  have ht := tid_r hw (s 9)
  have hd := drk_r w (s 9)
  unfold OS endE
  simp only [ups_at]
  simp
  exact ⟨o2, o3, o4, o5, o6, o7, o8, ⟨by have := hkk.1; omega, hkk.2⟩, ht, hd, hv, fun h => absurd h (by have := hkk.1; omega)⟩
def K4 (s s' : Nat → Int32) : Prop := (s' 10).toInt = 4 → (s 10).toInt = 4
/-- into a cell: the two go on alike -/
theorem s_go {m w : Nat → Nat → Int32} {g s : Nat → Int32} {d : Int32} (hw : OW w) (hr : RW (ups m 0 g) w) (hf : RF g s) (ho : OS w s) (hk : (s 10).toInt ≤ 4) (hd : D8 d) : ∃ g' s' : Nat → Int32, fX8_into (ups m 0 g) d = some g' ∧ fX5_goInto s w d = some s' ∧ RF g' s' ∧ OS w s' ∧ (∀ k, k ≠ 1 → k ≠ 10 → k ≠ 11 → k ≠ 12 → s' k = s k) ∧ (∀ k, k ≠ 13 → k ≠ 22 → k ≠ 23 → k ≠ 24 → g' k = g k) ∧ K4 s s' := by
  rcases s_into hw hr (show ups m 0 g 0 13 = s 1 from hf.1) (show ups m 0 g 0 21 = s 9 from hf.2.2.2.2.2.2.2.2.1) (ho.2.2.2.2.2.2.2.2.2.2.2 hk) hd with ⟨v, hv, e1, e2⟩ | ⟨v, k, hv, hkk, e1, e2⟩
  · rw [ups_s] at e1
    exact ⟨ups g 13 v, ups s 1 v, e1, e2, rf_mv hf hk, os_mv hw ho hv, fun k h1 _ _ _ => ups_n _ _ _ _ h1, fun k h1 _ _ _ => ups_n _ _ _ _ h1, fun q => by rw [ups_n _ _ _ _ (by decide)] at q; exact q⟩
  · rw [ups_s] at e1
    refine ⟨endM w (ups g 13 v) k, endE w (ups s 1 v) k, e1, e2, rf_end hf, os_end hw ho hv hkk, ?_, ?_, ?_⟩
    · intro k h1 h2 h3 h4
      unfold endE
      rw [ups_n _ _ _ _ h4, ups_n _ _ _ _ h3, ups_n _ _ _ _ h2, ups_n _ _ _ _ h1]
    · intro k h1 h2 h3 h4
      unfold endM
      rw [ups_n _ _ _ _ h4, ups_n _ _ _ _ h3, ups_n _ _ _ _ h2, ups_n _ _ _ _ h1]
    · intro q
      unfold endE at q
      rw [ups_n _ _ _ _ (by decide), ups_n _ _ _ _ (by decide), ups_s] at q
      have := hkk.1
      omega
