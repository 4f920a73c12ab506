/-! the world round the ship: what both readings have of it -/
def Rng (x : Int32) (a b : Int) : Prop := a ≤ x.toInt ∧ x.toInt ≤ b
def Gr (x : Int32) : Prop := x = 0 ∨ x = 30 ∨ Rng x 1 20
def RDim (R C : Int32) : Prop := (R = 0 ∧ C = 0) ∨ (Rng R 2 8 ∧ Rng C 2 8)
/-- one half of a book, with its first i rows: when, and what -/
def latp (t v : Nat → Int32) (x : Int32) : Nat → Int32 × Int32
  | 0 => (0, 0)
  | i + 1 => if x < t i then latp t v x i else if t i < (latp t v x i).1 then latp t v x i else (t i, v i)
def latq (t v : Nat → Int32) (x : Int32) : Nat → Int32 × Int32
  | 0 => (-1, 0)
  | i + 1 => if x < t i then latq t v x i else if t i < (latq t v x i).1 then latq t v x i else (t i, v i)
theorem latq_p {t v : Nat → Int32} (ht : ∀ i, 0 ≤ (t i).toInt) (x : Int32) : ∀ i, (latq t v x i).2 = (latp t v x i).2 ∧ ((latq t v x i).1 = (latp t v x i).1 ∨ ((latq t v x i).1 = -1 ∧ (latp t v x i).1 = 0)) := by
  intro i
  induction i with
  | zero => exact ⟨rfl, Or.inr ⟨rfl, rfl⟩⟩
  | succ i ih =>
    obtain ⟨h1, h2⟩ := ih
    unfold latq latp
    by_cases c : x < t i
    · rw [if_pos c, if_pos c]; exact ⟨h1, h2⟩
    · rw [if_neg c, if_neg c]
      have key : t i < (latq t v x i).1 ↔ t i < (latp t v x i).1 := by
        rcases h2 with h2 | ⟨h2, h3⟩
        · rw [h2]
        · rw [h2, h3]
          have := ht i
          constructor
          · intro h; have := ilt.mp h; simp at this; omega
          · intro h; have := ilt.mp h; simp at this; omega
      by_cases d : t i < (latp t v x i).1
      · rw [if_pos d, if_pos (key.mpr d)]; exact ⟨h1, h2⟩
      · rw [if_neg d, if_neg (mt key.mp d)]; exact ⟨rfl, Or.inl rfl⟩
theorem latp_in {P : Int32 → Prop} {t v : Nat → Int32} (h0 : P 0) (h : ∀ i, P (v i)) (x : Int32) : ∀ i, P (latp t v x i).2 := by
  intro i
  induction i with
  | zero => exact h0
  | succ i ih =>
    unfold latp
    by_cases c : x < t i
    · rw [if_pos c]; exact ih
    · rw [if_neg c]
      by_cases d : t i < (latp t v x i).1
      · rw [if_pos d]; exact ih
      · rw [if_neg d]; exact h i
def lat (n : Int32) (t v : Nat → Int32) (x : Int32) : Int32 := (latp t v x n.toInt.toNat).2
theorem nI_of' {n : Int32} (h0 : 0 ≤ n.toInt) : n = nI n.toInt.toNat := by
  have h := n.toInt_lt
  simp at h
  apply ieq.mpr
  rw [nI_toInt (by omega)]; omega
theorem lat_loop {n : Int32} (hn : Rng n 0 8) (t v : Nat → Int32) (x : Int32) (B : (Int32 → Int32 → Int32 → Int32 → Option Int32) → Int32 → Int32 → Int32 → Int32 → Option Int32) (f : Nat → Int32 × Int32) (K : Int32 → Option Int32)
    (hB : ∀ s x1 x2 x3 x4, B s x1 x2 x3 x4 = (if n ≤ x4 then K x3 else (gd x4 8 (if x1 < t x4.toNatClampNeg then s x1 x2 x3 (x4 + 1) else (gd x4 8 (if t x4.toNatClampNeg < x2 then s x1 x2 x3 (x4 + 1) else (gd x4 8 (gd x4 8 (s x1 (t x4.toNatClampNeg) (v x4.toNatClampNeg) (x4 + 1))))))))))
    (hf : ∀ i, f (i + 1) = if x < t i then f i else if t i < (f i).1 then f i else (t i, v i)) : ∀ (fuel i : Nat), i ≤ n.toInt.toNat → n.toInt.toNat < fuel + i → zl4 B fuel x (f i).1 (f i).2 (nI i) = K (f n.toInt.toNat).2 := by
  obtain ⟨hn0, hn8⟩ := hn
  intro fuel
  induction fuel with
  | zero => intro i h1 h2; omega
  | succ k ih =>
    intro i h1 h2
    show B (zl4 B k) x (f i).1 (f i).2 (nI i) = _
    rw [hB]
    by_cases c : i = n.toInt.toNat
    · rw [if_pos (by rw [nI_of' hn0, nI_leI (by omega) (by omega)]; omega), c]
    · rw [if_neg (by rw [nI_of' hn0, nI_leI (by omega) (by omega)]; omega)]
      have hi : vp_in (nI i) 8 := vp_in_nI (by omega) (by omega)
      have e1 : (nI i).toNatClampNeg = i := nI_clamp (by omega)
      rw [gd_s hi, gd_s hi, gd_s hi, gd_s hi, e1, nI_1]
      have e2 := ih (i + 1) (by omega) (by omega)
      rw [hf i] at e2
      by_cases d : x < t i
      · rw [if_pos d] at e2 ⊢; exact e2
      · rw [if_neg d] at e2 ⊢
        by_cases d2 : t i < (f i).1
        · rw [if_pos d2] at e2 ⊢; exact e2
        · rw [if_neg d2] at e2 ⊢; exact e2
theorem e_lat (b : Nat → Nat → Int32) (hn : Rng (b 0 2) 0 8) (x : Int32) : fX0_latestAt b x = some (lat (b 0 2) (b 1) (b 2) x) := by
  have h := lat_loop hn (b 1) (b 2) x (fX0_latestAt_7 b) (latp (b 1) (b 2) x) some (fun s x1 x2 x3 x4 => by
    unfold fX0_latestAt_7 fX0_latestAt_74
    obtain ⟨h0, h8⟩ := hn
    by_cases c : b 0 2 ≤ x4
    · rw [if_pos c, if_pos c]
    · rw [if_neg c, if_neg c]
      have c8 : ¬ (8 : Int32) ≤ x4 ∨ (8 : Int32) ≤ x4 := (Classical.em _).symm
      rcases c8 with c8 | c8
      · rw [if_neg c8, if_neg c8]
      · exact absurd (ile.mpr (Int.le_trans h8 (ile.mp c8))) c) (fun i => rfl) zFU 0 (Nat.zero_le _) (by unfold zFU; obtain ⟨h0, h8⟩ := hn; omega)
  exact h
theorem m_lat {n : Int32} (hn : Rng n 0 8) {t v : Nat → Int32} (ht : ∀ i, 0 ≤ (t i).toInt) (x : Int32) (B : (Int32 → Int32 → Int32 → Int32 → Option Int32) → Int32 → Int32 → Int32 → Int32 → Option Int32) (K : Int32 → Option Int32)
    (hB : ∀ s x1 x2 x3 x4, B s x1 x2 x3 x4 = (if n ≤ x4 then K x3 else (gd x4 8 (if x1 < t x4.toNatClampNeg then s x1 x2 x3 (x4 + 1) else (gd x4 8 (if t x4.toNatClampNeg < x2 then s x1 x2 x3 (x4 + 1) else (gd x4 8 (gd x4 8 (s x1 (t x4.toNatClampNeg) (v x4.toNatClampNeg) (x4 + 1)))))))))) : zl4 B zFU x (-1 : Int32) (0 : Int32) (0 : Int32) = K (lat n t v x) := by
  have h := lat_loop hn t v x B (latq t v x) K hB (fun i => rfl) zFU 0 (Nat.zero_le _) (by unfold zFU; obtain ⟨h0, h8⟩ := hn; omega)
  rw [(latq_p ht x n.toInt.toNat).1] at h
  exact h
/-- what holds of the world -/
def OW (w : Nat → Nat → Int32) : Prop := RDim (w 1 1) (w 1 2) ∧ (∀ i, Gr (w 2 i)) ∧ Rng (w 0 3) 0 9 ∧ Rng (w 0 4) 1 9 ∧ Rng (w 0 5) 0 9 ∧ Rng (w 0 6) 0 60 ∧ Rng (w 0 7) 1 3 ∧ Rng (w 0 8) 0 9 ∧ Rng (w 0 9) 0 99 ∧ Rng (w 3 2) 0 8 ∧ Rng (w 6 2) 0 8 ∧ (∀ i, Rng (w 4 i) 0 999) ∧ (∀ i, D8 (w 5 i)) ∧ (∀ i, Rng (w 7 i) 0 999) ∧ (∀ i, Rng (w 8 i) 0 5)
/-- the model's world is the class's (its guns apart) -/
def RW (m w : Nat → Nat → Int32) : Prop := m 0 0 = w 1 1 ∧ m 0 1 = w 1 2 ∧ m 0 6 = w 3 2 ∧ m 0 9 = w 6 2 ∧ m 1 = w 2 ∧ m 4 = w 4 ∧ m 5 = w 5 ∧ m 6 = w 7 ∧ m 7 = w 8 ∧ m 3 0 = w 0 3 ∧ m 3 1 = w 0 4 ∧ m 3 2 = w 0 5 ∧ m 3 3 = w 0 6 ∧ m 3 4 = w 0 7 ∧ m 3 6 = w 0 9
def tid (w : Nat → Nat → Int32) (x : Int32) : Int32 := lat (w 6 2) (w 7) (w 8) x
theorem tid_r {w : Nat → Nat → Int32} (hw : OW w) (x : Int32) : Rng (tid w x) 0 5 := latp_in (P := fun y => Rng y 0 5) ⟨by decide, by decide⟩ hw.2.2.2.2.2.2.2.2.2.2.2.2.2.2 x _
theorem e_tid {w : Nat → Nat → Int32} (hw : OW w) (x : Int32) : fX0_latestAt (sh 6 w) x = some (tid w x) := e_lat (sh 6 w) hw.2.2.2.2.2.2.2.2.2.2.1 x
theorem m_tid {m w : Nat → Nat → Int32} (hw : OW w) (hr : RW m w) (x : Int32) : fX8_tide_ m x = some (tid w x) := by
  obtain ⟨r0, r1, r2, r3, r4, r5, r6, r7, r8, -⟩ := hr
  have := m_lat (v := w 8) hw.2.2.2.2.2.2.2.2.2.2.1 (fun i => (hw.2.2.2.2.2.2.2.2.2.2.2.2.2.1 i).1) x (fX8_tide__7 m) some (fun s x1 x2 x3 x4 => by
    unfold fX8_tide__7 fX8_tide__54
    rw [r3, r7, r8])
  exact this
/-- the wind at a ten, by the book and the mind -/
def wndAt (s : Nat → Int32) (w : Nat → Nat → Int32) (x : Int32) : Int32 := if x < s 15 then (lat (w 3 2) (w 4) (w 5) x + s 14) &&& 7 else s 16
def wnd (s : Nat → Int32) (w : Nat → Nat → Int32) : Int32 := wndAt s w (s 9)
theorem e_wnd {s : Nat → Int32} {w : Nat → Nat → Int32} (hw : OW w) : fX5_windIn s w = some (wnd s w) := by
  unfold fX5_windIn wnd wndAt
  have h : fX0_latestAt (sh 3 w) (s 9) = some (lat (w 3 2) (w 4) (w 5) (s 9)) := e_lat (sh 3 w) hw.2.2.2.2.2.2.2.2.2.1 (s 9)
  by_cases c : s 9 < s 15
  · rw [if_pos c, if_pos c, h]; rfl
  · rw [if_neg c, if_neg c]
/-- the mind's own numbers in both -/
def RM (g s : Nat → Int32) : Prop := g 25 = s 14 ∧ D8 (s 14) ∧ (s 13 = 0 ∨ s 13 = 1) ∧ ((g 26 = -1 ∧ s 15 = 2147483647) ∨ (0 ≤ (s 15).toInt ∧ g 26 = s 15 ∧ g 27 = s 16 ∧ D8 (s 16)))
theorem d8_add {a b : Int32} (ha : D8 a) (hb : D8 b) : zrem (a + b) 8 = (a + b) &&& 7 := by
  rcases c8 ha.1 ha.2 with rfl | rfl | rfl | rfl | rfl | rfl | rfl | rfl <;> rcases c8 hb.1 hb.2 with rfl | rfl | rfl | rfl | rfl | rfl | rfl | rfl <;> decide
theorem m_wndAt {m w : Nat → Nat → Int32} {s : Nat → Int32} (hw : OW w) (hr : RW m w) (hm : RM (m 0) s) {x : Int32} (hx : x.toInt < 2147483647) : fX8_wind_ m x = some (wndAt s w x) := by
  obtain ⟨r0, r1, r2, r3, r4, r5, r6, r7, r8, -⟩ := hr
  obtain ⟨h25, hd, -, ht⟩ := hm
  have hl : D8 (lat (w 3 2) (w 4) (w 5) x) := latp_in (P := D8) (by unfold D8; decide) hw.2.2.2.2.2.2.2.2.2.2.2.2.1 x _
  have hb : fX8_wind__20 m x = some ((lat (w 3 2) (w 4) (w 5) x + s 14) &&& 7) := by
    have := m_lat (v := w 5) hw.2.2.2.2.2.2.2.2.2.1 (fun i => (hw.2.2.2.2.2.2.2.2.2.2.2.1 i).1) x (fX8_wind__27 m) (fun v => some (zrem (v + s 14) 8)) (fun s x1 x2 x3 x4 => by
      unfold fX8_wind__27 fX8_wind__74
      rw [r2, r5, r6, h25])
    rw [d8_add hl hd] at this
    exact this
  unfold fX8_wind_ wndAt
  rcases ht with ⟨h1, h2⟩ | ⟨h1, h2, h3, h4⟩
  · rw [if_pos (by rw [h1]; decide), if_pos (by rw [h2]; exact ilt.mpr (by simpa using hx)), hb]
  · rw [if_neg (by rw [h2]; intro h; have := ilt.mp h; simp at this; omega), h2]
    by_cases c : x < s 15
    · rw [if_pos c, if_pos c, hb]
    · rw [if_neg c, if_neg c, h3]
theorem wnd_r {s : Nat → Int32} {w : Nat → Nat → Int32} {g : Nat → Int32} (hm : RM g s) {x : Int32} (hx : x.toInt < 2147483647) : D8 (wndAt s w x) := by
  unfold wndAt
  by_cases c : x < s 15
  · rw [if_pos c]; exact and7 _
  · rw [if_neg c]
    rcases hm.2.2.2 with ⟨h1, h2⟩ | ⟨h1, h2, h3, h4⟩
    · exact absurd (by rw [h2]; exact ilt.mpr (by simpa using hx)) c
    · exact h4
/-- to leeward -/
def lee (d : Int32) : Int32 := (d + 4) &&& 7
theorem e_lee (d : Int32) : fX7_leeOf d = some (lee d) := rfl
theorem m_lee {d : Int32} (h : D8 d) : zrem (d + 4) 8 = lee d := by
  rcases c8 h.1 h.2 with rfl | rfl | rfl | rfl | rfl | rfl | rfl | rfl <;> decide
theorem lee_r (d : Int32) : D8 (lee d) := and7 _
theorem m_apart {a b : Int32} (ha : D8 a) (hb : D8 b) : fX8_apart a b = some (zap a b) := by
  rcases c8 ha.1 ha.2 with rfl | rfl | rfl | rfl | rfl | rfl | rfl | rfl <;> rcases c8 hb.1 hb.2 with rfl | rfl | rfl | rfl | rfl | rfl | rfl | rfl <;> decide
