/-! the two objects, after n calls -/
def Idle (s : Nat → Int32) : Prop := s 13 = 0 ∧ s 14 = 0 ∧ s 15 = 2147483647
def AN (s : Nat → Int32) : Prop := (s 10).toInt = 4 → 1 ≤ (s 5).toInt
def ShipR (g : Nat → Int32) (w : Nat → Nat → Int32) (s : Nat → Int32) : Prop := (s 0 = 1 → RF g s ∧ OS w s ∧ TB s ∧ AN s) ∧ (s 0 = 0 → s 9 = 0 ∧ g 21 = 0 ∧ (s 12 = 0 ∨ s 12 = 1))
def ImW (I : Nat → Int32) (w : Nat → Nat → Int32) : Prop := (∀ i, i < 64 → I i = w 2 i) ∧ I 64 = w 0 3 ∧ I 65 = w 0 4 ∧ I 66 = w 0 5 ∧ I 67 = w 0 6 ∧ I 68 = w 0 7 ∧ I 69 = w 0 8 ∧ I 70 = w 0 9 ∧ (∀ i, i < 8 → I (71 + i) = w 4 i ∧ I (79 + i) = w 5 i ∧ I (87 + i) = w 7 i ∧ I (95 + i) = w 8 i) ∧ I 103 = w 1 1 ∧ I 104 = w 1 2 ∧ I 105 = w 3 2 ∧ I 106 = w 6 2
def ImS (I : Nat → Int32) (w : Nat → Nat → Int32) (s : Nat → Int32) (n : Nat) : Prop := (I 107 = s 0 ∧ (I 119 = 0 ∨ I 119 = 1)) ∧ (s 0 = 0 ∨ s 0 = 1) ∧ (s 0 = 1 → I 108 = s 1 ∧ I 109 = s 2 ∧ I 110 = s 3 ∧ I 111 = s 4 ∧ I 112 = s 5 ∧ I 113 = s 6 ∧ I 114 = s 7 ∧ I 115 = s 8 ∧ I 117 = s 10 ∧ (4 < (s 10).toInt → I 118 = s 11 ∧ I 119 = s 12) ∧ OS w s ∧ TB s ∧ AN s) ∧ I 116 = s 9 ∧ (s 0 = 0 → s 9 = 0 ∧ (s 12 = 0 ∨ s 12 = 1)) ∧ Idle s ∧ Rng (s 9) 0 (100 * n)
def zR (n : Nat) (E M : Nat → Nat → Int32) : Prop :=
  RW M (sh 3 E) ∧ OW (sh 3 E) ∧ M 3 5 = E 3 8 ∧ (M 0 3 = E 1 1 ∧ Rng (E 1 1) 0 80 ∧ M 2 = E 2) ∧ (M 0 12 = E 12 0 ∧ (E 12 0 = 0 ∨ E 12 0 = 1) ∧ ShipR (M 0) (sh 3 E) (E 12) ∧ M 0 25 = 0 ∧ M 0 26 = -1 ∧ Idle (E 12) ∧ Rng (E 12 9) 0 (100 * n)) ∧ (M 0 28 = E 26 1 ∧ Rng (E 26 1) 0 12 ∧ M 8 = E 27) ∧ M 9 = E 28 ∧ (M 0 31 = E 0 9 ∧ (E 0 9 = 0 ∨ E 0 9 = 1)) ∧ OW (sh 14 E) ∧ (E 0 9 = 1 → ImW (M 10) (sh 14 E) ∧ ImS (M 10) (sh 14 E) (E 23) n)
theorem Rng.up {x : Int32} {n : Nat} (h : Rng x 0 (100 * n)) : Rng x 0 (100 * (n + 1 : Nat)) := ⟨h.1, by have := h.2; omega⟩
theorem ImS.up {I : Nat → Int32} {w : Nat → Nat → Int32} {s : Nat → Int32} {n : Nat} (h : ImS I w s n) : ImS I w s (n + 1) := by
  obtain ⟨a, b, c, d, e, f, g⟩ := h
  exact ⟨a, b, c, d, e, f, g.up⟩
theorem zR_mono {n : Nat} {E M : Nat → Nat → Int32} (h : zR n E M) : zR (n + 1) E M := by
  obtain ⟨h1, h2, h3, h4, ⟨a1, a2, a3, a4, a5, a6, a7⟩, h6, h7, h8, h9, h10⟩ := h
  exact ⟨h1, h2, h3, h4, ⟨a1, a2, a3, a4, a5, a6, a7.up⟩, h6, h7, h8, h9, fun q => ⟨(h10 q).1, (h10 q).2.up⟩⟩
theorem ups_id {α : Type} (f : Nat → α) (k : Nat) : ups f k (f k) = f := by
  funext j
  by_cases h : j = k
  · subst h; rw [ups_s]
  · rw [ups_n _ _ _ _ h]
theorem zR_ini : zR 0 iniE iniM := by
  refine ⟨?_, ?_, rfl, ⟨rfl, ⟨by decide, by decide⟩, rfl⟩, ⟨rfl, Or.inl rfl, ⟨fun h => absurd h (by decide), fun _ => ⟨rfl, rfl, Or.inl rfl⟩⟩, rfl, rfl, ⟨rfl, rfl, rfl⟩, ⟨by decide, by decide⟩⟩, ⟨rfl, ⟨by decide, by decide⟩, rfl⟩, rfl, ⟨rfl, Or.inl rfl⟩, ?_, fun h => absurd h (by decide)⟩
  · exact ⟨rfl, rfl, rfl, rfl, rfl, rfl, rfl, rfl, rfl, rfl, rfl, rfl, rfl, rfl, rfl⟩
  · exact ⟨Or.inl ⟨rfl, rfl⟩, fun i => Or.inl rfl, ⟨by decide, by decide⟩, ⟨by decide, by decide⟩, ⟨by decide, by decide⟩, ⟨by decide, by decide⟩, ⟨by decide, by decide⟩, ⟨by decide, by decide⟩, ⟨by decide, by decide⟩, ⟨by decide, by decide⟩, ⟨by decide, by decide⟩, fun i => ⟨by show 0 ≤ (0 : Int32).toInt; decide, by show (0 : Int32).toInt ≤ 999; decide⟩, fun i => ⟨by show 0 ≤ (0 : Int32).toInt; decide, by show (0 : Int32).toInt < 8; decide⟩, fun i => ⟨by show 0 ≤ (0 : Int32).toInt; decide, by show (0 : Int32).toInt ≤ 999; decide⟩, fun i => ⟨by show 0 ≤ (0 : Int32).toInt; decide, by show (0 : Int32).toInt ≤ 5; decide⟩⟩
  · exact ⟨Or.inl ⟨rfl, rfl⟩, fun i => Or.inl rfl, ⟨by decide, by decide⟩, ⟨by decide, by decide⟩, ⟨by decide, by decide⟩, ⟨by decide, by decide⟩, ⟨by decide, by decide⟩, ⟨by decide, by decide⟩, ⟨by decide, by decide⟩, ⟨by decide, by decide⟩, ⟨by decide, by decide⟩, fun i => ⟨by show 0 ≤ (0 : Int32).toInt; decide, by show (0 : Int32).toInt ≤ 999; decide⟩, fun i => ⟨by show 0 ≤ (0 : Int32).toInt; decide, by show (0 : Int32).toInt < 8; decide⟩, fun i => ⟨by show 0 ≤ (0 : Int32).toInt; decide, by show (0 : Int32).toInt ≤ 999; decide⟩, fun i => ⟨by show 0 ≤ (0 : Int32).toInt; decide, by show (0 : Int32).toInt ≤ 5; decide⟩⟩
/-- a refusal -/
def rf1 (f : Nat → Int32) (r : Int32) : Nat → Int32 := upd f (-r).toNatClampNeg (f (-r).toNatClampNeg + 1)
def isRef (r : Int32) : Prop := 0 ≤ (-r).toInt ∧ (-r).toInt < 7
theorem e_ref (E : Nat → Nat → Int32) {r : Int32} (h : isRef r) : fX7_refuse E r = some (r, rf1 (E 28) r) := by
  unfold fX7_refuse
  have hv : vp_in (-r) 7 := vin_of h.1 h.2
  rw [if_neg (nn' h.1), if_neg (fun c => by have : (7 : Int) ≤ (-r).toInt := ile.mp c; have := h.2; omega), gd_s hv, gd_s hv]
  rfl
theorem m_ref (M : Nat → Nat → Int32) {r : Int32} (h : isRef r) : fX8_no M r = some (r, rf1 (M 9) r) := by
  unfold fX8_no
  have hv : vp_in (-r) 7 := vin_of h.1 h.2
  rw [gd_s hv, gd_s hv]
  rfl
theorem zR_ref {n : Nat} {E M : Nat → Nat → Int32} (h : zR n E M) (r : Int32) : zR (n + 1) (ups E 28 (rf1 (E 28) r)) (ups M 9 (rf1 (M 9) r)) := by
  obtain ⟨h1, h2, h3, h4, ⟨a1, a2, a3, a4, a5, a6, a7⟩, h6, h7, h8, h9, h10⟩ := h
  refine ⟨h1, h2, h3, h4, ⟨a1, a2, a3, a4, a5, a6, a7.up⟩, h6, ?_, h8, h9, fun q => ⟨(h10 q).1, (h10 q).2.up⟩⟩
  show rf1 (M 9) r = rf1 (E 28) r
  rw [h7]
theorem r1 : isRef (-1) := by unfold isRef; decide
theorem r2 : isRef (-2) := by unfold isRef; decide
theorem r3 : isRef (-3) := by unfold isRef; decide
theorem r4 : isRef (-4) := by unfold isRef; decide
theorem r6 : isRef (-6) := by unfold isRef; decide
