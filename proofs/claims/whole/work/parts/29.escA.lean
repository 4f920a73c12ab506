/-! how she leaves in steady wind: the class's rounds -/
def mv (w : Nat → Nat → Int32) (v c : Int32) (b : Nat) (d : Int32) : Option (Option (Int32 × Nat)) :=
  if nbr (w 1 1) (w 1 2) c d = -1 then some none else if fl w (nbr (w 1 1) (w 1 2) c d) = 0 then none else if b = 2 then (if nbr (w 1 1) (w 1 2) (nbr (w 1 1) (w 1 2) c d) (lee v) = -1 then some none else if fl w (nbr (w 1 1) (w 1 2) (nbr (w 1 1) (w 1 2) c d) (lee v)) = 0 then none else some (some (nbr (w 1 1) (w 1 2) (nbr (w 1 1) (w 1 2) c d) (lee v), 0))) else some (some (nbr (w 1 1) (w 1 2) c d, b + 1))
theorem mv_ok {w : Nat → Nat → Int32} (hd : RDim (w 1 1) (w 1 2)) {v c d c' : Int32} {b b' : Nat} (hc : CellOk w c) (hdd : D8 d) (hb : b < 3) (h : mv w v c b d = some (some (c', b'))) : CellOk w c' ∧ fl w c' = 1 ∧ b' < 3 := by
  unfold mv at h
  have n1 := nbr_r hd hc hdd
  by_cases c1 : nbr (w 1 1) (w 1 2) c d = -1
  · rw [if_pos c1] at h; cases h
  · rw [if_neg c1] at h
    have n1' := n1.resolve_left c1
    by_cases c2 : fl w (nbr (w 1 1) (w 1 2) c d) = 0
    · rw [if_pos c2] at h; cases h
    · rw [if_neg c2] at h
      by_cases c3 : b = 2
      · rw [if_pos c3] at h
        have n2 := nbr_r hd n1' (lee_r v)
        by_cases c4 : nbr (w 1 1) (w 1 2) (nbr (w 1 1) (w 1 2) c d) (lee v) = -1
        · rw [if_pos c4] at h; cases h
        · rw [if_neg c4] at h
          by_cases c5 : fl w (nbr (w 1 1) (w 1 2) (nbr (w 1 1) (w 1 2) c d) (lee v)) = 0
          · rw [if_pos c5] at h; cases h
          · rw [if_neg c5] at h
            cases h
            exact ⟨n2.resolve_left c4, (fl01 w _).resolve_left c5, by omega⟩
      · rw [if_neg c3] at h
        cases h
        exact ⟨n1', (fl01 w _).resolve_left c2, by omega⟩
def al (w : Nat → Nat → Int32) (v d : Int32) : Prop := D8 d ∧ ¬ zap d v < w 0 7
/-- she leaves in at most so many moves -/
def Lv (w : Nat → Nat → Int32) (v : Int32) : Nat → Int32 → Nat → Prop
  | 0, _, _ => False
  | k + 1, c, b => ∃ d, al w v d ∧ (mv w v c b d = some none ∨ ∃ c' b', mv w v c b d = some (some (c', b')) ∧ Lv w v k c' b')
theorem Lv.succ {w : Nat → Nat → Int32} {v : Int32} : ∀ {k : Nat} {c : Int32} {b : Nat}, Lv w v k c b → Lv w v (k + 1) c b := by
  intro k
  induction k with
  | zero => intro c b h; exact h.elim
  | succ k ih =>
    intro c b h
    obtain ⟨d, h1, h2⟩ := h
    refine ⟨d, h1, ?_⟩
    rcases h2 with h2 | ⟨c', b', h3, h4⟩
    · exact Or.inl h2
    · exact Or.inr ⟨c', b', h3, ih h4⟩
theorem Lv.le {w : Nat → Nat → Int32} {v : Int32} {j : Nat} {c : Int32} {b : Nat} (h : Lv w v j c b) : ∀ {k : Nat}, j ≤ k → Lv w v k c b := by
  intro k hk
  induction k with
  | zero =>
    have : j = 0 := by omega
    subst this; exact h
  | succ k ih =>
    by_cases q : j = k + 1
    · subst q; exact h
    · exact (ih (by omega)).succ
/-- the moves left behind a move, by a table -/
def lft (t : Nat → Int32) : Option (Option (Int32 × Nat)) → Int32
  | none => -9
  | some none => 0
  | some (some (c', b')) => t (b' * 64 + c'.toInt.toNat)
theorem e_idx {t : Nat → Int32} {b : Nat} (hb : b < 3) {q : Int32} (h0 : 0 ≤ q.toInt) (h64 : q.toInt < 64) : fX7_valueAt 192 t (zrem (nI b + 1) 3 * 64 + q) = some (t ((b + 1) % 3 * 64 + q.toInt.toNat)) := by
  have e1 : zrem (nI b + 1) 3 * 64 = nI ((b + 1) % 3 * 64) := by
    have : b = 0 ∨ b = 1 ∨ b = 2 := by omega
    rcases this with r | r | r <;> rw [r] <;> decide
  have e2 : q = nI q.toInt.toNat := nI_of' h0
  generalize hq : q.toInt.toNat = Q at *
  have h3 : (b + 1) % 3 < 3 := Nat.mod_lt _ (by decide)
  have tv : fX7_valueAt 192 t (nI ((b + 1) % 3 * 64 + Q)) = some (t (nI ((b + 1) % 3 * 64 + Q)).toNatClampNeg) := e_tab (by decide) (by rw [nI_toInt (by omega)]; omega) (by rw [nI_toInt (by omega)]; omega)
  rw [e1, e2, nI_add, tv, nI_clamp (by omega)]
theorem e_left {w0 w : Nat → Nat → Int32} (hd : RDim (w 1 1) (w 1 2)) {v c d : Int32} {b : Nat} (hc : CellOk w c) (hdd : D8 d) (hb : b < 3) : fX2_leftBehindMove w0 w v c (nI b) d = some (lft (w0 1) (mv w v c b d)) := by
  have be : ∀ {q d : Int32}, CellOk w q → D8 d → fX1_beside (sh 1 w) q d = some (nbr (w 1 1) (w 1 2) q d) := fun hq hd' => e_beside hd hq hd'
  have n1 := nbr_r hd hc hdd
  have k2 : (2 : Int32) = nI 2 := rfl
  unfold fX2_leftBehindMove fX2_leftBehindMove_73 mv
  rw [be hc hdd, ob1_s]
  by_cases c1 : nbr (w 1 1) (w 1 2) c d = -1
  · rw [if_pos c1, if_pos c1]; rfl
  · have n1' := n1.resolve_left c1
    have x1 := cell_64 hd n1'
    rw [if_neg c1, if_neg c1, e_fl hd n1', ob1_s]
    by_cases c2 : fl w (nbr (w 1 1) (w 1 2) c d) = 0
    · rw [if_pos c2, if_pos c2]; rfl
    · rw [if_neg c2, if_neg c2]
      have n2 := nbr_r hd n1' (lee_r v)
      by_cases c3 : b = 2
      · have c3' : nI b = 2 := by rw [c3]; rfl
        have el : fX7_leeOf v = some (lee v) := e_lee v
        rw [if_pos c3', if_pos c3, el, ob1_s, be n1' (lee_r v), ob1_s]
        by_cases c4 : nbr (w 1 1) (w 1 2) (nbr (w 1 1) (w 1 2) c d) (lee v) = -1
        · rw [if_pos c4, if_pos c4]; rfl
        · have n2' := n2.resolve_left c4
          have x2 := cell_64 hd n2'
          rw [if_neg c4, if_neg c4, e_fl hd n2', ob1_s]
          by_cases c5 : fl w (nbr (w 1 1) (w 1 2) (nbr (w 1 1) (w 1 2) c d) (lee v)) = 0
          · rw [if_pos c5, if_pos c5]; rfl
          · rw [if_neg c5, if_neg c5, e_idx hb n2'.1 x2, ob1_s, c3]
            rfl
      · have c3' : ¬ nI b = 2 := by rw [k2, nI_eq (by omega) (by omega)]; exact c3
        rw [if_neg c3', if_neg c3, e_idx hb n1'.1 x1, ob1_s]
        show some (w0 1 ((b + 1) % 3 * 64 + _)) = some (w0 1 ((b + 1) * 64 + _))
        rw [Nat.mod_eq_of_lt (by omega)]
/-- a state that the class numbers: its cell stands, and she floats there -/
def Fs (w : Nat → Nat → Int32) (s : Nat) : Prop := CellOk w (nI (s % 64)) ∧ fl w (nI (s % 64)) = 1
def Lx (w : Nat → Nat → Int32) (v : Int32) (k s : Nat) : Prop := Fs w s ∧ Lv w v k (nI (s % 64)) (s / 64)
theorem Lx.le {w : Nat → Nat → Int32} {v : Int32} {j k s : Nat} (h : Lx w v j s) (hk : j ≤ k) : Lx w v k s := ⟨h.1, h.2.le hk⟩
theorem st_of {w : Nat → Nat → Int32} (hd : RDim (w 1 1) (w 1 2)) {c : Int32} {b : Nat} (hc : CellOk w c) (hb : b < 3) : b * 64 + c.toInt.toNat < 192 ∧ nI ((b * 64 + c.toInt.toNat) % 64) = c ∧ (b * 64 + c.toInt.toNat) / 64 = b := by
  have h64 := cell_64 hd hc
  have h0 := hc.1
  have e1 : (b * 64 + c.toInt.toNat) % 64 = c.toInt.toNat := by omega
  refine ⟨by omega, ?_, by omega⟩
  rw [e1]; exact (nI_of' h0).symm
def Q1 (w : Nat → Nat → Int32) (v : Int32) (t : Nat → Int32) (s : Nat) (x : Int32) : Prop := Fs w s ∧ ∃ d, al w v d ∧ lft t (mv w v (nI (s % 64)) (s / 64) d) = x
theorem d8_nI {d : Int32} (h : D8 d) : ∃ j : Nat, j < 8 ∧ d = nI j := ⟨d.toInt.toNat, by have := h.1; have := h.2; omega, nI_of' h.1⟩
theorem one_loop {w0 w : Nat → Nat → Int32} (hd : RDim (w 1 1) (w 1 2)) {v c x : Int32} {b : Nat} (hc : CellOk w c) (hb : b < 3) : ∀ (f j : Nat), j ≤ 8 → 8 < f + j → (zl5 (fX2_isOneMoveBefore_26 w0 w) f v x c (nI b) (nI j) = some 1 ∧ ∃ i, j ≤ i ∧ i < 8 ∧ al w v (nI i) ∧ lft (w0 1) (mv w v c b (nI i)) = x) ∨ (zl5 (fX2_isOneMoveBefore_26 w0 w) f v x c (nI b) (nI j) = some 0 ∧ ∀ i, j ≤ i → i < 8 → al w v (nI i) → ¬ lft (w0 1) (mv w v c b (nI i)) = x) := by
  have k8 : (8 : Int32) = nI 8 := rfl
  intro f
  induction f with
  | zero => intro j h1 h2; omega
  | succ f ih =>
    intro j h1 h2
    show (fX2_isOneMoveBefore_26 w0 w (zl5 (fX2_isOneMoveBefore_26 w0 w) f) v x c (nI b) (nI j) = some 1 ∧ _) ∨ (fX2_isOneMoveBefore_26 w0 w (zl5 (fX2_isOneMoveBefore_26 w0 w) f) v x c (nI b) (nI j) = some 0 ∧ _)
    have i2 := ih (j + 1)
    generalize zl5 (fX2_isOneMoveBefore_26 w0 w) f = Z at *
    unfold fX2_isOneMoveBefore_26 fX2_isOneMoveBefore_65
    by_cases q : j = 8
    · right
      rw [if_pos (by rw [q]; decide)]
      exact ⟨rfl, fun i h3 h4 => by omega⟩
    · have hj : D8 (nI j) := by unfold D8; rw [nI_toInt (by omega)]; omega
      have ap : fX7_apart (nI j) v = some (zap (nI j) v) := rfl
      rw [if_neg (by rw [k8, nI_leI (by omega) (by omega)]; omega), ap, ob1_s, nI_1]
      by_cases c1 : zap (nI j) v < w 0 7
      · rw [if_pos c1]
        rcases i2 (by omega) (by omega) with ⟨a1, i, a2, a3, a4⟩ | ⟨a1, a2⟩
        · exact Or.inl ⟨a1, i, by omega, a3, a4⟩
        · refine Or.inr ⟨a1, fun i h3 h4 h5 => ?_⟩
          by_cases e : i = j
          · subst e; exact absurd c1 h5.2
          · exact a2 i (by omega) h4 h5
      · rw [if_neg c1, e_left hd hc hj hb, ob1_s]
        by_cases c2 : lft (w0 1) (mv w v c b (nI j)) = x
        · rw [if_pos c2]
          exact Or.inl ⟨rfl, j, Nat.le_refl _, by omega, ⟨hj, c1⟩, c2⟩
        · rw [if_neg c2]
          rcases i2 (by omega) (by omega) with ⟨a1, i, a2, a3, a4⟩ | ⟨a1, a2⟩
          · exact Or.inl ⟨a1, i, by omega, a3, a4⟩
          · refine Or.inr ⟨a1, fun i h3 h4 h5 => ?_⟩
            by_cases e : i = j
            · subst e; exact c2
            · exact a2 i (by omega) h4 h5
theorem div64 {s : Nat} (hs : s < 192) : zrem (nI s) 64 = nI (s % 64) ∧ nI s / 64 = nI (s / 64) := by
  have a1 : (nI s).toInt = s := nI_toInt (by omega)
  have k : (64 : Int32).toInt = 64 := rfl
  constructor
  · apply ieq.mpr
    rw [irm (by omega) (by decide), a1, k, nI_toInt (by omega)]
    omega
  · apply ieq.mpr
    rw [idv (by omega) (by decide), a1, k, nI_toInt (by omega)]
    omega
theorem e_one {w0 w : Nat → Nat → Int32} (hd : RDim (w 1 1) (w 1 2)) {v x : Int32} {s : Nat} (hs : s < 192) : (fX2_isOneMoveBefore w0 w v (nI s) x = some 1 ∧ Q1 w v (w0 1) s x) ∨ (fX2_isOneMoveBefore w0 w v (nI s) x = some 0 ∧ ¬ Q1 w v (w0 1) s x) := by
  obtain ⟨z1, z2⟩ := div64 hs
  unfold fX2_isOneMoveBefore
  rw [z1, z2]
  by_cases hc : CellOk w (nI (s % 64))
  · rw [e_fl hd hc, ob1_s]
    rcases fl01 w (nI (s % 64)) with q | q
    · right
      rw [if_pos q]
      refine ⟨rfl, fun h => ?_⟩
      have := h.1.2
      rw [q] at this
      exact absurd this (by decide)
    · rw [if_neg (by rw [q]; decide)]
      have z0 : (0 : Int32) = nI 0 := rfl
      rw [z0]
      rcases one_loop (w0 := w0) (v := v) (x := x) hd hc (show s / 64 < 3 by omega) zFU 0 (by omega) (by unfold zFU; omega) with ⟨a1, i, a2, a3, a4, a5⟩ | ⟨a1, a2⟩
      · exact Or.inl ⟨a1, ⟨hc, q⟩, nI i, a4, a5⟩
      · refine Or.inr ⟨a1, fun h => ?_⟩
        obtain ⟨-, d, b1, b2⟩ := h
        obtain ⟨i, hi, e⟩ := d8_nI b1.1
        rw [e] at b1 b2
        exact a2 i (Nat.zero_le _) hi b1 b2
  · right
    rw [e_fl0 hd hc, ob1_s, if_pos rfl]
    exact ⟨rfl, fun h => hc h.1.1⟩
/-- a table after so many rounds -/
def Tb (w : Nat → Nat → Int32) (v : Int32) (k m : Nat) (t : Nat → Int32) : Prop := ∀ s, s < 192 → (t s = -9 ∧ ¬ Lx w v k s) ∨ ∃ j, 1 ≤ j ∧ j ≤ m ∧ t s = nI j ∧ Lx w v j s ∧ ¬ Lx w v (j - 1) s
theorem nI_n9 {j : Nat} (hj : j < 1000) : ¬ (-9 : Int32) = nI j := fun e => by
  have := congrArg Int32.toInt e
  rw [nI_toInt (by omega)] at this
  have k : (-9 : Int32).toInt = -9 := rfl
  omega
theorem q_iff {w : Nat → Nat → Int32} (hd : RDim (w 1 1) (w 1 2)) {v : Int32} {k : Nat} (hk : k < 200) {t : Nat → Int32} (ht : Tb w v k (k + 1) t) {s : Nat} (hs : s < 192) (h9 : t s = -9) : Q1 w v t s (nI k) ↔ Lx w v (k + 1) s := by
  have nk : ¬ Lx w v k s := by
    rcases ht s hs with ⟨-, q⟩ | ⟨j, j1, j2, j3, -⟩
    · exact q
    · rw [h9] at j3; exact absurd j3 (nI_n9 (by omega))
  have hb : s / 64 < 3 := by omega
  constructor
  · rintro ⟨hF, d, h1, h2⟩
    refine ⟨hF, d, h1, ?_⟩
    cases hm : mv w v (nI (s % 64)) (s / 64) d with
    | none => rw [hm] at h2; exact absurd h2 (nI_n9 (by omega))
    | some r =>
      cases r with
      | none => exact Or.inl rfl
      | some cb =>
        obtain ⟨c', b'⟩ := cb
        rw [hm] at h2
        obtain ⟨o1, o2, o3⟩ := mv_ok hd hF.1 h1.1 hb hm
        obtain ⟨s1, s2, s3⟩ := st_of hd o1 o3
        have h2' : t (b' * 64 + c'.toInt.toNat) = nI k := h2
        rcases ht _ s1 with ⟨q, -⟩ | ⟨j, j1, j2, j3, j4, -⟩
        · rw [q] at h2'; exact absurd h2' (nI_n9 (by omega))
        · rw [j3, nI_eq (by omega) (by omega)] at h2'
          subst h2'
          have := j4.2
          rw [s2, s3] at this
          exact Or.inr ⟨c', b', rfl, this⟩
  · rintro ⟨hF, d, h1, h2⟩
    refine ⟨hF, d, h1, ?_⟩
    rcases h2 with h2 | ⟨c', b', h3, h4⟩
    · rw [h2]
      have : k = 0 := by
        cases k with
        | zero => rfl
        | succ k => exact absurd ⟨hF, d, h1, Or.inl h2⟩ nk
      subst this
      rfl
    · rw [h3]
      show t (b' * 64 + c'.toInt.toNat) = nI k
      obtain ⟨o1, o2, o3⟩ := mv_ok hd hF.1 h1.1 hb h3
      obtain ⟨s1, s2, s3⟩ := st_of hd o1 o3
      have lx : ∀ j, Lv w v j c' b' → Lx w v j (b' * 64 + c'.toInt.toNat) := fun j hj => by
        unfold Lx Fs
        rw [s2, s3]
        exact ⟨⟨o1, o2⟩, hj⟩
      rcases ht _ s1 with ⟨-, q⟩ | ⟨j, j1, j2, j3, j4, j5⟩
      · exact absurd (lx k h4) q
      · rw [j3]
        have a1 : j ≤ k := by
          apply Nat.le_of_not_lt
          intro q
          exact j5 ((lx k h4).le (by omega))
        have a2 : k ≤ j := by
          apply Nat.le_of_not_lt
          intro q
          have l1 := j4.2
          rw [s2, s3] at l1
          exact nk ⟨hF, Lv.le (j := j + 1) ⟨d, h1, Or.inr ⟨c', b', h3, l1⟩⟩ (by omega)⟩
        rw [Nat.le_antisymm a1 a2]
/-- how many of a table's first entries are so -/
def cn (p : Int32 → Bool) (t : Nat → Int32) : Nat → Nat
  | 0 => 0
  | n + 1 => cn p t n + (if p (t n) = true then 1 else 0)
theorem cn_le (p : Int32 → Bool) (t : Nat → Int32) : ∀ n, cn p t n ≤ n := by
  intro n
  induction n with
  | zero => exact Nat.le_refl _
  | succ n ih =>
    unfold cn
    split <;> omega
theorem cn_out (p : Int32 → Bool) (t : Nat → Int32) (i : Nat) (x : Int32) : ∀ n, n ≤ i → cn p (upd t i x) n = cn p t n := by
  intro n
  induction n with
  | zero => intro _; rfl
  | succ n ih =>
    intro h
    unfold cn
    rw [ih (by omega), pk_un (by omega)]
theorem cn_upd (p : Int32 → Bool) (t : Nat → Int32) (i : Nat) (x : Int32) (h1 : p (t i) = true) (h2 : p x = false) : ∀ n, i < n → cn p (upd t i x) n + 1 = cn p t n := by
  intro n
  induction n with
  | zero => intro h; omega
  | succ n ih =>
    intro h
    unfold cn
    by_cases q : i = n
    · subst q
      rw [cn_out p t i x i (Nat.le_refl _), pk_us, h1, h2]
      simp
    · rw [pk_un (by omega), ← ih (by omega)]
      omega
theorem cn_0 (p : Int32 → Bool) (t : Nat → Int32) : ∀ n, cn p t n = 0 → ∀ i, i < n → p (t i) = false := by
  intro n
  induction n with
  | zero => intro _ i h; omega
  | succ n ih =>
    intro h i hi
    unfold cn at h
    by_cases q : p (t n) = true
    · rw [if_pos q] at h; omega
    · rw [if_neg q] at h
      by_cases e : i = n
      · subst e; simpa using q
      · exact ih (by omega) i (by omega)
def is9 (x : Int32) : Bool := decide (x = -9)
theorem round_loop {w0 w : Nat → Nat → Int32} (hd : RDim (w 1 1) (w 1 2)) {v : Int32} {k : Nat} (hk : k < 192) {t : Nat → Int32} : ∀ (f s : Nat) (c : Nat → Int32) (x4 : Int32), s ≤ 192 → 192 < f + s → Tb w v k (k + 1) c → (∀ s', s' < s → c s' = -9 → ¬ Lx w v (k + 1) s') → ((x4 = 0 ∧ c = t) ∨ (x4 = 1 ∧ cn is9 c 192 + 1 ≤ cn is9 t 192)) → ∃ (c' : Nat → Int32) (r : Int32), zl5 (fX2_markRound_6 w0 w) f c v (nI (k + 1)) x4 (nI s) = some (r, c') ∧ Tb w v k (k + 1) c' ∧ (∀ s', s' < 192 → c' s' = -9 → ¬ Lx w v (k + 1) s') ∧ ((r = 0 ∧ c' = t) ∨ (r = 1 ∧ cn is9 c' 192 + 1 ≤ cn is9 t 192)) := by
  have k192 : (192 : Int32) = nI 192 := rfl
  intro f
  induction f with
  | zero => intro s c x4 h1 h2; omega
  | succ f ih =>
    intro s c x4 h1 h2 hT hN hx
    show ∃ (c' : Nat → Int32) (r : Int32), fX2_markRound_6 w0 w (zl5 (fX2_markRound_6 w0 w) f) c v (nI (k + 1)) x4 (nI s) = some (r, c') ∧ _
    have i2 := fun c x4 => ih (s + 1) c x4
    generalize zl5 (fX2_markRound_6 w0 w) f = Z at *
    unfold fX2_markRound_6 fX2_markRound_53
    by_cases q : s = 192
    · rw [if_pos (by rw [q]; decide), gz_s (by rcases hx with ⟨h, -⟩ | ⟨h, -⟩ <;> rw [h] <;> decide)]
      exact ⟨c, x4, rfl, hT, fun s' hs' => hN s' (by omega), hx⟩
    · have hin : vp_in (nI s) 192 := vp_in_nI (by omega) (by omega)
      have gs : ∀ {α : Type} (k : Option α), gd (nI s) 192 k = k := fun k => gd_s hin
      have es : (nI s).toNatClampNeg = s := nI_clamp (by omega)
      rw [if_neg (by rw [k192, nI_leI (by omega) (by omega)]; omega), gs, es, nI_pred, nI_1, gs]
      by_cases c9 : c s = -9
      · rw [if_pos c9]
        have qi := q_iff hd (by omega) hT (by omega) c9
        rcases e_one (w0 := ups w0 1 c) (w := w) (v := v) (x := nI k) hd (show s < 192 by omega) with ⟨a1, a2⟩ | ⟨a1, a2⟩
        · have a2' : Lx w v (k + 1) s := qi.mp a2
          rw [a1, ob1_s, if_neg (by decide), nm_s]
          have nk : ¬ Lx w v k s := by
            rcases hT s (by omega) with ⟨-, r⟩ | ⟨j, j1, j2, j3, -⟩
            · exact r
            · rw [c9] at j3; exact absurd j3 (nI_n9 (by omega))
          refine i2 (upd c s (nI (k + 1))) 1 (by omega) (by omega) (fun s' hs' => ?_) (fun s' hs' h9 => ?_) (Or.inr ⟨rfl, ?_⟩)
          · by_cases e : s' = s
            · subst e
              rw [pk_us]
              exact Or.inr ⟨k + 1, by omega, Nat.le_refl _, rfl, a2', nk⟩
            · rw [pk_un e]; exact hT s' hs'
          · by_cases e : s' = s
            · subst e
              rw [pk_us] at h9
              exact absurd h9.symm (nI_n9 (by omega))
            · rw [pk_un e] at h9
              exact hN s' (by omega) h9
          · have u := cn_upd is9 c s (nI (k + 1)) (by unfold is9; rw [c9]; decide) (by unfold is9; exact decide_eq_false (fun e => nI_n9 (j := k + 1) (by omega) e.symm)) 192 (by omega)
            rcases hx with ⟨-, h⟩ | ⟨-, h⟩
            · rw [← h]; omega
            · omega
        · have a2' : ¬ Lx w v (k + 1) s := fun h => a2 (qi.mpr h)
          rw [a1, ob1_s, if_pos rfl]
          refine i2 c x4 (by omega) (by omega) hT (fun s' hs' h9 => ?_) hx
          by_cases e : s' = s
          · subst e; exact a2'
          · exact hN s' (by omega) h9
      · rw [if_neg c9]
        refine i2 c x4 (by omega) (by omega) hT (fun s' hs' h9 => ?_) hx
        by_cases e : s' = s
        · subst e; exact absurd h9 c9
        · exact hN s' (by omega) h9
/-- the table when no more is to be marked -/
def Fin9 (w : Nat → Nat → Int32) (v : Int32) (t : Nat → Int32) : Prop := ∀ s, s < 192 → (t s = -9 ∧ ∀ j, ¬ Lx w v j s) ∨ ∃ j, 1 ≤ j ∧ j ≤ 192 ∧ t s = nI j ∧ Lx w v j s ∧ ¬ Lx w v (j - 1) s
theorem lx_clos {w : Nat → Nat → Int32} (hd : RDim (w 1 1) (w 1 2)) {v : Int32} {k : Nat} (h : ∀ s, s < 192 → Lx w v (k + 1) s → Lx w v k s) : ∀ j s, s < 192 → Lx w v j s → Lx w v k s := by
  intro j
  induction j with
  | zero => intro s hs hl; exact hl.2.elim
  | succ j ih =>
    intro s hs hl
    obtain ⟨hF, d, h1, h2⟩ := hl
    refine h s hs ⟨hF, d, h1, ?_⟩
    rcases h2 with h2 | ⟨c', b', h3, h4⟩
    · exact Or.inl h2
    · obtain ⟨o1, o2, o3⟩ := mv_ok hd hF.1 h1.1 (show s / 64 < 3 by omega) h3
      obtain ⟨s1, s2, s3⟩ := st_of hd o1 o3
      have := (ih _ s1 (by unfold Lx Fs; rw [s2, s3]; exact ⟨⟨o1, o2⟩, h4⟩)).2
      rw [s2, s3] at this
      exact Or.inr ⟨c', b', h3, this⟩
theorem reckon_loop {w0 w : Nat → Nat → Int32} (hd : RDim (w 1 1) (w 1 2)) {v : Int32} : ∀ (f k : Nat) (c : Nat → Int32) (x3 : Int32), k ≤ 192 → 193 < f + k → Tb w v k k c → ((x3 = 1 ∧ cn is9 c 192 + k ≤ 192) ∨ (x3 = 0 ∧ ∀ j s, s < 192 → Lx w v j s → Lx w v k s)) → ∃ c' : Nat → Int32, zl4 (fX2_reckon_30 w0 w) f c v x3 (nI (k + 1)) = some c' ∧ Fin9 w v c' := by
  have k192 : (192 : Int32) = nI 192 := rfl
  intro f
  induction f with
  | zero => intro k c x3 h1 h2; omega
  | succ f ih =>
    intro k c x3 h1 h2 hT hx
    show ∃ c' : Nat → Int32, fX2_reckon_30 w0 w (zl4 (fX2_reckon_30 w0 w) f) c v x3 (nI (k + 1)) = some c' ∧ Fin9 w v c'
    have i2 := fun c x3 => ih (k + 1) c x3
    generalize zl4 (fX2_reckon_30 w0 w) f = Z at *
    have stop : (∀ j s, s < 192 → Lx w v j s → Lx w v k s) → Fin9 w v c := fun h s hs => by
      rcases hT s hs with ⟨q, r⟩ | ⟨j, j1, j2, j3, j4, j5⟩
      · exact Or.inl ⟨q, fun j hj => r (h j s hs hj)⟩
      · exact Or.inr ⟨j, j1, by omega, j3, j4, j5⟩
    unfold fX2_reckon_30
    by_cases q : k = 192
    · rw [if_pos (by rw [q]; decide)]
      refine ⟨c, rfl, ?_⟩
      rcases hx with ⟨-, hx⟩ | ⟨-, hx⟩
      · intro s hs
        have z := cn_0 is9 c 192 (by omega) s hs
        rcases hT s hs with ⟨r, -⟩ | ⟨j, j1, j2, j3, j4, j5⟩
        · unfold is9 at z
          rw [r] at z
          exact absurd z (by decide)
        · exact Or.inr ⟨j, j1, by omega, j3, j4, j5⟩
      · exact stop hx
    · rw [if_neg (by rw [k192, nI_ltI (by omega) (by omega)]; omega)]
      rcases hx with ⟨hx, hcn⟩ | ⟨hx, hcl⟩
      · rw [if_neg (by rw [hx]; decide)]
        have hT' : Tb w v k (k + 1) c := fun s hs => by
          rcases hT s hs with r | ⟨j, j1, j2, j3⟩
          · exact Or.inl r
          · exact Or.inr ⟨j, j1, by omega, j3⟩
        obtain ⟨c', r, a1, a2, a3, a4⟩ := round_loop (w0 := ups w0 1 c) hd (v := v) (show k < 192 by omega) (t := c) zFU 0 c 0 (by omega) (by unfold zFU; omega) hT' (fun s' hs' => by omega) (Or.inl ⟨rfl, rfl⟩)
        have a1' : fX2_markRound (ups w0 1 c) w v (nI (k + 1)) = some (r, c') := a1
        rw [a1', ob2_s, nI_1]
        refine i2 c' r (by omega) (by omega) (fun s hs => ?_) ?_
        · rcases a2 s hs with ⟨q1, -⟩ | ⟨j, j1, j2, j3⟩
          · exact Or.inl ⟨q1, a3 s hs q1⟩
          · exact Or.inr ⟨j, j1, j2, j3⟩
        · rcases a4 with ⟨r0, e⟩ | ⟨r1', e⟩
          · right
            refine ⟨r0, fun j s hs hl => ?_⟩
            have cl : ∀ s, s < 192 → Lx w v (k + 1) s → Lx w v k s := fun s hs hl => by
              rcases hT s hs with ⟨q1, -⟩ | ⟨j, j1, j2, j3, j4, -⟩
              · exact absurd hl (a3 s hs (by rw [e]; exact q1))
              · exact j4.le j2
            exact (lx_clos hd cl j s hs hl).le (by omega)
          · left
            exact ⟨r1', by omega⟩
      · rw [if_pos hx]
        exact ⟨c, rfl, stop hcl⟩
theorem wipe_loop {w0 w : Nat → Nat → Int32} {v : Int32} : ∀ (f s : Nat) (c : Nat → Int32), s ≤ 192 → 192 < f + s → (∀ i, i < s → c i = -9) → ∃ c' : Nat → Int32, zl3 (fX2_reckon_2 w0 w) f c v (nI s) = zl4 (fX2_reckon_30 w0 w) zFU c' v 1 1 ∧ (∀ i, i < 192 → c' i = -9) := by
  have k192 : (192 : Int32) = nI 192 := rfl
  intro f
  induction f with
  | zero => intro s c h1 h2; omega
  | succ f ih =>
    intro s c h1 h2 h3
    show ∃ c' : Nat → Int32, fX2_reckon_2 w0 w (zl3 (fX2_reckon_2 w0 w) f) c v (nI s) = zl4 (fX2_reckon_30 w0 w) zFU c' v 1 1 ∧ (∀ i, i < 192 → c' i = -9)
    have i2 := ih (s + 1)
    generalize zl3 (fX2_reckon_2 w0 w) f = Z at *
    unfold fX2_reckon_2
    by_cases q : s = 192
    · rw [if_pos (by rw [q]; decide)]
      exact ⟨c, rfl, fun i hi => h3 i (by omega)⟩
    · rw [if_neg (by rw [k192, nI_leI (by omega) (by omega)]; omega), gd_s (vp_in_nI (by omega) (by omega)), nI_clamp (by omega), nm_s, nI_1]
      refine i2 (upd c s (-9)) (by omega) (by omega) (fun i hi => ?_)
      by_cases e : i = s
      · subst e; exact pk_us
      · rw [pk_un e]; exact h3 i (by omega)
/-- the class's table, reckoned -/
theorem e_reckon {w0 w : Nat → Nat → Int32} (hw : OW w) (v : Int32) : ∃ t : Nat → Int32, fX2_reckon w0 w v = some t ∧ Fin9 w v t := by
  obtain ⟨c, a1, a2⟩ := wipe_loop (w0 := w0) (w := w) (v := v) zFU 0 (w0 1) (by omega) (by unfold zFU; omega) (fun i hi => by omega)
  obtain ⟨t, b1, b2⟩ := reckon_loop (w0 := w0) hw.1 (v := v) zFU 0 c 1 (by omega) (by unfold zFU; omega) (fun s hs => Or.inl ⟨a2 s hs, fun h => h.2.elim⟩) (Or.inl ⟨rfl, by have := cn_le is9 c 192; omega⟩)
  exact ⟨t, a1.trans b1, b2⟩
