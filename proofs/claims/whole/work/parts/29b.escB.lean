/-! how she leaves in steady wind: the model's search -/
def qn (Q : Nat → Int32) (i : Nat) : Nat := (Q i).toInt.toNat
def isN (x : Int32) : Bool := decide (x < 0)
/-- a state that the model numbers -/
def LM (w : Nat → Nat → Int32) (v : Int32) (k σ : Nat) : Prop := Lv w v k (nI (σ / 3)) (σ % 3)
def mm (w : Nat → Nat → Int32) (v : Int32) (σ : Nat) (d : Int32) : Option (Option (Int32 × Nat)) := mv w v (nI (σ / 3)) (σ % 3) d
def Bfs (w : Nat → Nat → Int32) (v : Int32) (src : Nat) (A Q : Nat → Int32) (last : Nat) : Prop :=
  (∀ i, i < last → Q i = nI (qn Q i) ∧ qn Q i < 192 ∧ CellOk w (nI (qn Q i / 3)) ∧ 0 ≤ (A (qn Q i)).toInt ∧ (A (qn Q i)).toInt ≤ i) ∧
  (∀ σ, σ < 192 → (A σ).toInt = -1 ∨ ∃ i, i < last ∧ qn Q i = σ) ∧
  (cn isN A 192 + last = 192) ∧
  (∀ i j, i ≤ j → j < last → (A (qn Q i)).toInt ≤ (A (qn Q j)).toInt) ∧
  (∀ σ, σ < 192 → 0 ≤ (A σ).toInt → ∀ k, LM w v k σ → LM w v ((A σ).toInt.toNat + k) src) ∧
  (src < 192 ∧ (A src).toInt = 0)
theorem Bfs.b2 {w : Nat → Nat → Int32} {v : Int32} {src : Nat} {A Q : Nat → Int32} {last : Nat} (h : Bfs w v src A Q last) : ∀ i, i < last → Q i = nI (qn Q i) ∧ qn Q i < 192 ∧ CellOk w (nI (qn Q i / 3)) ∧ 0 ≤ (A (qn Q i)).toInt ∧ (A (qn Q i)).toInt ≤ i := h.1
theorem Bfs.b3 {w : Nat → Nat → Int32} {v : Int32} {src : Nat} {A Q : Nat → Int32} {last : Nat} (h : Bfs w v src A Q last) : ∀ σ, σ < 192 → (A σ).toInt = -1 ∨ ∃ i, i < last ∧ qn Q i = σ := h.2.1
theorem Bfs.b4 {w : Nat → Nat → Int32} {v : Int32} {src : Nat} {A Q : Nat → Int32} {last : Nat} (h : Bfs w v src A Q last) : cn isN A 192 + last = 192 := h.2.2.1
theorem Bfs.b5 {w : Nat → Nat → Int32} {v : Int32} {src : Nat} {A Q : Nat → Int32} {last : Nat} (h : Bfs w v src A Q last) : ∀ i j, i ≤ j → j < last → (A (qn Q i)).toInt ≤ (A (qn Q j)).toInt := h.2.2.2.1
theorem Bfs.b6 {w : Nat → Nat → Int32} {v : Int32} {src : Nat} {A Q : Nat → Int32} {last : Nat} (h : Bfs w v src A Q last) : ∀ σ, σ < 192 → 0 ≤ (A σ).toInt → ∀ k, LM w v k σ → LM w v ((A σ).toInt.toNat + k) src := h.2.2.2.2.1
theorem Bfs.b7 {w : Nat → Nat → Int32} {v : Int32} {src : Nat} {A Q : Nat → Int32} {last : Nat} (h : Bfs w v src A Q last) : src < 192 ∧ (A src).toInt = 0 := h.2.2.2.2.2
/-- a direction of a state, seen -/
def Pr (w : Nat → Nat → Int32) (v : Int32) (A : Nat → Int32) (σ : Nat) (d : Int32) : Prop := al w v d → mm w v σ d ≠ some none ∧ ∀ c' b', mm w v σ d = some (some (c', b')) → 0 ≤ (A (3 * c'.toInt.toNat + b')).toInt ∧ (A (3 * c'.toInt.toNat + b')).toInt ≤ (A σ).toInt + 1
theorem sm_of {w : Nat → Nat → Int32} (hd : RDim (w 1 1) (w 1 2)) {c : Int32} {b : Nat} (hc : CellOk w c) (hb : b < 3) : 3 * c.toInt.toNat + b < 192 ∧ nI ((3 * c.toInt.toNat + b) / 3) = c ∧ (3 * c.toInt.toNat + b) % 3 = b := by
  have h64 := cell_64 hd hc
  have h0 := hc.1
  have e1 : (3 * c.toInt.toNat + b) / 3 = c.toInt.toNat := by omega
  refine ⟨by omega, ?_, by omega⟩
  rw [e1]; exact (nI_of' h0).symm
theorem claimP {w : Nat → Nat → Int32} (hd : RDim (w 1 1) (w 1 2)) {v : Int32} {src last p : Nat} {A Q : Nat → Int32} (hB : Bfs w v src A Q last) (hp : p ≤ last) (hC : ∀ i, i < p → ∀ d, Pr w v A (qn Q i) d) (F : Int) (hF : ∀ j, p ≤ j → j < last → F ≤ (A (qn Q j)).toInt) : ∀ (k i : Nat), i < p → (A (qn Q i)).toInt + k ≤ F → ¬ LM w v k (qn Q i) := by
  intro k
  induction k with
  | zero => intro i hi hk h; exact h.elim
  | succ k ih =>
    intro i hi hk h
    obtain ⟨d, h1, h2⟩ := h
    obtain ⟨p1, p2⟩ := hC i hi d h1
    obtain ⟨-, q2, q3, q4, -⟩ := hB.b2 i (by omega)
    rcases h2 with h2 | ⟨c', b', h3, h4⟩
    · exact p1 h2
    · obtain ⟨o1, o2, o3⟩ := mv_ok hd q3 h1.1 (Nat.mod_lt _ (by decide)) h3
      obtain ⟨s1, s2, s3⟩ := sm_of hd o1 o3
      obtain ⟨a1, a2⟩ := p2 c' b' h3
      have l4 : LM w v k (3 * c'.toInt.toNat + b') := by unfold LM; rw [s2, s3]; exact h4
      rcases hB.b3 _ s1 with r | ⟨i', r1, r2⟩
      · omega
      · cases k with
        | zero => exact h4.elim
        | succ k =>
          have hi' : i' < p := by
            apply Nat.lt_of_not_le
            intro q
            have := hF i' q r1
            rw [r2] at this
            omega
          refine ih i' hi' ?_ (by rw [r2]; exact l4)
          rw [r2]
          omega
theorem div3 {σ : Nat} (hs : σ < 192) : zrem (nI σ) 3 = nI (σ % 3) ∧ nI σ / 3 = nI (σ / 3) := by
  have a1 : (nI σ).toInt = σ := nI_toInt (by omega)
  have k : (3 : Int32).toInt = 3 := rfl
  constructor
  · apply ieq.mpr
    rw [irm (by omega) (by decide), a1, k, nI_toInt (by omega)]
    omega
  · apply ieq.mpr
    rw [idv (by omega) (by decide), a1, k, nI_toInt (by omega)]
    omega
abbrev S91 := (Nat → Int32) → (Nat → Int32) → Int32 → Int32 → Int32 → Int32 → Option (Int32 × (Nat → Int32) × (Nat → Int32))
abbrev S121 := (Nat → Int32) → (Nat → Int32) → Int32 → Int32 → Int32 → Int32 → Int32 → Int32 → Int32 → Option (Int32 × (Nat → Int32) × (Nat → Int32))
theorem neg_or {x : Int32} (h : x = -1 ∨ 0 ≤ x.toInt) : (if x = -1 then (-9 : Int32) else x) < 0 ↔ x = -1 := by
  by_cases c : x = -1
  · rw [if_pos c]; exact ⟨fun _ => c, fun _ => by decide⟩
  · rw [if_neg c]
    refine ⟨fun q => ?_, fun q => absurd q c⟩
    exact absurd q (nn' (h.resolve_left c))
theorem m_one {m w : Nat → Nat → Int32} (hr : RW m w) (hw : OW w) {v : Int32} (hv : D8 v) {s91 : S91} {s121 : S121} (A Q : Nat → Int32) (fi la : Int32) {σ d : Nat} (hσ : σ < 192) (hc : CellOk w (nI (σ / 3))) (hd : d < 8) : fX8_moves_121 m s91 s121 A Q v (lee v) fi la (nI σ) (nI (σ % 3 + 1)) (nI d) = (if zap (nI d) v < w 0 7 then s121 A Q v (lee v) fi la (nI σ) (nI (σ % 3 + 1)) (nI (d + 1)) else match mm w v σ (nI d) with
    | none => s121 A Q v (lee v) fi la (nI σ) (nI (σ % 3 + 1)) (nI (d + 1))
    | some none => some (A σ + 1, A, Q)
    | some (some (c', b')) => if A (3 * c'.toInt.toNat + b') < 0 then gd la 192 (s121 (upd A (3 * c'.toInt.toNat + b') (A σ + 1)) (upd Q la.toNatClampNeg (nI (3 * c'.toInt.toNat + b'))) v (lee v) fi (la + 1) (nI σ) (nI (σ % 3 + 1)) (nI (d + 1))) else s121 A Q v (lee v) fi la (nI σ) (nI (σ % 3 + 1)) (nI (d + 1))) := by
  have k8 : (8 : Int32) = nI 8 := rfl
  have k3 : (3 : Int32) = nI 3 := rfl
  have hdd : D8 (nI d) := by unfold D8; rw [nI_toInt (by omega)]; omega
  have hr2 : RW (ups (ups m 12 A) 13 Q) w := hr
  have q4 : m 3 ((4 : Int32)).toNatClampNeg = w 0 7 := hr.2.2.2.2.2.2.2.2.2.2.2.2.2.1
  have hdim := hw.1
  have be : ∀ {q e : Int32}, CellOk w q → D8 e → fX8_beside (ups (ups m 12 A) 13 Q) q e = some (if nbr (w 1 1) (w 1 2) q e = -1 then -9 else nbr (w 1 1) (w 1 2) q e) := fun hq he => m_beside hr2 hdim hq he
  have ba : ∀ {q : Int32}, CellOk w q → fX8_bears (ups (ups m 12 A) 13 Q) q = some (fl w q) := fun hq => m_fl hr2 hw hq
  have gσ : ∀ {α : Type} (k : Option α), gd (nI σ) 192 k = k := fun k => gd_s (vp_in_nI hσ (by omega))
  have eσ : (nI σ).toNatClampNeg = σ := nI_clamp (by omega)
  have hb : σ % 3 < 3 := Nat.mod_lt _ (by decide)
  have made : ∀ q : Int32, CellOk w q → (3 : Int32) * q + zrem (nI (σ % 3 + 1)) 3 = nI (3 * q.toInt.toNat + (σ % 3 + 1) % 3) ∧ 3 * q.toInt.toNat + (σ % 3 + 1) % 3 < 192 := fun q hq => by
    have h64 := cell_64 hdim hq
    have h0 := hq.1
    have e1 : q = nI q.toInt.toNat := nI_of' h0
    have h3 : (σ % 3 + 1) % 3 < 3 := Nat.mod_lt _ (by decide)
    refine ⟨?_, by omega⟩
    rw [(div3 (show σ % 3 + 1 < 192 by omega)).1]
    generalize q.toInt.toNat = X at *
    rw [e1, k3, show nI 3 * nI X = nI (3 * X) from (Int32.ofNat_mul 3 X).symm, nI_add]
  -- at the end of a move, into the bay
  have last : ∀ q : Int32, CellOk w q → fX8_moves_212 m s91 s121 A Q v (lee v) fi la (nI σ) (nI (σ % 3 + 1)) (nI d) q = (if A (3 * q.toInt.toNat + (σ % 3 + 1) % 3) < 0 then gd la 192 (s121 (upd A (3 * q.toInt.toNat + (σ % 3 + 1) % 3) (A σ + 1)) (upd Q la.toNatClampNeg (nI (3 * q.toInt.toNat + (σ % 3 + 1) % 3))) v (lee v) fi (la + 1) (nI σ) (nI (σ % 3 + 1)) (nI (d + 1))) else s121 A Q v (lee v) fi la (nI σ) (nI (σ % 3 + 1)) (nI (d + 1))) := fun q hq => by
    obtain ⟨e1, e2⟩ := made q hq
    unfold fX8_moves_212 fX8_moves_279
    rw [if_pos (show (0 : Int32) ≤ q from ile.mpr hq.1), e1]
    have gi : ∀ {α : Type} (k : Option α), gd (nI (3 * q.toInt.toNat + (σ % 3 + 1) % 3)) 192 k = k := fun k => gd_s (vp_in_nI e2 (by omega))
    have ei : (nI (3 * q.toInt.toNat + (σ % 3 + 1) % 3)).toNatClampNeg = 3 * q.toInt.toNat + (σ % 3 + 1) % 3 := nI_clamp (by omega)
    simp only [gi, gσ, ei, eσ, nm_s, nI_1]
  have out : ∀ q : Int32, q < 0 → fX8_moves_212 m s91 s121 A Q v (lee v) fi la (nI σ) (nI (σ % 3 + 1)) (nI d) q = some (A σ + 1, A, Q) := fun q hq => by
    unfold fX8_moves_212
    rw [if_neg (Int32.not_le.mpr hq), gσ, eσ]
  have next : fX8_moves_279 m s91 s121 A Q v (lee v) fi la (nI σ) (nI (σ % 3 + 1)) (nI d) = s121 A Q v (lee v) fi la (nI σ) (nI (σ % 3 + 1)) (nI (d + 1)) := by
    unfold fX8_moves_279
    rw [nI_1]
  have n1 := nbr_r hdim hc hdd
  unfold fX8_moves_121
  rw [k8, if_neg (by rw [nI_leI (by omega) (by omega)]; omega), m_apart hdd hv, ob1_s, q4, next]
  by_cases ca : zap (nI d) v < w 0 7
  · rw [if_neg (Int32.not_le.mpr ca), if_pos ca]
  · rw [if_pos (Int32.not_lt.mp ca), if_neg ca, (div3 hσ).2, be hc hdd, ob1_s]
    unfold mm mv
    by_cases c1 : nbr (w 1 1) (w 1 2) (nI (σ / 3)) (nI d) = -1
    · simp only [if_pos c1]
      rw [if_pos (show (-9 : Int32) < 0 by decide)]
      unfold fX8_moves_175
      rw [if_pos (show (-9 : Int32) < 0 by decide)]
      exact out _ (by decide)
    · have n1' := n1.resolve_left c1
      simp only [if_neg c1]
      rw [if_neg (nn' n1'.1), ba n1', ob1_s]
      by_cases c2 : fl w (nbr (w 1 1) (w 1 2) (nI (σ / 3)) (nI d)) = 0
      · simp only [if_pos c2]
      · simp only [if_neg c2]
        unfold fX8_moves_175
        rw [if_neg (nn' n1'.1)]
        by_cases c3 : σ % 3 = 2
        · have c3' : nI (σ % 3 + 1) = 3 := by rw [c3]; rfl
          rw [if_pos c3', be n1' (lee_r v), ob1_s]
          simp only [if_pos c3]
          have n2 := nbr_r hdim n1' (lee_r v)
          by_cases c4 : nbr (w 1 1) (w 1 2) (nbr (w 1 1) (w 1 2) (nI (σ / 3)) (nI d)) (lee v) = -1
          · simp only [if_pos c4]
            rw [if_pos (show (-9 : Int32) < 0 by decide)]
            exact out _ (by decide)
          · have n2' := n2.resolve_left c4
            simp only [if_neg c4]
            rw [if_neg (nn' n2'.1), ba n2', ob1_s]
            by_cases c5 : fl w (nbr (w 1 1) (w 1 2) (nbr (w 1 1) (w 1 2) (nI (σ / 3)) (nI d)) (lee v)) = 0
            · simp only [if_pos c5]
              exact next
            · simp only [if_neg c5]
              rw [last _ n2', show (σ % 3 + 1) % 3 = 0 by omega]
        · have c3' : ¬ nI (σ % 3 + 1) = 3 := by rw [k3, nI_eq (by omega) (by omega)]; omega
          rw [if_neg c3']
          simp only [if_neg c3]
          rw [last _ n1', show (σ % 3 + 1) % 3 = σ % 3 + 1 by omega]
