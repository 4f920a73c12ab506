/-! plain facts for the comparison of the two readings -/
theorem ob1_s {α ρ : Type} (a : α) (k : α → Option ρ) : ob1 (some a) k = k a := rfl
theorem ob2_s {α β ρ : Type} (a : α) (b : β) (k : α → β → Option ρ) : ob2 (some (a, b)) k = k a b := rfl
theorem ob3_s {α β γ ρ : Type} (a : α) (b : β) (c : γ) (k : α → β → γ → Option ρ) : ob3 (some (a, b, c)) k = k a b c := rfl
theorem ob4_s {α β γ δ ρ : Type} (a : α) (b : β) (c : γ) (d : δ) (k : α → β → γ → δ → Option ρ) : ob4 (some (a, b, c, d)) k = k a b c d := rfl
theorem nm_s {α β : Type} (a : α) (k : α → Option β) : nm a k = k a := rfl
theorem gd_s {α : Type} {i : Int32} {n : Nat} {k : Option α} (h : vp_in i n) : gd i n k = k := if_neg h
theorem dv_s {α : Type} {y : Int32} {k : Option α} (h : ¬ y = 0) : dv y k = k := if_neg h
theorem gz_s {α : Type} {x : Int32} {k : Option α} (h : x = 0 ∨ x = 1) : gz x k = k := if_pos h
theorem ups_s {α : Type} (f : Nat → α) (k : Nat) (x : α) : ups f k x k = x := by simp [ups]
theorem ups_n {α : Type} (f : Nat → α) (k j : Nat) (x : α) (h : j ≠ k) : ups f k x j = f j := by
  have : Nat.beq j k = false := by
    cases e : Nat.beq j k
    · rfl
    · exact absurd (Nat.eq_of_beq_eq_true e) h
  simp [ups, this]
theorem ups_at {α : Type} (f : Nat → α) (k j : Nat) (x : α) : ups f k x j = if j = k then x else f j := by
  by_cases h : j = k
  · subst h; rw [if_pos rfl, ups_s]
  · rw [if_neg h, ups_n _ _ _ _ h]
theorem sh_at {α : Type} (o : Nat) (f : Nat → α) (k : Nat) : sh o f k = f (k + o) := rfl
theorem ia {x y : Int32} (h1 : -2147483648 ≤ x.toInt + y.toInt) (h2 : x.toInt + y.toInt < 2147483648) : (x + y).toInt = x.toInt + y.toInt := by
  rw [Int32.toInt_add, Int.bmod_eq_of_le] <;> simp <;> omega
theorem is' {x y : Int32} (h1 : -2147483648 ≤ x.toInt - y.toInt) (h2 : x.toInt - y.toInt < 2147483648) : (x - y).toInt = x.toInt - y.toInt := by
  rw [Int32.toInt_sub, Int.bmod_eq_of_le] <;> simp <;> omega
theorem im {x y : Int32} (h1 : -2147483648 ≤ x.toInt * y.toInt) (h2 : x.toInt * y.toInt < 2147483648) : (x * y).toInt = x.toInt * y.toInt := by
  rw [Int32.toInt_mul, Int.bmod_eq_of_le] <;> simp <;> omega
theorem ile {x y : Int32} : x ≤ y ↔ x.toInt ≤ y.toInt := Int32.le_iff_toInt_le
theorem ilt {x y : Int32} : x < y ↔ x.toInt < y.toInt := Int32.lt_iff_toInt_lt
theorem ieq {x y : Int32} : x = y ↔ x.toInt = y.toInt := Int32.toInt_inj.symm
theorem icl {x : Int32} : x.toNatClampNeg = x.toInt.toNat := rfl
theorem vin_of {x : Int32} {n : Nat} (h0 : 0 ≤ x.toInt) (h : x.toInt < n) : vp_in x n := vp_in_iff.mpr ⟨h0, h⟩
theorem idv {x y : Int32} (h0 : 0 ≤ x.toInt) (h : 0 < y.toInt) : (x / y).toInt = x.toInt / y.toInt := by
  rw [Int32.toInt_div]
  rw [Int.tdiv_eq_ediv_of_nonneg h0, Int.bmod_eq_of_le]
  · have := Int.ediv_nonneg h0 (Int.le_of_lt h); simp; omega
  · have h1 : x.toInt / y.toInt ≤ x.toInt := Int.ediv_le_self _ h0
    have h2 := x.toInt_lt
    simp at h2 ⊢; omega
theorem irm {x y : Int32} (h0 : 0 ≤ x.toInt) (h : 0 < y.toInt) : (zrem x y).toInt = x.toInt % y.toInt := by
  have h1 : (x / y).toInt = x.toInt / y.toInt := idv h0 h
  have h2 : x.toInt / y.toInt * y.toInt + x.toInt % y.toInt = x.toInt := Int.ediv_mul_add_emod _ _
  have h3 := Int.emod_nonneg x.toInt (by omega : y.toInt ≠ 0)
  have h4 := Int.emod_lt_of_pos x.toInt h
  have h5 := x.toInt_lt
  simp at h5
  have h6 : 0 ≤ x.toInt / y.toInt * y.toInt := Int.mul_nonneg (Int.ediv_nonneg h0 (by omega)) (by omega)
  have h7 : (x / y * y).toInt = x.toInt / y.toInt * y.toInt := by rw [im] <;> rw [h1] <;> omega
  unfold zrem
  rw [is'] <;> rw [h7] <;> omega
theorem zmax_i (x y : Int32) : (zmax x y).toInt = max x.toInt y.toInt := by
  unfold zmax
  by_cases h : x < y
  · rw [if_pos h]; have := ilt.mp h; omega
  · rw [if_neg h]; have := mt ilt.mpr h; omega
theorem zmin_i (x y : Int32) : (zmin x y).toInt = min x.toInt y.toInt := by
  unfold zmin
  by_cases h : y < x
  · rw [if_pos h]; have := ilt.mp h; omega
  · rw [if_neg h]; have := mt ilt.mpr h; omega
/-- a value below 8 is one of eight -/
theorem c8 {x : Int32} (h0 : 0 ≤ x.toInt) (h : x.toInt < 8) : x = 0 ∨ x = 1 ∨ x = 2 ∨ x = 3 ∨ x = 4 ∨ x = 5 ∨ x = 6 ∨ x = 7 := by
  have : x.toInt = 0 ∨ x.toInt = 1 ∨ x.toInt = 2 ∨ x.toInt = 3 ∨ x.toInt = 4 ∨ x.toInt = 5 ∨ x.toInt = 6 ∨ x.toInt = 7 := by omega
  rcases this with h | h | h | h | h | h | h | h
  · exact Or.inl (ieq.mpr h)
  · exact Or.inr (Or.inl (ieq.mpr h))
  · exact Or.inr (Or.inr (Or.inl (ieq.mpr h)))
  · exact Or.inr (Or.inr (Or.inr (Or.inl (ieq.mpr h))))
  · exact Or.inr (Or.inr (Or.inr (Or.inr (Or.inl (ieq.mpr h)))))
  · exact Or.inr (Or.inr (Or.inr (Or.inr (Or.inr (Or.inl (ieq.mpr h))))))
  · exact Or.inr (Or.inr (Or.inr (Or.inr (Or.inr (Or.inr (Or.inl (ieq.mpr h)))))))
  · exact Or.inr (Or.inr (Or.inr (Or.inr (Or.inr (Or.inr (Or.inr (ieq.mpr h)))))))
def D8 (x : Int32) : Prop := 0 ≤ x.toInt ∧ x.toInt < 8
/-- the two ways to count how far apart -/
def zap (a b : Int32) : Int32 := zmin ((a - b) &&& (7 : Int32)) ((8 : Int32) - ((a - b) &&& (7 : Int32)))
theorem zap_eq {a b : Int32} (ha : D8 a) (hb : D8 b) : (if b < a then (if (4 : Int32) < a - b then (8 : Int32) - (a - b) else a - b) else (if (4 : Int32) < b - a then (8 : Int32) - (b - a) else b - a)) = zap a b := by
  rcases c8 ha.1 ha.2 with rfl | rfl | rfl | rfl | rfl | rfl | rfl | rfl <;> rcases c8 hb.1 hb.2 with rfl | rfl | rfl | rfl | rfl | rfl | rfl | rfl <;> decide
theorem zap_r {a b : Int32} (ha : D8 a) (hb : D8 b) : 0 ≤ (zap a b).toInt ∧ (zap a b).toInt ≤ 4 := by
  rcases c8 ha.1 ha.2 with rfl | rfl | rfl | rfl | rfl | rfl | rfl | rfl <;> rcases c8 hb.1 hb.2 with rfl | rfl | rfl | rfl | rfl | rfl | rfl | rfl <;> decide
theorem fE_apart {a b : Int32} (_ : D8 a) (_ : D8 b) : fX7_apart a b = some (zap a b) := rfl
theorem and7 (x : Int32) : D8 (x &&& (7 : Int32)) := by
  obtain ⟨j, hj, e⟩ := pk_andE x (m := 7) 3 (by decide)
  rw [e]
  constructor <;> rw [nI_toInt (by omega)] <;> omega
