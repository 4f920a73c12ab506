/-! the pure reading's combinators -/
def ups {α : Type} (f : Nat → α) (k : Nat) (x : α) : Nat → α := fun j => cond (Nat.beq j k) x (f j)
def sh {α : Type} (o : Nat) (f : Nat → α) : Nat → α := fun k => f (k + o)
def zFU : Nat := 1000
def zrem (x y : Int32) : Int32 := x - x / y * y
def zmin (x y : Int32) : Int32 := if y < x then y else x
def zmax (x y : Int32) : Int32 := if x < y then y else x
theorem it_t {c : Prop} [Decidable c] {α : Type} {a b : Option α} {z : α} (h : c) (e : (if c then a else b) = some z) : a = some z := by rw [if_pos h] at e; exact e
theorem it_f {c : Prop} [Decidable c] {α : Type} {a b : Option α} {z : α} (h : ¬ c) (e : (if c then a else b) = some z) : b = some z := by rw [if_neg h] at e; exact e
def gd {α : Type} (i : Int32) (n : Nat) (k : Option α) : Option α := if i < 0 ∨ n ≤ i.toNatClampNeg then none else k
theorem gd_d {α : Type} {i : Int32} {n : Nat} {k : Option α} {z : α} (h : gd i n k = some z) : vp_in i n ∧ k = some z := by
  unfold gd at h
  by_cases c : i < 0 ∨ n ≤ i.toNatClampNeg
  · rw [if_pos c] at h; cases h
  · rw [if_neg c] at h; exact ⟨c, h⟩
def nm {α β : Type} (a : α) (k : α → Option β) : Option β := k a
theorem nm_d {α β : Type} {a : α} {k : α → Option β} {z : β} (h : nm a k = some z) : ∃ g, g = a ∧ k g = some z := ⟨a, rfl, h⟩
def dv {α : Type} (y : Int32) (k : Option α) : Option α := if y = 0 then none else k
theorem dv_d {α : Type} {y : Int32} {k : Option α} {z : α} (h : dv y k = some z) : ¬ y = 0 ∧ k = some z := by
  unfold dv at h
  by_cases c : y = 0
  · rw [if_pos c] at h; cases h
  · rw [if_neg c] at h; exact ⟨c, h⟩
def gz {α : Type} (x : Int32) (k : Option α) : Option α := if x = 0 ∨ x = 1 then k else none
theorem gz_d {α : Type} {x : Int32} {k : Option α} {z : α} (h : gz x k = some z) : (x = 0 ∨ x = 1) ∧ k = some z := by
  unfold gz at h
  by_cases c : x = 0 ∨ x = 1
  · rw [if_pos c] at h; exact ⟨c, h⟩
  · rw [if_neg c] at h; cases h
theorem gz_n {x : Int32} (h : x = 0 ∨ x = 1) : narrow .boolean (.int x) = .int x := by rcases h with rfl | rfl <;> rfl
theorem gz_f {x : Int32} (h : x = 0 ∨ x = 1) : fits .boolean (.int x) = true := by rcases h with rfl | rfl <;> rfl
theorem z_no {α : Type} {x : α} {P : Prop} (h : (none : Option α) = some x) : P := by cases h
theorem vin_lit {i : Int32} {n : Nat} (h : ¬ (i < 0 ∨ n ≤ i.toNatClampNeg)) : vp_in i n := h
theorem tsw_out {x : Int32} {lo hi : Int} (h : ∀ n : Int, lo ≤ n → n ≤ hi → ¬ x.toInt = n) : x.toInt < lo ∨ hi < x.toInt := by
  by_cases a : x.toInt < lo
  · exact Or.inl a
  · by_cases b : hi < x.toInt
    · exact Or.inr b
    · exact absurd rfl (h x.toInt (by omega) (by omega))
theorem ti_ne {x y : Int32} {n : Int} (h : ¬ x = y) (hy : y.toInt = n) : ¬ x.toInt = n := fun e => h (Int32.toInt_inj.mp (e.trans hy.symm))
def ob1 {α1 ρ : Type} (x : Option (α1)) (k : α1 → Option ρ) : Option ρ := match x with
  | none => none
  | some (a0) => k a0
theorem ob1_d {α1 ρ : Type} {x : Option (α1)} {k : α1 → Option ρ} {z : ρ} (h : ob1 x k = some z) : ∃ a0, x = some (a0) ∧ k a0 = some z := by
  cases x with
  | none => cases h
  | some q => exact ⟨q, rfl, h⟩
def ob2 {α1 α2 ρ : Type} (x : Option (α1 × α2)) (k : α1 → α2 → Option ρ) : Option ρ := match x with
  | none => none
  | some (a0, a1) => k a0 a1
theorem ob2_d {α1 α2 ρ : Type} {x : Option (α1 × α2)} {k : α1 → α2 → Option ρ} {z : ρ} (h : ob2 x k = some z) : ∃ a0 a1, x = some (a0, a1) ∧ k a0 a1 = some z := by
  cases x with
  | none => cases h
  | some q => exact ⟨q.1, q.2, rfl, h⟩
def ob3 {α1 α2 α3 ρ : Type} (x : Option (α1 × α2 × α3)) (k : α1 → α2 → α3 → Option ρ) : Option ρ := match x with
  | none => none
  | some (a0, a1, a2) => k a0 a1 a2
theorem ob3_d {α1 α2 α3 ρ : Type} {x : Option (α1 × α2 × α3)} {k : α1 → α2 → α3 → Option ρ} {z : ρ} (h : ob3 x k = some z) : ∃ a0 a1 a2, x = some (a0, a1, a2) ∧ k a0 a1 a2 = some z := by
  cases x with
  | none => cases h
  | some q => exact ⟨q.1, q.2.1, q.2.2, rfl, h⟩
def ob4 {α1 α2 α3 α4 ρ : Type} (x : Option (α1 × α2 × α3 × α4)) (k : α1 → α2 → α3 → α4 → Option ρ) : Option ρ := match x with
  | none => none
  | some (a0, a1, a2, a3) => k a0 a1 a2 a3
theorem ob4_d {α1 α2 α3 α4 ρ : Type} {x : Option (α1 × α2 × α3 × α4)} {k : α1 → α2 → α3 → α4 → Option ρ} {z : ρ} (h : ob4 x k = some z) : ∃ a0 a1 a2 a3, x = some (a0, a1, a2, a3) ∧ k a0 a1 a2 a3 = some z := by
  cases x with
  | none => cases h
  | some q => exact ⟨q.1, q.2.1, q.2.2.1, q.2.2.2, rfl, h⟩
def ob5 {α1 α2 α3 α4 α5 ρ : Type} (x : Option (α1 × α2 × α3 × α4 × α5)) (k : α1 → α2 → α3 → α4 → α5 → Option ρ) : Option ρ := match x with
  | none => none
  | some (a0, a1, a2, a3, a4) => k a0 a1 a2 a3 a4
theorem ob5_d {α1 α2 α3 α4 α5 ρ : Type} {x : Option (α1 × α2 × α3 × α4 × α5)} {k : α1 → α2 → α3 → α4 → α5 → Option ρ} {z : ρ} (h : ob5 x k = some z) : ∃ a0 a1 a2 a3 a4, x = some (a0, a1, a2, a3, a4) ∧ k a0 a1 a2 a3 a4 = some z := by
  cases x with
  | none => cases h
  | some q => exact ⟨q.1, q.2.1, q.2.2.1, q.2.2.2.1, q.2.2.2.2, rfl, h⟩
def ob6 {α1 α2 α3 α4 α5 α6 ρ : Type} (x : Option (α1 × α2 × α3 × α4 × α5 × α6)) (k : α1 → α2 → α3 → α4 → α5 → α6 → Option ρ) : Option ρ := match x with
  | none => none
  | some (a0, a1, a2, a3, a4, a5) => k a0 a1 a2 a3 a4 a5
theorem ob6_d {α1 α2 α3 α4 α5 α6 ρ : Type} {x : Option (α1 × α2 × α3 × α4 × α5 × α6)} {k : α1 → α2 → α3 → α4 → α5 → α6 → Option ρ} {z : ρ} (h : ob6 x k = some z) : ∃ a0 a1 a2 a3 a4 a5, x = some (a0, a1, a2, a3, a4, a5) ∧ k a0 a1 a2 a3 a4 a5 = some z := by
  cases x with
  | none => cases h
  | some q => exact ⟨q.1, q.2.1, q.2.2.1, q.2.2.2.1, q.2.2.2.2.1, q.2.2.2.2.2, rfl, h⟩
def ob7 {α1 α2 α3 α4 α5 α6 α7 ρ : Type} (x : Option (α1 × α2 × α3 × α4 × α5 × α6 × α7)) (k : α1 → α2 → α3 → α4 → α5 → α6 → α7 → Option ρ) : Option ρ := match x with
  | none => none
  | some (a0, a1, a2, a3, a4, a5, a6) => k a0 a1 a2 a3 a4 a5 a6
theorem ob7_d {α1 α2 α3 α4 α5 α6 α7 ρ : Type} {x : Option (α1 × α2 × α3 × α4 × α5 × α6 × α7)} {k : α1 → α2 → α3 → α4 → α5 → α6 → α7 → Option ρ} {z : ρ} (h : ob7 x k = some z) : ∃ a0 a1 a2 a3 a4 a5 a6, x = some (a0, a1, a2, a3, a4, a5, a6) ∧ k a0 a1 a2 a3 a4 a5 a6 = some z := by
  cases x with
  | none => cases h
  | some q => exact ⟨q.1, q.2.1, q.2.2.1, q.2.2.2.1, q.2.2.2.2.1, q.2.2.2.2.2.1, q.2.2.2.2.2.2, rfl, h⟩
def ob8 {α1 α2 α3 α4 α5 α6 α7 α8 ρ : Type} (x : Option (α1 × α2 × α3 × α4 × α5 × α6 × α7 × α8)) (k : α1 → α2 → α3 → α4 → α5 → α6 → α7 → α8 → Option ρ) : Option ρ := match x with
  | none => none
  | some (a0, a1, a2, a3, a4, a5, a6, a7) => k a0 a1 a2 a3 a4 a5 a6 a7
theorem ob8_d {α1 α2 α3 α4 α5 α6 α7 α8 ρ : Type} {x : Option (α1 × α2 × α3 × α4 × α5 × α6 × α7 × α8)} {k : α1 → α2 → α3 → α4 → α5 → α6 → α7 → α8 → Option ρ} {z : ρ} (h : ob8 x k = some z) : ∃ a0 a1 a2 a3 a4 a5 a6 a7, x = some (a0, a1, a2, a3, a4, a5, a6, a7) ∧ k a0 a1 a2 a3 a4 a5 a6 a7 = some z := by
  cases x with
  | none => cases h
  | some q => exact ⟨q.1, q.2.1, q.2.2.1, q.2.2.2.1, q.2.2.2.2.1, q.2.2.2.2.2.1, q.2.2.2.2.2.2.1, q.2.2.2.2.2.2.2, rfl, h⟩
def ob9 {α1 α2 α3 α4 α5 α6 α7 α8 α9 ρ : Type} (x : Option (α1 × α2 × α3 × α4 × α5 × α6 × α7 × α8 × α9)) (k : α1 → α2 → α3 → α4 → α5 → α6 → α7 → α8 → α9 → Option ρ) : Option ρ := match x with
  | none => none
  | some (a0, a1, a2, a3, a4, a5, a6, a7, a8) => k a0 a1 a2 a3 a4 a5 a6 a7 a8
theorem ob9_d {α1 α2 α3 α4 α5 α6 α7 α8 α9 ρ : Type} {x : Option (α1 × α2 × α3 × α4 × α5 × α6 × α7 × α8 × α9)} {k : α1 → α2 → α3 → α4 → α5 → α6 → α7 → α8 → α9 → Option ρ} {z : ρ} (h : ob9 x k = some z) : ∃ a0 a1 a2 a3 a4 a5 a6 a7 a8, x = some (a0, a1, a2, a3, a4, a5, a6, a7, a8) ∧ k a0 a1 a2 a3 a4 a5 a6 a7 a8 = some z := by
  cases x with
  | none => cases h
  | some q => exact ⟨q.1, q.2.1, q.2.2.1, q.2.2.2.1, q.2.2.2.2.1, q.2.2.2.2.2.1, q.2.2.2.2.2.2.1, q.2.2.2.2.2.2.2.1, q.2.2.2.2.2.2.2.2, rfl, h⟩
def ob10 {α1 α2 α3 α4 α5 α6 α7 α8 α9 α10 ρ : Type} (x : Option (α1 × α2 × α3 × α4 × α5 × α6 × α7 × α8 × α9 × α10)) (k : α1 → α2 → α3 → α4 → α5 → α6 → α7 → α8 → α9 → α10 → Option ρ) : Option ρ := match x with
  | none => none
  | some (a0, a1, a2, a3, a4, a5, a6, a7, a8, a9) => k a0 a1 a2 a3 a4 a5 a6 a7 a8 a9
theorem ob10_d {α1 α2 α3 α4 α5 α6 α7 α8 α9 α10 ρ : Type} {x : Option (α1 × α2 × α3 × α4 × α5 × α6 × α7 × α8 × α9 × α10)} {k : α1 → α2 → α3 → α4 → α5 → α6 → α7 → α8 → α9 → α10 → Option ρ} {z : ρ} (h : ob10 x k = some z) : ∃ a0 a1 a2 a3 a4 a5 a6 a7 a8 a9, x = some (a0, a1, a2, a3, a4, a5, a6, a7, a8, a9) ∧ k a0 a1 a2 a3 a4 a5 a6 a7 a8 a9 = some z := by
  cases x with
  | none => cases h
  | some q => exact ⟨q.1, q.2.1, q.2.2.1, q.2.2.2.1, q.2.2.2.2.1, q.2.2.2.2.2.1, q.2.2.2.2.2.2.1, q.2.2.2.2.2.2.2.1, q.2.2.2.2.2.2.2.2.1, q.2.2.2.2.2.2.2.2.2, rfl, h⟩
def ob11 {α1 α2 α3 α4 α5 α6 α7 α8 α9 α10 α11 ρ : Type} (x : Option (α1 × α2 × α3 × α4 × α5 × α6 × α7 × α8 × α9 × α10 × α11)) (k : α1 → α2 → α3 → α4 → α5 → α6 → α7 → α8 → α9 → α10 → α11 → Option ρ) : Option ρ := match x with
  | none => none
  | some (a0, a1, a2, a3, a4, a5, a6, a7, a8, a9, a10) => k a0 a1 a2 a3 a4 a5 a6 a7 a8 a9 a10
theorem ob11_d {α1 α2 α3 α4 α5 α6 α7 α8 α9 α10 α11 ρ : Type} {x : Option (α1 × α2 × α3 × α4 × α5 × α6 × α7 × α8 × α9 × α10 × α11)} {k : α1 → α2 → α3 → α4 → α5 → α6 → α7 → α8 → α9 → α10 → α11 → Option ρ} {z : ρ} (h : ob11 x k = some z) : ∃ a0 a1 a2 a3 a4 a5 a6 a7 a8 a9 a10, x = some (a0, a1, a2, a3, a4, a5, a6, a7, a8, a9, a10) ∧ k a0 a1 a2 a3 a4 a5 a6 a7 a8 a9 a10 = some z := by
  cases x with
  | none => cases h
  | some q => exact ⟨q.1, q.2.1, q.2.2.1, q.2.2.2.1, q.2.2.2.2.1, q.2.2.2.2.2.1, q.2.2.2.2.2.2.1, q.2.2.2.2.2.2.2.1, q.2.2.2.2.2.2.2.2.1, q.2.2.2.2.2.2.2.2.2.1, q.2.2.2.2.2.2.2.2.2.2, rfl, h⟩
def ob12 {α1 α2 α3 α4 α5 α6 α7 α8 α9 α10 α11 α12 ρ : Type} (x : Option (α1 × α2 × α3 × α4 × α5 × α6 × α7 × α8 × α9 × α10 × α11 × α12)) (k : α1 → α2 → α3 → α4 → α5 → α6 → α7 → α8 → α9 → α10 → α11 → α12 → Option ρ) : Option ρ := match x with
  | none => none
  | some (a0, a1, a2, a3, a4, a5, a6, a7, a8, a9, a10, a11) => k a0 a1 a2 a3 a4 a5 a6 a7 a8 a9 a10 a11
theorem ob12_d {α1 α2 α3 α4 α5 α6 α7 α8 α9 α10 α11 α12 ρ : Type} {x : Option (α1 × α2 × α3 × α4 × α5 × α6 × α7 × α8 × α9 × α10 × α11 × α12)} {k : α1 → α2 → α3 → α4 → α5 → α6 → α7 → α8 → α9 → α10 → α11 → α12 → Option ρ} {z : ρ} (h : ob12 x k = some z) : ∃ a0 a1 a2 a3 a4 a5 a6 a7 a8 a9 a10 a11, x = some (a0, a1, a2, a3, a4, a5, a6, a7, a8, a9, a10, a11) ∧ k a0 a1 a2 a3 a4 a5 a6 a7 a8 a9 a10 a11 = some z := by
  cases x with
  | none => cases h
  | some q => exact ⟨q.1, q.2.1, q.2.2.1, q.2.2.2.1, q.2.2.2.2.1, q.2.2.2.2.2.1, q.2.2.2.2.2.2.1, q.2.2.2.2.2.2.2.1, q.2.2.2.2.2.2.2.2.1, q.2.2.2.2.2.2.2.2.2.1, q.2.2.2.2.2.2.2.2.2.2.1, q.2.2.2.2.2.2.2.2.2.2.2, rfl, h⟩
def ob13 {α1 α2 α3 α4 α5 α6 α7 α8 α9 α10 α11 α12 α13 ρ : Type} (x : Option (α1 × α2 × α3 × α4 × α5 × α6 × α7 × α8 × α9 × α10 × α11 × α12 × α13)) (k : α1 → α2 → α3 → α4 → α5 → α6 → α7 → α8 → α9 → α10 → α11 → α12 → α13 → Option ρ) : Option ρ := match x with
  | none => none
  | some (a0, a1, a2, a3, a4, a5, a6, a7, a8, a9, a10, a11, a12) => k a0 a1 a2 a3 a4 a5 a6 a7 a8 a9 a10 a11 a12
theorem ob13_d {α1 α2 α3 α4 α5 α6 α7 α8 α9 α10 α11 α12 α13 ρ : Type} {x : Option (α1 × α2 × α3 × α4 × α5 × α6 × α7 × α8 × α9 × α10 × α11 × α12 × α13)} {k : α1 → α2 → α3 → α4 → α5 → α6 → α7 → α8 → α9 → α10 → α11 → α12 → α13 → Option ρ} {z : ρ} (h : ob13 x k = some z) : ∃ a0 a1 a2 a3 a4 a5 a6 a7 a8 a9 a10 a11 a12, x = some (a0, a1, a2, a3, a4, a5, a6, a7, a8, a9, a10, a11, a12) ∧ k a0 a1 a2 a3 a4 a5 a6 a7 a8 a9 a10 a11 a12 = some z := by
  cases x with
  | none => cases h
  | some q => exact ⟨q.1, q.2.1, q.2.2.1, q.2.2.2.1, q.2.2.2.2.1, q.2.2.2.2.2.1, q.2.2.2.2.2.2.1, q.2.2.2.2.2.2.2.1, q.2.2.2.2.2.2.2.2.1, q.2.2.2.2.2.2.2.2.2.1, q.2.2.2.2.2.2.2.2.2.2.1, q.2.2.2.2.2.2.2.2.2.2.2.1, q.2.2.2.2.2.2.2.2.2.2.2.2, rfl, h⟩
def ob14 {α1 α2 α3 α4 α5 α6 α7 α8 α9 α10 α11 α12 α13 α14 ρ : Type} (x : Option (α1 × α2 × α3 × α4 × α5 × α6 × α7 × α8 × α9 × α10 × α11 × α12 × α13 × α14)) (k : α1 → α2 → α3 → α4 → α5 → α6 → α7 → α8 → α9 → α10 → α11 → α12 → α13 → α14 → Option ρ) : Option ρ := match x with
  | none => none
  | some (a0, a1, a2, a3, a4, a5, a6, a7, a8, a9, a10, a11, a12, a13) => k a0 a1 a2 a3 a4 a5 a6 a7 a8 a9 a10 a11 a12 a13
theorem ob14_d {α1 α2 α3 α4 α5 α6 α7 α8 α9 α10 α11 α12 α13 α14 ρ : Type} {x : Option (α1 × α2 × α3 × α4 × α5 × α6 × α7 × α8 × α9 × α10 × α11 × α12 × α13 × α14)} {k : α1 → α2 → α3 → α4 → α5 → α6 → α7 → α8 → α9 → α10 → α11 → α12 → α13 → α14 → Option ρ} {z : ρ} (h : ob14 x k = some z) : ∃ a0 a1 a2 a3 a4 a5 a6 a7 a8 a9 a10 a11 a12 a13, x = some (a0, a1, a2, a3, a4, a5, a6, a7, a8, a9, a10, a11, a12, a13) ∧ k a0 a1 a2 a3 a4 a5 a6 a7 a8 a9 a10 a11 a12 a13 = some z := by
  cases x with
  | none => cases h
  | some q => exact ⟨q.1, q.2.1, q.2.2.1, q.2.2.2.1, q.2.2.2.2.1, q.2.2.2.2.2.1, q.2.2.2.2.2.2.1, q.2.2.2.2.2.2.2.1, q.2.2.2.2.2.2.2.2.1, q.2.2.2.2.2.2.2.2.2.1, q.2.2.2.2.2.2.2.2.2.2.1, q.2.2.2.2.2.2.2.2.2.2.2.1, q.2.2.2.2.2.2.2.2.2.2.2.2.1, q.2.2.2.2.2.2.2.2.2.2.2.2.2, rfl, h⟩
def zl0 {ρ : Type} (B : (Option ρ) → Option ρ) : Nat → Option ρ
  | 0 => none
  | n + 1 => B (zl0 B n)
def zl1 {α1 ρ : Type} (B : (α1 → Option ρ) → α1 → Option ρ) : Nat → α1 → Option ρ
  | 0 => fun _ => none
  | n + 1 => B (zl1 B n)
def zl2 {α1 α2 ρ : Type} (B : (α1 → α2 → Option ρ) → α1 → α2 → Option ρ) : Nat → α1 → α2 → Option ρ
  | 0 => fun _ _ => none
  | n + 1 => B (zl2 B n)
def zl3 {α1 α2 α3 ρ : Type} (B : (α1 → α2 → α3 → Option ρ) → α1 → α2 → α3 → Option ρ) : Nat → α1 → α2 → α3 → Option ρ
  | 0 => fun _ _ _ => none
  | n + 1 => B (zl3 B n)
def zl4 {α1 α2 α3 α4 ρ : Type} (B : (α1 → α2 → α3 → α4 → Option ρ) → α1 → α2 → α3 → α4 → Option ρ) : Nat → α1 → α2 → α3 → α4 → Option ρ
  | 0 => fun _ _ _ _ => none
  | n + 1 => B (zl4 B n)
def zl5 {α1 α2 α3 α4 α5 ρ : Type} (B : (α1 → α2 → α3 → α4 → α5 → Option ρ) → α1 → α2 → α3 → α4 → α5 → Option ρ) : Nat → α1 → α2 → α3 → α4 → α5 → Option ρ
  | 0 => fun _ _ _ _ _ => none
  | n + 1 => B (zl5 B n)
def zl6 {α1 α2 α3 α4 α5 α6 ρ : Type} (B : (α1 → α2 → α3 → α4 → α5 → α6 → Option ρ) → α1 → α2 → α3 → α4 → α5 → α6 → Option ρ) : Nat → α1 → α2 → α3 → α4 → α5 → α6 → Option ρ
  | 0 => fun _ _ _ _ _ _ => none
  | n + 1 => B (zl6 B n)
def zl7 {α1 α2 α3 α4 α5 α6 α7 ρ : Type} (B : (α1 → α2 → α3 → α4 → α5 → α6 → α7 → Option ρ) → α1 → α2 → α3 → α4 → α5 → α6 → α7 → Option ρ) : Nat → α1 → α2 → α3 → α4 → α5 → α6 → α7 → Option ρ
  | 0 => fun _ _ _ _ _ _ _ => none
  | n + 1 => B (zl7 B n)
def zl8 {α1 α2 α3 α4 α5 α6 α7 α8 ρ : Type} (B : (α1 → α2 → α3 → α4 → α5 → α6 → α7 → α8 → Option ρ) → α1 → α2 → α3 → α4 → α5 → α6 → α7 → α8 → Option ρ) : Nat → α1 → α2 → α3 → α4 → α5 → α6 → α7 → α8 → Option ρ
  | 0 => fun _ _ _ _ _ _ _ _ => none
  | n + 1 => B (zl8 B n)
def zl9 {α1 α2 α3 α4 α5 α6 α7 α8 α9 ρ : Type} (B : (α1 → α2 → α3 → α4 → α5 → α6 → α7 → α8 → α9 → Option ρ) → α1 → α2 → α3 → α4 → α5 → α6 → α7 → α8 → α9 → Option ρ) : Nat → α1 → α2 → α3 → α4 → α5 → α6 → α7 → α8 → α9 → Option ρ
  | 0 => fun _ _ _ _ _ _ _ _ _ => none
  | n + 1 => B (zl9 B n)
def zl10 {α1 α2 α3 α4 α5 α6 α7 α8 α9 α10 ρ : Type} (B : (α1 → α2 → α3 → α4 → α5 → α6 → α7 → α8 → α9 → α10 → Option ρ) → α1 → α2 → α3 → α4 → α5 → α6 → α7 → α8 → α9 → α10 → Option ρ) : Nat → α1 → α2 → α3 → α4 → α5 → α6 → α7 → α8 → α9 → α10 → Option ρ
  | 0 => fun _ _ _ _ _ _ _ _ _ _ => none
  | n + 1 => B (zl10 B n)
def zl11 {α1 α2 α3 α4 α5 α6 α7 α8 α9 α10 α11 ρ : Type} (B : (α1 → α2 → α3 → α4 → α5 → α6 → α7 → α8 → α9 → α10 → α11 → Option ρ) → α1 → α2 → α3 → α4 → α5 → α6 → α7 → α8 → α9 → α10 → α11 → Option ρ) : Nat → α1 → α2 → α3 → α4 → α5 → α6 → α7 → α8 → α9 → α10 → α11 → Option ρ
  | 0 => fun _ _ _ _ _ _ _ _ _ _ _ => none
  | n + 1 => B (zl11 B n)
def zl12 {α1 α2 α3 α4 α5 α6 α7 α8 α9 α10 α11 α12 ρ : Type} (B : (α1 → α2 → α3 → α4 → α5 → α6 → α7 → α8 → α9 → α10 → α11 → α12 → Option ρ) → α1 → α2 → α3 → α4 → α5 → α6 → α7 → α8 → α9 → α10 → α11 → α12 → Option ρ) : Nat → α1 → α2 → α3 → α4 → α5 → α6 → α7 → α8 → α9 → α10 → α11 → α12 → Option ρ
  | 0 => fun _ _ _ _ _ _ _ _ _ _ _ _ => none
  | n + 1 => B (zl12 B n)
def zl13 {α1 α2 α3 α4 α5 α6 α7 α8 α9 α10 α11 α12 α13 ρ : Type} (B : (α1 → α2 → α3 → α4 → α5 → α6 → α7 → α8 → α9 → α10 → α11 → α12 → α13 → Option ρ) → α1 → α2 → α3 → α4 → α5 → α6 → α7 → α8 → α9 → α10 → α11 → α12 → α13 → Option ρ) : Nat → α1 → α2 → α3 → α4 → α5 → α6 → α7 → α8 → α9 → α10 → α11 → α12 → α13 → Option ρ
  | 0 => fun _ _ _ _ _ _ _ _ _ _ _ _ _ => none
  | n + 1 => B (zl13 B n)
def zl14 {α1 α2 α3 α4 α5 α6 α7 α8 α9 α10 α11 α12 α13 α14 ρ : Type} (B : (α1 → α2 → α3 → α4 → α5 → α6 → α7 → α8 → α9 → α10 → α11 → α12 → α13 → α14 → Option ρ) → α1 → α2 → α3 → α4 → α5 → α6 → α7 → α8 → α9 → α10 → α11 → α12 → α13 → α14 → Option ρ) : Nat → α1 → α2 → α3 → α4 → α5 → α6 → α7 → α8 → α9 → α10 → α11 → α12 → α13 → α14 → Option ρ
  | 0 => fun _ _ _ _ _ _ _ _ _ _ _ _ _ _ => none
  | n + 1 => B (zl14 B n)
/-! what a callee may take over -/
theorem goodWA {w : Cond} (h : w ∈ wsA) : (w.onTables && w.keeps) = true ∨ ∃ ty, w = .arrayClass ty := good_of_word (List.mem_filter.mp h).2
abbrev wsM (y : MethodName) (b : ByteArray) (n : Nat) (r : Option FieldType) : List Cond := Cond.code y b n r :: wsA
theorem goodSub {ws : List Cond} (h : ∀ w ∈ ws, w ∈ wsA) : GoodIn wsA ws := fun w hw => ⟨h w hw, goodWA (h w hw)⟩
theorem gM {y : MethodName} {b : ByteArray} {n : Nat} {r : Option FieldType} (h : Cond.code y b n r ∈ wsA) : GoodIn wsA (wsM y b n r) := goodSub (fun w hw => by
  rcases List.mem_cons.mp hw with e | hw
  · rw [e]; exact h
  · exact hw)
theorem lay_0 : ∀ k, k < 3 → u_lay RX0 TX0 k ∈ wsA := fun k hk => match k, hk with
  | 0, _ => mw_53
  | 1, _ => mw_54
  | 2, _ => mw_55
  | n + 3, h => absurd h (by omega)
theorem hin_0 : ∀ w ∈ u_ws RX0 TX0 3, w ∈ wsA := fun w hw => by
  obtain ⟨k, hk, rfl⟩ := List.mem_map.mp hw
  exact lay_0 k (List.mem_range.mp hk)
theorem lay_1 : ∀ k, k < 3 → u_lay RX1 TX1 k ∈ wsA := fun k hk => match k, hk with
  | 0, _ => mw_42
  | 1, _ => mw_43
  | 2, _ => mw_44
  | n + 3, h => absurd h (by omega)
theorem hin_1 : ∀ w ∈ u_ws RX1 TX1 3, w ∈ wsA := fun w hw => by
  obtain ⟨k, hk, rfl⟩ := List.mem_map.mp hw
  exact lay_1 k (List.mem_range.mp hk)
theorem lay_2 : ∀ k, k < 1 → u_lay RX2 TX2 k ∈ wsA := fun k hk => match k, hk with
  | 0, _ => mw_131
  | n + 1, h => absurd h (by omega)
theorem hin_2 : ∀ w ∈ u_ws RX2 TX2 1, w ∈ wsA := fun w hw => by
  obtain ⟨k, hk, rfl⟩ := List.mem_map.mp hw
  exact lay_2 k (List.mem_range.mp hk)
theorem lay_3 : ∀ k, k < 2 → u_lay RX3 TX3 k ∈ wsA := fun k hk => match k, hk with
  | 0, _ => mw_26
  | 1, _ => mw_27
  | n + 2, h => absurd h (by omega)
theorem hin_3 : ∀ w ∈ u_ws RX3 TX3 2, w ∈ wsA := fun w hw => by
  obtain ⟨k, hk, rfl⟩ := List.mem_map.mp hw
  exact lay_3 k (List.mem_range.mp hk)
theorem lay_4 : ∀ k, k < 2 → u_lay RX4 TX4 k ∈ wsA := fun k hk => match k, hk with
  | 0, _ => mw_139
  | 1, _ => mw_140
  | n + 2, h => absurd h (by omega)
theorem hin_4 : ∀ w ∈ u_ws RX4 TX4 2, w ∈ wsA := fun w hw => by
  obtain ⟨k, hk, rfl⟩ := List.mem_map.mp hw
  exact lay_4 k (List.mem_range.mp hk)
theorem lay_5 : ∀ k, k < 17 → u_lay RX5 TX5 k ∈ wsA := fun k hk => match k, hk with
  | 0, _ => mw_108
  | 1, _ => mw_109
  | 2, _ => mw_110
  | 3, _ => mw_111
  | 4, _ => mw_112
  | 5, _ => mw_113
  | 6, _ => mw_114
  | 7, _ => mw_115
  | 8, _ => mw_116
  | 9, _ => mw_117
  | 10, _ => mw_118
  | 11, _ => mw_119
  | 12, _ => mw_120
  | 13, _ => mw_121
  | 14, _ => mw_122
  | 15, _ => mw_123
  | 16, _ => mw_124
  | n + 17, h => absurd h (by omega)
theorem hin_5 : ∀ w ∈ u_ws RX5 TX5 17, w ∈ wsA := fun w hw => by
  obtain ⟨k, hk, rfl⟩ := List.mem_map.mp hw
  exact lay_5 k (List.mem_range.mp hk)
theorem lay_6 : ∀ k, k < 10 → u_lay RX6 TX6 k ∈ wsA := fun k hk => match k, hk with
  | 0, _ => mw_66
  | 1, _ => mw_67
  | 2, _ => mw_68
  | 3, _ => mw_69
  | 4, _ => mw_70
  | 5, _ => mw_71
  | 6, _ => mw_72
  | 7, _ => mw_73
  | 8, _ => mw_74
  | 9, _ => mw_75
  | n + 10, h => absurd h (by omega)
theorem hin_6 : ∀ w ∈ u_ws RX6 TX6 10, w ∈ wsA := fun w hw => by
  obtain ⟨k, hk, rfl⟩ := List.mem_map.mp hw
  exact lay_6 k (List.mem_range.mp hk)
theorem lay_7 : ∀ k, k < 10 → u_lay RX7 TX7 k ∈ wsA := fun k hk => match k, hk with
  | 0, _ => mw_151
  | 1, _ => mw_152
  | 2, _ => mw_153
  | 3, _ => mw_154
  | 4, _ => mw_155
  | 5, _ => mw_156
  | 6, _ => mw_157
  | 7, _ => mw_158
  | 8, _ => mw_159
  | 9, _ => mw_160
  | n + 10, h => absurd h (by omega)
theorem hin_7 : ∀ w ∈ u_ws RX7 TX7 10, w ∈ wsA := fun w hw => by
  obtain ⟨k, hk, rfl⟩ := List.mem_map.mp hw
  exact lay_7 k (List.mem_range.mp hk)
theorem lay_8 : ∀ k, k < 37 → u_lay RX8 TX8 k ∈ wsA := fun k hk => match k, hk with
  | 0, _ => mw_627
  | 1, _ => mw_628
  | 2, _ => mw_629
  | 3, _ => mw_630
  | 4, _ => mw_631
  | 5, _ => mw_632
  | 6, _ => mw_633
  | 7, _ => mw_634
  | 8, _ => mw_635
  | 9, _ => mw_636
  | 10, _ => mw_637
  | 11, _ => mw_638
  | 12, _ => mw_639
  | 13, _ => mw_640
  | 14, _ => mw_641
  | 15, _ => mw_642
  | 16, _ => mw_643
  | 17, _ => mw_644
  | 18, _ => mw_645
  | 19, _ => mw_646
  | 20, _ => mw_647
  | 21, _ => mw_648
  | 22, _ => mw_649
  | 23, _ => mw_650
  | 24, _ => mw_651
  | 25, _ => mw_652
  | 26, _ => mw_653
  | 27, _ => mw_654
  | 28, _ => mw_655
  | 29, _ => mw_656
  | 30, _ => mw_657
  | 31, _ => mw_658
  | 32, _ => mw_659
  | 33, _ => mw_660
  | 34, _ => mw_661
  | 35, _ => mw_662
  | 36, _ => mw_663
  | n + 37, h => absurd h (by omega)
theorem hin_8 : ∀ w ∈ u_ws RX8 TX8 37, w ∈ wsA := fun w hw => by
  obtain ⟨k, hk, rfl⟩ := List.mem_map.mp hw
  exact lay_8 k (List.mem_range.mp hk)
def nestWs : List Cond := [Cond.methodLinkNest "Embayed" 9 yX3_init "Embayed", Cond.methodLinkNest "Embayed" 18 yX6_init "Embayed", Cond.methodLinkNest "Embayed$World" 9 yX1_init "Embayed", Cond.methodLinkNest "Embayed$World" 18 yX0_init "Embayed", Cond.methodLinkNest "Embayed" 41 yX2_init "Embayed", Cond.methodLinkNest "Embayed" 48 yX4_init "Embayed", Cond.methodLinkNest "Embayed$Letters" 19 yX7_valueAt "Embayed", Cond.methodLinkNest "Embayed$World" 56 yX7_isSea "Embayed", Cond.methodLinkNest "Embayed$Ship" 88 yX7_goneRound "Embayed", Cond.methodLinkNest "Embayed$Ship" 108 yX7_apart "Embayed", Cond.methodLinkNest "Embayed$Ship" 175 yX7_holdOf "Embayed", Cond.methodLinkNest "Embayed$Ship" 178 yX7_loadOf "Embayed", Cond.methodLinkNest "Embayed$Ship" 122 yX7_leeOf "Embayed", Cond.methodLinkNest "Embayed$Chart" 41 yX7_valueAt "Embayed", Cond.methodLinkNest "Embayed$Escape" 33 yX7_apart "Embayed", Cond.methodLinkNest "Embayed$Escape" 54 yX7_leeOf "Embayed", Cond.methodLinkNest "Embayed$Escape" 15 yX7_valueAt "Embayed", Cond.methodLinkNest "Embayed$Chart" 62 yX7_isSea "Embayed", Cond.methodLinkNest "Embayed$LogBook" 28 yX7_valueAt "Embayed", Cond.methodLinkNest "Embayed$Chart" 65 yX7_copyRow "Embayed", Cond.methodLinkNest "Embayed$Book" 22 yX7_copyRow "Embayed", Cond.fieldLinkNest "Embayed$Chart" 22 "Embayed$Letters" "told" "I" "Embayed", Cond.fieldLinkNest "Embayed" 65 "Embayed$Letters" "told" "I" "Embayed", Cond.fieldLinkNest "Embayed" 303 "Embayed$Chart" "rows" "I" "Embayed", Cond.fieldLinkNest "Embayed" 306 "Embayed$Chart" "columns" "I" "Embayed", Cond.fieldLinkNest "Embayed" 309 "Embayed$Book" "told" "I" "Embayed", Cond.fieldLinkNest "Embayed" 79 "Embayed$World" "chart" "LEmbayed$Chart;" "Embayed", Cond.fieldLinkNest "Embayed$Escape" 45 "Embayed$World" "chart" "LEmbayed$Chart;" "Embayed", Cond.fieldLinkNest "Embayed$Ship" 163 "Embayed$World" "chart" "LEmbayed$Chart;" "Embayed", Cond.fieldLinkNest "Embayed" 122 "Embayed$World" "shifts" "LEmbayed$Book;" "Embayed", Cond.fieldLinkNest "Embayed$Ship" 76 "Embayed$World" "shifts" "LEmbayed$Book;" "Embayed", Cond.fieldLinkNest "Embayed" 135 "Embayed$World" "tides" "LEmbayed$Book;" "Embayed", Cond.fieldLinkNest "Embayed$Ship" 91 "Embayed$World" "tides" "LEmbayed$Book;" "Embayed", Cond.fieldLinkNest "Embayed$Ship" 115 "Embayed$World" "sea" "I" "Embayed", Cond.fieldLinkNest "Embayed$Ship" 195 "Embayed$World" "draft" "I" "Embayed", Cond.fieldLinkNest "Embayed$Ship" 198 "Embayed$World" "leak" "I" "Embayed", Cond.fieldLinkNest "Embayed$Ship" 94 "Embayed$World" "crew" "I" "Embayed", Cond.fieldLinkNest "Embayed" 313 "Embayed$World" "crew" "I" "Embayed", Cond.fieldLinkNest "Embayed$Escape" 37 "Embayed$World" "near" "I" "Embayed", Cond.fieldLinkNest "Embayed$Ship" 112 "Embayed$World" "near" "I" "Embayed", Cond.fieldLinkNest "Embayed" 188 "Embayed$World" "guns" "I" "Embayed", Cond.fieldLinkNest "Embayed$Ship" 181 "Embayed$World" "guns" "I" "Embayed", Cond.fieldLinkNest "Embayed" 155 "Embayed$Ship" "inBay" "Z" "Embayed", Cond.fieldLinkNest "Embayed$LogBook" 25 "Embayed$Ship" "place" "I" "Embayed", Cond.fieldLinkNest "Embayed" 158 "Embayed$Ship" "place" "I" "Embayed", Cond.fieldLinkNest "Embayed" 152 "Embayed$Ship" "heading" "I" "Embayed", Cond.fieldLinkNest "Embayed" 161 "Embayed$Ship" "sails" "I" "Embayed", Cond.fieldLinkNest "Embayed" 164 "Embayed$Ship" "masts" "I" "Embayed", Cond.fieldLinkNest "Embayed" 167 "Embayed$Ship" "anchors" "I" "Embayed", Cond.fieldLinkNest "Embayed" 170 "Embayed$Ship" "water" "I" "Embayed", Cond.fieldLinkNest "Embayed" 173 "Embayed$Ship" "gone" "I" "Embayed", Cond.fieldLinkNest "Embayed" 176 "Embayed$Ship" "slid" "I" "Embayed", Cond.fieldLinkNest "Embayed" 179 "Embayed$Ship" "ten" "I" "Embayed", Cond.fieldLinkNest "Embayed" 182 "Embayed$Ship" "kind" "I" "Embayed", Cond.fieldLinkNest "Embayed" 231 "Embayed$Ship" "gunless" "Z" "Embayed", Cond.fieldLinkNest "Embayed" 284 "Embayed$Ship" "turned" "I" "Embayed", Cond.fieldLinkNest "Embayed" 269 "Embayed$Ship" "toldFrom" "I" "Embayed", Cond.fieldLinkNest "Embayed" 272 "Embayed$Ship" "toldWind" "I" "Embayed", Cond.fieldLinkNest "Embayed" 300 "Embayed$LogBook" "told" "I" "Embayed", Cond.fieldLinkNest "Embayed$Chart" 38 "Embayed" "DOWN" "[I" "Embayed", Cond.fieldLinkNest "Embayed$Chart" 45 "Embayed" "ACROSS" "[I" "Embayed"]
def isNest : Cond → Bool
  | .fieldLinkNest .. => true
  | .methodLinkNest .. => true
  | _ => false
theorem nest_is : nestWs.all isNest = true := by decide +kernel
theorem nest_warm {w : Cond} (h : isNest w = true) {s U : State} (hW : s.WarmedH U.vm) (hZ : va_Nw w s) : va_Nw w U := by
  cases w <;> first | (simp [isNest] at h; done) | exact va_Nw.warmF hW hZ | exact va_Nw.warmM hW hZ
theorem nest_same {w : Cond} (h : isNest w = true) {s U : State} (hv : s.vm = U.vm) (hZ : va_Nw w s) : va_Nw w U := by
  cases w <;> first | (simp [isNest] at h; done) | exact va_Nw.same rfl hv hZ
/-! what holds of the statics and of nest mates, for a method that may change A -/
def gS (nm : String) (n : Nat) (f : Nat → Int32) (A : Nat → Prop) (U : State) : Prop := ∃ t : Nat, va_Z "Embayed" nm "[I" (.ref t) A U U.heap ∧ va_T .int t n (fun j => .int (f j)) A U U.heap
def sDOWN : Nat → Int32 := fun j => match j with
  | 0 => -1
  | 1 => -1
  | 2 => 0
  | 3 => 1
  | 4 => 1
  | 5 => 1
  | 6 => 0
  | _ => -1
def sACROSS : Nat → Int32 := fun j => match j with
  | 0 => 0
  | 1 => 1
  | 2 => 1
  | 3 => 1
  | 4 => 0
  | 5 => -1
  | 6 => -1
  | _ => -1
def sLEAST_SETTING : Nat → Int32 := fun j => match j with
  | 0 => 0
  | 1 => 1
  | 2 => 0
  | 3 => 0
  | 4 => 1
  | 5 => 0
  | _ => 0
def sGREATEST_SETTING : Nat → Int32 := fun j => match j with
  | 0 => 9
  | 1 => 9
  | 2 => 9
  | 3 => 60
  | 4 => 3
  | 5 => 9
  | _ => 99
def sROWS_OF_ACTS : Nat → Int32 := fun j => match j with
  | 0 => 1
  | 1 => 5
  | 2 => 25
  | 3 => 125
  | _ => 625
def GL (A : Nat → Prop) (U : State) : Prop := gS "DOWN" 8 sDOWN A U ∧ gS "ACROSS" 8 sACROSS A U ∧ gS "LEAST_SETTING" 7 sLEAST_SETTING A U ∧ gS "GREATEST_SETTING" 7 sGREATEST_SETTING A U ∧ gS "ROWS_OF_ACTS" 5 sROWS_OF_ACTS A U ∧ ∀ w ∈ nestWs, va_Nw w U
theorem gS.mv {nm : String} {n : Nat} {f : Nat → Int32} {A B : Nat → Prop} {s U : State} {H : Heap} {locs : List Loc} (h : gS nm n f A s) (hS : va_S A s.heap H locs) (hAB : ∀ q, B q → A q) (hU : U.heap = H) (hvm : s.vm.Alike U.vm) : gS nm n f B U := by
  obtain ⟨t, h1, h2⟩ := h
  subst hU
  refine ⟨t, ((h1.moved hvm).kept (H1 := U.heap) (fun a h1 h2 => hS.2.1 a h1 h2)).narrow hAB, ((h2.moved hvm).kept (H1 := U.heap) (fun a h1 h2 => hS.2.1 a h1 h2)).narrow hAB⟩
theorem GL.mv {A B : Nat → Prop} {s U : State} {H : Heap} {locs : List Loc} (h : GL A s) (hS : va_S A s.heap H locs) (hAB : ∀ q, B q → A q) (hU : U.heap = H) (hW : s.WarmedH U.vm) : GL B U :=
  ⟨h.1.mv hS hAB hU hW.alike, h.2.1.mv hS hAB hU hW.alike, h.2.2.1.mv hS hAB hU hW.alike, h.2.2.2.1.mv hS hAB hU hW.alike, h.2.2.2.2.1.mv hS hAB hU hW.alike, fun w hw => nest_warm (List.all_eq_true.mp nest_is w hw) hW (h.2.2.2.2.2 w hw)⟩
theorem GL.cg {A : Nat → Prop} {U U1 : State} (h : GL A U) (hh : U1.heap = U.heap) (hv : U.vm = U1.vm) : GL A U1 := by
  have ha : U.vm.Alike U1.vm := by rw [← hv]; exact Vm.Alike.refl _
  have hS : va_S A U.heap U1.heap [] := by rw [hh]; exact va_S.rf
  exact ⟨h.1.mv hS (fun _ q => q) rfl ha, h.2.1.mv hS (fun _ q => q) rfl ha, h.2.2.1.mv hS (fun _ q => q) rfl ha, h.2.2.2.1.mv hS (fun _ q => q) rfl ha, h.2.2.2.2.1.mv hS (fun _ q => q) rfl ha, fun w hw => nest_same (List.all_eq_true.mp nest_is w hw) hv (h.2.2.2.2.2 w hw)⟩
/-! cells -/
abbrev eA (cy : ClassId) (n : Nat) (f : Nat → Int32) : va_E := .inl (cy, n, .inl f)
abbrev eX0 (r0 r1 : Nat) (u : Nat → Int32) : va_E := .inr (0, [.ref r0, .ref r1, .int (u 2)])
abbrev eX1 (r0 : Nat) (u : Nat → Int32) : va_E := .inr (1, [.ref r0, .int (u 1), .int (u 2)])
abbrev eX2 (r0 : Nat) (u : Nat → Int32) : va_E := .inr (2, [.ref r0])
abbrev eX3 (r0 : Nat) (u : Nat → Int32) : va_E := .inr (3, [.ref r0, .int (u 1)])
abbrev eX4 (r0 : Nat) (u : Nat → Int32) : va_E := .inr (4, [.ref r0, .int (u 1)])
abbrev eX5 (u : Nat → Int32) : va_E := .inr (5, [.int (u 0), .int (u 1), .int (u 2), .int (u 3), .int (u 4), .int (u 5), .int (u 6), .int (u 7), .int (u 8), .int (u 9), .int (u 10), .int (u 11), .int (u 12), .int (u 13), .int (u 14), .int (u 15), .int (u 16)])
abbrev eX6 (r0 r1 r2 : Nat) (u : Nat → Int32) : va_E := .inr (6, [.ref r0, .ref r1, .ref r2, .int (u 3), .int (u 4), .int (u 5), .int (u 6), .int (u 7), .int (u 8), .int (u 9)])
abbrev eX7 (r0 r1 r2 r3 r4 r5 r6 r7 r8 : Nat) (u : Nat → Int32) : va_E := .inr (7, [.ref r0, .ref r1, .ref r2, .ref r3, .ref r4, .ref r5, .ref r6, .ref r7, .ref r8, .int (u 9)])
abbrev eX8 (r2 r4 r5 r7 r8 r10 r11 r29 r30 r32 r33 r34 r35 : Nat) (u : Nat → Int32) : va_E := .inr (8, [.int (u 0), .int (u 1), .ref r2, .int (u 3), .ref r4, .ref r5, .int (u 6), .ref r7, .ref r8, .int (u 9), .ref r10, .ref r11, .int (u 12), .int (u 13), .int (u 14), .int (u 15), .int (u 16), .int (u 17), .int (u 18), .int (u 19), .int (u 20), .int (u 21), .int (u 22), .int (u 23), .int (u 24), .int (u 25), .int (u 26), .int (u 27), .int (u 28), .ref r29, .ref r30, .int (u 31), .ref r32, .ref r33, .ref r34, .ref r35, .int (u 36)])
abbrev zW_0 (cy : ClassId) (h0 : Nat → Nat) (w0 : Nat → Nat → Int32) : va_W := [(h0 0, eX0 (h0 1) (h0 2) (w0 0)), (h0 1, eA cy 8 (w0 1)), (h0 2, eA cy 8 (w0 2))]
abbrev zW_00 (cy : ClassId) (h0 : Nat → Nat) (w0 : Nat → Nat → Int32) (h1 : Nat → Nat) (w1 : Nat → Nat → Int32) : va_W := [(h0 0, eX0 (h0 1) (h0 2) (w0 0)), (h0 1, eA cy 8 (w0 1)), (h0 2, eA cy 8 (w0 2)), (h1 0, eX0 (h1 1) (h1 2) (w1 0)), (h1 1, eA cy 8 (w1 1)), (h1 2, eA cy 8 (w1 2))]
abbrev zW_1 (cy : ClassId) (h0 : Nat → Nat) (w0 : Nat → Nat → Int32) : va_W := [(h0 0, eX1 (h0 1) (w0 0)), (h0 1, eA cy 64 (w0 1))]
abbrev zW_13 (cy : ClassId) (h0 : Nat → Nat) (w0 : Nat → Nat → Int32) (h1 : Nat → Nat) (w1 : Nat → Nat → Int32) : va_W := [(h0 0, eX1 (h0 1) (w0 0)), (h0 1, eA cy 64 (w0 1)), (h1 0, eX3 (h1 1) (w1 0)), (h1 1, eA cy 80 (w1 1))]
abbrev zW_11 (cy : ClassId) (h0 : Nat → Nat) (w0 : Nat → Nat → Int32) (h1 : Nat → Nat) (w1 : Nat → Nat → Int32) : va_W := [(h0 0, eX1 (h0 1) (w0 0)), (h0 1, eA cy 64 (w0 1)), (h1 0, eX1 (h1 1) (w1 0)), (h1 1, eA cy 64 (w1 1))]
abbrev zW_2 (cy : ClassId) (h0 : Nat → Nat) (w0 : Nat → Nat → Int32) : va_W := [(h0 0, eX2 (h0 1) (w0 0)), (h0 1, eA cy 192 (w0 1))]
abbrev zW_26 (cy : ClassId) (h0 : Nat → Nat) (w0 : Nat → Nat → Int32) (h1 : Nat → Nat) (w1 : Nat → Nat → Int32) : va_W := [(h0 0, eX2 (h0 1) (w0 0)), (h0 1, eA cy 192 (w0 1)), (h1 0, eX6 (h1 1) (h1 3) (h1 6) (w1 0)), (h1 1, eX1 (h1 2) (w1 1)), (h1 2, eA cy 64 (w1 2)), (h1 3, eX0 (h1 4) (h1 5) (w1 3)), (h1 4, eA cy 8 (w1 4)), (h1 5, eA cy 8 (w1 5)), (h1 6, eX0 (h1 7) (h1 8) (w1 6)), (h1 7, eA cy 8 (w1 7)), (h1 8, eA cy 8 (w1 8))]
abbrev zW_3 (cy : ClassId) (h0 : Nat → Nat) (w0 : Nat → Nat → Int32) : va_W := [(h0 0, eX3 (h0 1) (w0 0)), (h0 1, eA cy 80 (w0 1))]
abbrev zW_4 (cy : ClassId) (h0 : Nat → Nat) (w0 : Nat → Nat → Int32) : va_W := [(h0 0, eX4 (h0 1) (w0 0)), (h0 1, eA cy 12 (w0 1))]
abbrev zW_465 (cy : ClassId) (h0 : Nat → Nat) (w0 : Nat → Nat → Int32) (h1 : Nat → Nat) (w1 : Nat → Nat → Int32) (h2 : Nat) (w2 : Nat → Int32) : va_W := [(h0 0, eX4 (h0 1) (w0 0)), (h0 1, eA cy 12 (w0 1)), (h1 0, eX6 (h1 1) (h1 3) (h1 6) (w1 0)), (h1 1, eX1 (h1 2) (w1 1)), (h1 2, eA cy 64 (w1 2)), (h1 3, eX0 (h1 4) (h1 5) (w1 3)), (h1 4, eA cy 8 (w1 4)), (h1 5, eA cy 8 (w1 5)), (h1 6, eX0 (h1 7) (h1 8) (w1 6)), (h1 7, eA cy 8 (w1 7)), (h1 8, eA cy 8 (w1 8)), (h2, eX5 w2)]
abbrev zW_5 (cy : ClassId) (h0 : Nat) (w0 : Nat → Int32) : va_W := [(h0, eX5 w0)]
abbrev zW_56 (cy : ClassId) (h0 : Nat) (w0 : Nat → Int32) (h1 : Nat → Nat) (w1 : Nat → Nat → Int32) : va_W := [(h0, eX5 w0), (h1 0, eX6 (h1 1) (h1 3) (h1 6) (w1 0)), (h1 1, eX1 (h1 2) (w1 1)), (h1 2, eA cy 64 (w1 2)), (h1 3, eX0 (h1 4) (h1 5) (w1 3)), (h1 4, eA cy 8 (w1 4)), (h1 5, eA cy 8 (w1 5)), (h1 6, eX0 (h1 7) (h1 8) (w1 6)), (h1 7, eA cy 8 (w1 7)), (h1 8, eA cy 8 (w1 8))]
abbrev zW_55 (cy : ClassId) (h0 : Nat) (w0 : Nat → Int32) (h1 : Nat) (w1 : Nat → Int32) : va_W := [(h0, eX5 w0), (h1, eX5 w1)]
abbrev zW_6 (cy : ClassId) (h0 : Nat → Nat) (w0 : Nat → Nat → Int32) : va_W := [(h0 0, eX6 (h0 1) (h0 3) (h0 6) (w0 0)), (h0 1, eX1 (h0 2) (w0 1)), (h0 2, eA cy 64 (w0 2)), (h0 3, eX0 (h0 4) (h0 5) (w0 3)), (h0 4, eA cy 8 (w0 4)), (h0 5, eA cy 8 (w0 5)), (h0 6, eX0 (h0 7) (h0 8) (w0 6)), (h0 7, eA cy 8 (w0 7)), (h0 8, eA cy 8 (w0 8))]
abbrev zW_66 (cy : ClassId) (h0 : Nat → Nat) (w0 : Nat → Nat → Int32) (h1 : Nat → Nat) (w1 : Nat → Nat → Int32) : va_W := [(h0 0, eX6 (h0 1) (h0 3) (h0 6) (w0 0)), (h0 1, eX1 (h0 2) (w0 1)), (h0 2, eA cy 64 (w0 2)), (h0 3, eX0 (h0 4) (h0 5) (w0 3)), (h0 4, eA cy 8 (w0 4)), (h0 5, eA cy 8 (w0 5)), (h0 6, eX0 (h0 7) (h0 8) (w0 6)), (h0 7, eA cy 8 (w0 7)), (h0 8, eA cy 8 (w0 8)), (h1 0, eX6 (h1 1) (h1 3) (h1 6) (w1 0)), (h1 1, eX1 (h1 2) (w1 1)), (h1 2, eA cy 64 (w1 2)), (h1 3, eX0 (h1 4) (h1 5) (w1 3)), (h1 4, eA cy 8 (w1 4)), (h1 5, eA cy 8 (w1 5)), (h1 6, eX0 (h1 7) (h1 8) (w1 6)), (h1 7, eA cy 8 (w1 7)), (h1 8, eA cy 8 (w1 8))]
abbrev zW_7 (cy : ClassId) (h0 : Nat → Nat) (w0 : Nat → Nat → Int32) : va_W := [(h0 0, eX7 (h0 1) (h0 3) (h0 12) (h0 13) (h0 14) (h0 23) (h0 24) (h0 26) (h0 28) (w0 0)), (h0 1, eX3 (h0 2) (w0 1)), (h0 2, eA cy 80 (w0 2)), (h0 3, eX6 (h0 4) (h0 6) (h0 9) (w0 3)), (h0 4, eX1 (h0 5) (w0 4)), (h0 5, eA cy 64 (w0 5)), (h0 6, eX0 (h0 7) (h0 8) (w0 6)), (h0 7, eA cy 8 (w0 7)), (h0 8, eA cy 8 (w0 8)), (h0 9, eX0 (h0 10) (h0 11) (w0 9)), (h0 10, eA cy 8 (w0 10)), (h0 11, eA cy 8 (w0 11)), (h0 12, eX5 (w0 12)), (h0 13, eX5 (w0 13)), (h0 14, eX6 (h0 15) (h0 17) (h0 20) (w0 14)), (h0 15, eX1 (h0 16) (w0 15)), (h0 16, eA cy 64 (w0 16)), (h0 17, eX0 (h0 18) (h0 19) (w0 17)), (h0 18, eA cy 8 (w0 18)), (h0 19, eA cy 8 (w0 19)), (h0 20, eX0 (h0 21) (h0 22) (w0 20)), (h0 21, eA cy 8 (w0 21)), (h0 22, eA cy 8 (w0 22)), (h0 23, eX5 (w0 23)), (h0 24, eX2 (h0 25) (w0 24)), (h0 25, eA cy 192 (w0 25)), (h0 26, eX4 (h0 27) (w0 26)), (h0 27, eA cy 12 (w0 27)), (h0 28, eA cy 7 (w0 28))]
abbrev zW_8 (cy : ClassId) (h0 : Nat → Nat) (w0 : Nat → Nat → Int32) : va_W := [(h0 0, eX8 (h0 1) (h0 2) (h0 3) (h0 4) (h0 5) (h0 6) (h0 7) (h0 8) (h0 9) (h0 10) (h0 11) (h0 12) (h0 13) (w0 0)), (h0 1, eA cy 64 (w0 1)), (h0 2, eA cy 80 (w0 2)), (h0 3, eA cy 7 (w0 3)), (h0 4, eA cy 8 (w0 4)), (h0 5, eA cy 8 (w0 5)), (h0 6, eA cy 8 (w0 6)), (h0 7, eA cy 8 (w0 7)), (h0 8, eA cy 12 (w0 8)), (h0 9, eA cy 7 (w0 9)), (h0 10, eA cy 140 (w0 10)), (h0 11, eA cy 20 (w0 11)), (h0 12, eA cy 192 (w0 12)), (h0 13, eA cy 192 (w0 13))]
abbrev zW_A (cy : ClassId) (h0 n0 : Nat) (w0 : Nat → Int32) : va_W := [(h0, eA cy n0 w0)]
abbrev zW_AA (cy : ClassId) (h0 n0 : Nat) (w0 : Nat → Int32) (h1 n1 : Nat) (w1 : Nat → Int32) : va_W := [(h0, eA cy n0 w0), (h1, eA cy n1 w1)]
section ZR
variable {p : Program} {l : Launch} {e : Env} {R : Room} {s : State} {m : MethodId} {args : Array Value} {below : List Frame} {meth : Method} {c : Code} {H : Heap} {locs : List Loc} {cells slots : Nat} {Q : State → Prop}
variable {cc : ByteArray} {pc : Nat} {ls : Array Slot} {st rest As : List Value} {D : va_G} {cl : List vw_C} {tys : List (ClassId × FieldType)} {ws wc wn : va_W} {A : Nat → Prop} {own C host : String} {index maxL n nL : Nat} {y : MethodName} {bytes : ByteArray} {ret : Option FieldType} {rm : Room} {b a : Nat} {r : Int32} {ci : Nat} {q : vw_C} {fs : List Value}
theorem z_fm {is : List Nat} {ws ws' : va_W} (h : is.map (fun i => ws[i]?) = ws'.map some) : is.filterMap (fun i => ws[i]?) = ws' := by
  have e : is.filterMap (fun i => ws[i]?) = (is.map (fun i => ws[i]?)).filterMap id := by rw [List.filterMap_map]; rfl
  rw [e, h, List.filterMap_map]
  simp
theorem lv_zrem (hexec : p.tables.exec = Jvm.exec) (hb : c.code = cc) {x y : Int32} (hdg : decode cc pc = .ok (.irem, 1)) (hne : ¬ y = 0)
    (k : W p l e R s m args below meth c H locs cells slots Q (F0 m (pc + 1) ls (.int (zrem x y) :: rest))) : W p l e R s m args below meth c H locs cells slots Q (F0 m pc ls (.int y :: .int x :: rest)) := lv_irem hexec hb hdg hne k
theorem lv_zinc (hexec : p.tables.exec = Jvm.exec) (hb : c.code = cc) {i k : Nat} {d : Int} {x v : Int32} {lv lv' : List (Nat × Value)} (hdg : decode cc pc = .ok (.iinc i d, 3)) (h : lv_has ls nL lv) (hk : lv[k]? = some (i, .int x)) (hv : Int32.ofInt d = v) (hn : i < nL) (hl : (i, Value.int (x + v)) :: lv.filter (fun q => !(q.1 == i) && !(q.1 + 1 == i && q.2.category == 2)) = lv')
    (kk : ∀ ls' : Array Slot, lv_has ls' nL lv' → W p l e R s m args below meth c H locs cells slots Q (F0 m (pc + 3) ls' rest)) : W p l e R s m args below meth c H locs cells slots Q (F0 m pc ls rest) := by
  subst hv
  exact lv_iinc hexec hb hdg h hk rfl hn hl kk
theorem z_mmax (hexec : p.tables.exec = Jvm.exec) (hb : c.code = cc) (hml : c.maxLocals = nL) (hsz : ls.size = nL) (hts : ∀ w ∈ wsA, w.before args s = true) (hown : s.vm.findClass own = some m.cls) (hlink : Cond.methodLink own index Lib.Math.max.name ∈ wsA)
    (hframes : 1 ≤ R.frames) (hlocals : (rest.map fun v => v.category).sum + 13 ≤ R.locals) (hc : cells ≤ R.cells) (hs : slots ≤ R.slots) {x y : Int32} (hdg : decode cc pc = .ok (.invokestatic index, 3))
    (kk : W p l e R s m args below meth c H locs cells slots Q (F0 m (pc + 3) ls (.int (zmax x y) :: rest))) : W p l e R s m args below meth c H locs cells slots Q (F0 m pc ls (.int y :: .int x :: rest)) :=
  va_mmax hexec hb (hml.trans hsz.symm) hown (hts _ hlink) (hts _ mw_351) (hts _ mw_10) (hts _ mw_352) hframes hlocals hc hs hdg kk
theorem z_mmin (hexec : p.tables.exec = Jvm.exec) (hb : c.code = cc) (hml : c.maxLocals = nL) (hsz : ls.size = nL) (hts : ∀ w ∈ wsA, w.before args s = true) (hown : s.vm.findClass own = some m.cls) (hlink : Cond.methodLink own index Lib.Math.min.name ∈ wsA)
    (hframes : 1 ≤ R.frames) (hlocals : (rest.map fun v => v.category).sum + 13 ≤ R.locals) (hc : cells ≤ R.cells) (hs : slots ≤ R.slots) {x y : Int32} (hdg : decode cc pc = .ok (.invokestatic index, 3))
    (kk : W p l e R s m args below meth c H locs cells slots Q (F0 m (pc + 3) ls (.int (zmin x y) :: rest))) : W p l e R s m args below meth c H locs cells slots Q (F0 m pc ls (.int y :: .int x :: rest)) :=
  va_mmin hexec hb (hml.trans hsz.symm) hown (hts _ hlink) (hts _ mw_294) (hts _ mw_10) (hts _ mw_295) hframes hlocals hc hs hdg kk
/-- a field read -/
theorem zget (hexec : p.tables.exec = Jvm.exec) (hb : c.code = cc) (hts : ∀ w ∈ wsA, w.before args s = true) (hown : s.vm.findClass own = some m.cls) (hK : va_K D cl tys s) (hP : va_P D cl ws H) {T : u_T} {N : Nat} (hin : ∀ w ∈ u_ws C T N, w ∈ wsA) (q0 : Nat) (he : ws[q0]? = some (a, .inr (ci, fs))) (hc : cl[ci]? = some (C, T, N)) (k : Nat) (hk : k < N) (hlink : Cond.fieldLink own index (T k).1 (T k).2.1 (T k).2.2.1 ∈ wsA) {v : Value} (hv : fs[k]? = some v) (hdg : decode cc pc = .ok (.getfield index, 3))
    (kk : W p l e R s m args below meth c H locs cells slots Q (F0 m (pc + 3) ls (v :: rest))) : W p l e R s m args below meth c H locs cells slots Q (F0 m pc ls (.ref a :: rest)) :=
  va_get hexec hb hts hin hown hK hP q0 he hc k hk (hts _ hlink) (fun _ h => h) hv hdg kk
theorem zgetN (hexec : p.tables.exec = Jvm.exec) (hb : c.code = cc) (hts : ∀ w ∈ wsA, w.before args s = true) (hG : GL A s) (hown : s.vm.findClass own = some m.cls) (hK : va_K D cl tys s) (hP : va_P D cl ws H) {T : u_T} {N : Nat} (hin : ∀ w ∈ u_ws C T N, w ∈ wsA) (q0 : Nat) (he : ws[q0]? = some (a, .inr (ci, fs))) (hc : cl[ci]? = some (C, T, N)) (k : Nat) (hk : k < N) (hlink : Cond.fieldLinkNest own index (T k).1 (T k).2.1 (T k).2.2.1 host ∈ nestWs) {v : Value} (hv : fs[k]? = some v) (hdg : decode cc pc = .ok (.getfield index, 3))
    (kk : W p l e R s m args below meth c H locs cells slots Q (F0 m (pc + 3) ls (v :: rest))) : W p l e R s m args below meth c H locs cells slots Q (F0 m pc ls (.ref a :: rest)) :=
  va_getN hexec hb hts hin hown hK hP q0 he hc k hk (va_Nw.use rfl (hG.2.2.2.2.2 _ hlink)) (fun _ h => h) hv hdg kk
/-- a field written -/
theorem zput (hexec : p.tables.exec = Jvm.exec) (hb : c.code = cc) (hts : ∀ w ∈ wsA, w.before args s = true) (hown : s.vm.findClass own = some m.cls) (hK : va_K D cl tys s) (hP : va_P D cl ws H) (hD : va_D A ws) {H0 : Heap} (hS0 : va_S A H0 H locs) {T : u_T} {N : Nat} (hin : ∀ w ∈ u_ws C T N, w ∈ wsA) (ty0 : Nat → FieldType) (hty : ∀ k, k < N → parseFieldDescriptor (T k).2.2.1 = some (ty0 k)) (hnm : ∀ a, a < N → ∀ b, b < N → a ≠ b → (T a).2.1 ≠ (T b).2.1)
    (q0 : Nat) (he : ws[q0]? = some (a, .inr (ci, fs))) (hc : cl[ci]? = some (C, T, N)) (k : Nat) (hk : k < N) (hlink : Cond.fieldLink own index (T k).1 (T k).2.1 (T k).2.2.1 ∈ wsA) (hfin : (T k).2.2.2 = false) {v : Value} (hn : narrow (ty0 k) v = v) (hfit : fits (ty0 k) v = true) (hl : k < fs.length) (hwn : ws.set q0 (a, .inr (ci, fs.set k v)) = wn) (hdg : decode cc pc = .ok (.putfield index, 3))
    (kk : ∀ (H1 : Heap) (locs1 : List Loc), va_P D cl wn H1 → va_D A wn → va_S A H0 H1 locs1 → W p l e R s m args below meth c H1 locs1 cells slots Q (F0 m (pc + 3) ls rest)) : W p l e R s m args below meth c H locs cells slots Q (F0 m pc ls (v :: .ref a :: rest)) := by
  subst hwn
  exact va_put hexec hb hts hin ty0 hty hnm hown hK hP hD hS0 q0 he hc k hk (hts _ hlink) (fun _ h => h) hfin (hty k hk) hn hfit hl hdg kk
theorem zputN (hexec : p.tables.exec = Jvm.exec) (hb : c.code = cc) (hts : ∀ w ∈ wsA, w.before args s = true) (hG : GL A s) (hown : s.vm.findClass own = some m.cls) (hK : va_K D cl tys s) (hP : va_P D cl ws H) (hD : va_D A ws) {H0 : Heap} (hS0 : va_S A H0 H locs) {T : u_T} {N : Nat} (hin : ∀ w ∈ u_ws C T N, w ∈ wsA) (ty0 : Nat → FieldType) (hty : ∀ k, k < N → parseFieldDescriptor (T k).2.2.1 = some (ty0 k)) (hnm : ∀ a, a < N → ∀ b, b < N → a ≠ b → (T a).2.1 ≠ (T b).2.1)
    (q0 : Nat) (he : ws[q0]? = some (a, .inr (ci, fs))) (hc : cl[ci]? = some (C, T, N)) (k : Nat) (hk : k < N) (hlink : Cond.fieldLinkNest own index (T k).1 (T k).2.1 (T k).2.2.1 host ∈ nestWs) (hfin : (T k).2.2.2 = false) {v : Value} (hn : narrow (ty0 k) v = v) (hfit : fits (ty0 k) v = true) (hl : k < fs.length) (hwn : ws.set q0 (a, .inr (ci, fs.set k v)) = wn) (hdg : decode cc pc = .ok (.putfield index, 3))
    (kk : ∀ (H1 : Heap) (locs1 : List Loc), va_P D cl wn H1 → va_D A wn → va_S A H0 H1 locs1 → W p l e R s m args below meth c H1 locs1 cells slots Q (F0 m (pc + 3) ls rest)) : W p l e R s m args below meth c H locs cells slots Q (F0 m pc ls (v :: .ref a :: rest)) := by
  subst hwn
  exact va_putN hexec hb hts hin ty0 hty hnm hown hK hP hD hS0 q0 he hc k hk (va_Nw.use rfl (hG.2.2.2.2.2 _ hlink)) (fun _ h => h) hfin (hty k hk) hn hfit hl hdg kk
theorem zast (hexec : p.tables.exec = Jvm.exec) (hb : c.code = cc) (hK : va_K D cl tys s) (hP : va_P D cl ws H) (hD : va_D A ws) {H0 : Heap} (hS : va_S A H0 H locs) (q0 : Nat) {cA : ClassId} {n : Nat} {f g : Nat → Int32} {i : Int32} {x : Int32} (hg : g = upd f i.toNatClampNeg x) (ha : ws[q0]? = some (a, .inl (cA, n, .inl f))) (ht : tys[0]? = some (cA, .int)) (hin : vp_in i n) (hwn : ws.set q0 (a, .inl (cA, n, .inl g)) = wn) (hdg : decode cc pc = .ok (.iastore, 1))
    (kk : ∀ (H1 : Heap) (locs1 : List Loc), va_P D cl wn H1 → va_D A wn → va_S A H0 H1 locs1 → W p l e R s m args below meth c H1 locs1 cells slots Q (F0 m (pc + 1) ls rest)) : W p l e R s m args below meth c H locs cells slots Q (F0 m pc ls (.int x :: .int i :: .ref a :: rest)) := by
  subst hwn
  subst hg
  exact va_iast hexec hb hK hP hD hS q0 0 ha ht hin hdg kk
/-- reading calls: nothing changes -/
theorem zcsi {a0 : Array Value} (hr : va_Run p l e R s m args below meth c H locs cells slots 0 0 (F0 m pc ls st) rest (vp_Si (fun q => q = r) a0) (fun _ => False))
    (kk : W p l e R s m args below meth c H locs cells slots Q (F0 m (pc + 3) ls (.int r :: rest))) : W p l e R s m args below meth c H locs cells slots Q (F0 m pc ls st) := by
  intro T hT X
  obtain ⟨v, st₀, t, T', L, h0, X', hL, e1, e2, ⟨r0, hv, hp, hh⟩, st⟩ := hr T hT X
  cases hv
  obtain ⟨t2, a1, b1⟩ := kk T' (by rw [e1, hh, h0]) (Stand.forget X' (fun q h => (hL q h).elim))
  rw [hp] at st
  exact ⟨t2, st t2 a1, b1⟩
def pRO (D : va_G) (cl : List vw_C) (tys : List (ClassId × FieldType)) (wc : va_W) (U : State) : Prop := va_P D cl wc U.heap ∧ va_K D cl tys U ∧ GL (fun _ => False) U
theorem pRO.blind {av : List Value} : FrameBlind (va_Pc av (pRO D cl tys wc)) := fun a U g mk q => ⟨q.1, q.2.1, va_K.moved (u := U) (U := U.calling g mk a) (Vm.Alike.refl U.vm) q.2.2.1, q.2.2.2.cg rfl rfl⟩
theorem pRO.go {av : List Value} (hP : va_P D cl wc H) (hK : va_K D cl tys s) (hG : GL A s) (hS : va_S A s.heap H locs) : ∀ U : State, U.heap = H → s.WarmedH U.vm → va_Pc av (pRO D cl tys wc) av.toArray U := fun U hU hW => ⟨rfl, by rw [hU]; exact hP, va_K.moved hW.alike hK, hG.mv hS (fun _ h => h.elim) hU hW⟩
def pWR (D : va_G) (cl : List vw_C) (tys : List (ClassId × FieldType)) (wc : va_W) (sz : Nat) (U : State) : Prop := U.heap.size = sz ∧ va_P D cl wc U.heap ∧ va_K D cl tys U ∧ va_D (fun _ => True) wc ∧ GL (va_A wc sz) U
theorem pWR.blind {av : List Value} {sz : Nat} : FrameBlind (va_Pc av (pWR D cl tys wc sz)) := fun a U g mk q => ⟨q.1, q.2.1, q.2.2.1, va_K.moved (u := U) (U := U.calling g mk a) (Vm.Alike.refl U.vm) q.2.2.2.1, q.2.2.2.2.1, q.2.2.2.2.2.cg rfl rfl⟩
theorem pWR.go {av : List Value} (hP : va_P D cl wc H) (hK : va_K D cl tys s) (hD : va_D (fun _ => True) wc) (hG : GL A s) (hS : va_S A s.heap H locs) (hF : ∀ q, va_A wc H.size q → A q) : ∀ U : State, U.heap = H → s.WarmedH U.vm → va_Pc av (pWR D cl tys wc H.size) av.toArray U := fun U hU hW => ⟨rfl, by rw [hU], by rw [hU]; exact hP, va_K.moved hW.alike hK, hD, hG.mv hS hF hU hW⟩
/-- behind a writing method -/
def aWR (D : va_G) (cl : List vw_C) (tys : List (ClassId × FieldType)) (A : Nat → Prop) (w : va_W) (t : State) : Prop := va_P D cl w t.heap ∧ va_K D cl tys t ∧ va_D A w
theorem zjoin {w1 : va_W} {H1 : Heap} (hP : va_P D cl ws H) (hD : va_D A ws) {wr : va_W} (isC isR perm : List Nat) (hC : isC.map (fun i => ws[i]?) = wc.map some) (hR : isR.map (fun i => ws[i]?) = wr.map some) (hn : va_nd isR = true) (hdis : ∀ i ∈ isR, i ∉ isC) (hnp : va_nd perm = true) (hperm : perm.map (fun i => (wr ++ w1)[i]?) = wn.map some)
    (hk : ∀ q : Nat, q < H.size → ¬ va_A wc H.size q → H1[q]? = H[q]?) (hF : ∀ q, va_A wc H.size q → A q) (hP1 : va_P D cl w1 H1) (hD1 : va_D (va_A wc H.size) w1) : va_P D cl wn H1 ∧ va_D A wn := by
  obtain ⟨h1, h2⟩ := va_join hP hD isC isR hC hR hn hdis hk hF hP1 hD1
  exact ⟨h1.sub perm (z_fm hperm), h2.sub perm hnp hperm⟩
theorem zroV (S : CallFix p m c cc nL s args wsA own)
    (hM : Met l y (wsM y bytes maxL ret) rm (va_Pc (.ref b :: As) (pRO D cl tys wc)) (vp_Si (fun q => q = r)) 0 0 (fun _ => False))
    (m1 : Cond.methodLink own index y ∈ wsA) (m2 : Cond.instanceMethod y ∈ wsA) (m3 : Cond.selects q.1 y y ∈ wsA) (m4 : Cond.initialized y.cls ∈ wsA) (m5 : Cond.code y bytes maxL ret ∈ wsA)
    (hd : y.cls ≠ "java/lang/invoke/MethodHandle" ∧ y.cls ≠ "java/lang/invoke/VarHandle" ∧ (parseMethodDescriptor y.desc).map (fun d => d.parameters.length) = some n) (hrc : rm.cells = 0) (hrs : rm.slots = 0) (hR : rm.frames + 1 ≤ R.frames ∧ 8 + (maxL + 11) + rm.locals ≤ R.locals)
    (hP : va_P D cl ws H) (hK : va_K D cl tys s) (hG : GL A s) (hS : va_S A s.heap H locs)
    (q0 : Nat) (he : ws[q0]? = some (b, .inr (ci, fs))) (hc : cl[ci]? = some q)
    (isC : List Nat) (hC : isC.map (fun i => ws[i]?) = wc.map some)
    (hn : As.length = n) (hsz : ls.size = nL) (hst : st = As.reverse ++ .ref b :: rest) (hW : (rest.map fun v => v.category).sum ≤ 8) (hdg : decode cc pc = .ok (.invokevirtual index, 3)) (hf : cells ≤ R.cells ∧ slots ≤ R.slots)
    (kk : W p l e R s m args below meth c H locs cells slots Q (F0 m (pc + 3) ls (.int r :: rest))) : W p l e R s m args below meth c H locs cells slots Q (F0 m pc ls st) := by
  have hPc := hP.sub isC (z_fm hC)
  exact zcsi (va_runV (As := As) (rest := rest) S hM ⟨callB_of n S.2.2.2.2 (gM m5) rfl hrc hrs (S.2.2.2.2 _ m4) (S.2.2.2.2 _ m1) hd hR, S.2.2.2.2 _ m2, S.2.2.2.2 _ m3⟩ ⟨pRO.blind, va_recv hK hP hc he, pRO.go hPc hK hG hS⟩ rfl hn hsz hst (by show 2 * 0 + _ ≤ 8; omega) hdg ⟨hf.1, hf.2⟩) kk
theorem zwiV {T0 : Type} {u : T0} {w1 : T0 → va_W} (S : CallFix p m c cc nL s args wsA own)
    (hM : Met l y (wsM y bytes maxL ret) rm (va_Pc (.ref b :: As) (pWR D cl tys wc H.size)) (va_Qi (fun (q : Int32) (v : T0) => (q, v) = (r, u)) (fun v => aWR D cl tys (va_A wc H.size) (w1 v)) (va_A wc H.size)) 0 0 (va_A wc H.size))
    (m1 : Cond.methodLink own index y ∈ wsA) (m2 : Cond.instanceMethod y ∈ wsA) (m3 : Cond.selects q.1 y y ∈ wsA) (m4 : Cond.initialized y.cls ∈ wsA) (m5 : Cond.code y bytes maxL ret ∈ wsA)
    (hd : y.cls ≠ "java/lang/invoke/MethodHandle" ∧ y.cls ≠ "java/lang/invoke/VarHandle" ∧ (parseMethodDescriptor y.desc).map (fun d => d.parameters.length) = some n) (hrc : rm.cells = 0) (hrs : rm.slots = 0) (hR : rm.frames + 1 ≤ R.frames ∧ 8 + (maxL + 11) + rm.locals ≤ R.locals)
    (hP : va_P D cl ws H) (hK : va_K D cl tys s) (hG : GL A s) (hS : va_S A s.heap H locs)
    (q0 : Nat) (he : ws[q0]? = some (b, .inr (ci, fs))) (hc : cl[ci]? = some q)
    (hD : va_D A ws) (hA : ∀ q, s.heap.size ≤ q → A q) (isC isR perm : List Nat) (hC : isC.map (fun i => ws[i]?) = wc.map some) (hRr : isR.map (fun i => ws[i]?) = (isR.filterMap (fun i => ws[i]?)).map some) (hnc : va_nd isC = true) (hnr : va_nd isR = true) (hdis : ∀ i ∈ isR, i ∉ isC) (hnp : va_nd perm = true) (hperm : perm.map (fun i => (isR.filterMap (fun i => ws[i]?) ++ w1 u)[i]?) = wn.map some)
    (hn : As.length = n) (hsz : ls.size = nL) (hst : st = As.reverse ++ .ref b :: rest) (hW : (rest.map fun v => v.category).sum ≤ 8) (hdg : decode cc pc = .ok (.invokevirtual index, 3)) (hf : cells ≤ R.cells ∧ slots ≤ R.slots)
    (kk : ∀ (H1 : Heap) (locs1 : List Loc), va_P D cl wn H1 → va_D A wn → va_S A s.heap H1 locs1 → W p l e R s m args below meth c H1 locs1 cells slots Q (F0 m (pc + 3) ls (.int r :: rest))) : W p l e R s m args below meth c H locs cells slots Q (F0 m pc ls st) := by
  have hPc := hP.sub isC (z_fm hC)
  have hDc : va_D (fun _ => True) wc := (hD.sub isC hnc hC).weaken (fun _ _ _ _ => trivial)
  have hFc := va_free hD hS hA isC hC
  refine va_calli (va_runV (As := As) (rest := rest) S hM ⟨callB_of n S.2.2.2.2 (gM m5) rfl hrc hrs (S.2.2.2.2 _ m4) (S.2.2.2.2 _ m1) hd hR, S.2.2.2.2 _ m2, S.2.2.2.2 _ m3⟩ ⟨pWR.blind, va_recv hK hP hc he, pWR.go hPc hK hDc hG hS hFc⟩ rfl hn hsz hst (by show 2 * 0 + _ ≤ 8; omega) hdg ⟨hf.1, hf.2⟩) hS (fun q _ h => hFc q h) hFc (fun r0 v t H1 locs1 ht hvm hw hB hz1 hk1 hS1 => ?_)
  obtain ⟨e1, e2⟩ := Prod.mk.inj hw
  subst e1; subst e2
  obtain ⟨hP1, hK1, hD1⟩ := hB
  rw [ht] at hP1
  obtain ⟨a1, a2⟩ := zjoin hP hD isC isR perm hC hRr hnr hdis hnp hperm hk1 hFc hP1 hD1
  exact kk H1 locs1 a1 a2 hS1
theorem zwvV {T0 : Type} {u : T0} {w1 : T0 → va_W} (S : CallFix p m c cc nL s args wsA own)
    (hM : Met l y (wsM y bytes maxL ret) rm (va_Pc (.ref b :: As) (pWR D cl tys wc H.size)) (va_Qv (fun (v : T0) => v = u) (fun v => aWR D cl tys (va_A wc H.size) (w1 v)) (va_A wc H.size)) 0 0 (va_A wc H.size))
    (m1 : Cond.methodLink own index y ∈ wsA) (m2 : Cond.instanceMethod y ∈ wsA) (m3 : Cond.selects q.1 y y ∈ wsA) (m4 : Cond.initialized y.cls ∈ wsA) (m5 : Cond.code y bytes maxL ret ∈ wsA)
    (hd : y.cls ≠ "java/lang/invoke/MethodHandle" ∧ y.cls ≠ "java/lang/invoke/VarHandle" ∧ (parseMethodDescriptor y.desc).map (fun d => d.parameters.length) = some n) (hrc : rm.cells = 0) (hrs : rm.slots = 0) (hR : rm.frames + 1 ≤ R.frames ∧ 8 + (maxL + 11) + rm.locals ≤ R.locals)
    (hP : va_P D cl ws H) (hK : va_K D cl tys s) (hG : GL A s) (hS : va_S A s.heap H locs)
    (q0 : Nat) (he : ws[q0]? = some (b, .inr (ci, fs))) (hc : cl[ci]? = some q)
    (hD : va_D A ws) (hA : ∀ q, s.heap.size ≤ q → A q) (isC isR perm : List Nat) (hC : isC.map (fun i => ws[i]?) = wc.map some) (hRr : isR.map (fun i => ws[i]?) = (isR.filterMap (fun i => ws[i]?)).map some) (hnc : va_nd isC = true) (hnr : va_nd isR = true) (hdis : ∀ i ∈ isR, i ∉ isC) (hnp : va_nd perm = true) (hperm : perm.map (fun i => (isR.filterMap (fun i => ws[i]?) ++ w1 u)[i]?) = wn.map some)
    (hn : As.length = n) (hsz : ls.size = nL) (hst : st = As.reverse ++ .ref b :: rest) (hW : (rest.map fun v => v.category).sum ≤ 8) (hdg : decode cc pc = .ok (.invokevirtual index, 3)) (hf : cells ≤ R.cells ∧ slots ≤ R.slots)
    (kk : ∀ (H1 : Heap) (locs1 : List Loc), va_P D cl wn H1 → va_D A wn → va_S A s.heap H1 locs1 → W p l e R s m args below meth c H1 locs1 cells slots Q (F0 m (pc + 3) ls rest)) : W p l e R s m args below meth c H locs cells slots Q (F0 m pc ls st) := by
  have hPc := hP.sub isC (z_fm hC)
  have hDc : va_D (fun _ => True) wc := (hD.sub isC hnc hC).weaken (fun _ _ _ _ => trivial)
  have hFc := va_free hD hS hA isC hC
  refine va_callv (va_runV (As := As) (rest := rest) S hM ⟨callB_of n S.2.2.2.2 (gM m5) rfl hrc hrs (S.2.2.2.2 _ m4) (S.2.2.2.2 _ m1) hd hR, S.2.2.2.2 _ m2, S.2.2.2.2 _ m3⟩ ⟨pWR.blind, va_recv hK hP hc he, pWR.go hPc hK hDc hG hS hFc⟩ rfl hn hsz hst (by show 2 * 0 + _ ≤ 8; omega) hdg ⟨hf.1, hf.2⟩) hS (fun q _ h => hFc q h) hFc (fun v t H1 locs1 ht hvm hw hB hz1 hk1 hS1 => ?_)
  subst hw
  obtain ⟨hP1, hK1, hD1⟩ := hB
  rw [ht] at hP1
  obtain ⟨a1, a2⟩ := zjoin hP hD isC isR perm hC hRr hnr hdis hnp hperm hk1 hFc hP1 hD1
  exact kk H1 locs1 a1 a2 hS1
theorem zroVN (S : CallFix p m c cc nL s args wsA own)
    (hM : Met l y (wsM y bytes maxL ret) rm (va_Pc (.ref b :: As) (pRO D cl tys wc)) (vp_Si (fun q => q = r)) 0 0 (fun _ => False))
    (m1 : Cond.methodLinkNest own index y host ∈ nestWs) (m2 : Cond.instanceMethod y ∈ wsA) (m3 : Cond.selects q.1 y y ∈ wsA) (m4 : Cond.initialized y.cls ∈ wsA) (m5 : Cond.code y bytes maxL ret ∈ wsA)
    (hd : y.cls ≠ "java/lang/invoke/MethodHandle" ∧ y.cls ≠ "java/lang/invoke/VarHandle" ∧ (parseMethodDescriptor y.desc).map (fun d => d.parameters.length) = some n) (hrc : rm.cells = 0) (hrs : rm.slots = 0) (hR : rm.frames + 1 ≤ R.frames ∧ 8 + (maxL + 11) + rm.locals ≤ R.locals)
    (hP : va_P D cl ws H) (hK : va_K D cl tys s) (hG : GL A s) (hS : va_S A s.heap H locs)
    (q0 : Nat) (he : ws[q0]? = some (b, .inr (ci, fs))) (hc : cl[ci]? = some q)
    (isC : List Nat) (hC : isC.map (fun i => ws[i]?) = wc.map some)
    (hn : As.length = n) (hsz : ls.size = nL) (hst : st = As.reverse ++ .ref b :: rest) (hW : (rest.map fun v => v.category).sum ≤ 8) (hdg : decode cc pc = .ok (.invokevirtual index, 3)) (hf : cells ≤ R.cells ∧ slots ≤ R.slots)
    (kk : W p l e R s m args below meth c H locs cells slots Q (F0 m (pc + 3) ls (.int r :: rest))) : W p l e R s m args below meth c H locs cells slots Q (F0 m pc ls st) := by
  have hPc := hP.sub isC (z_fm hC)
  exact zcsi (va_runVN (As := As) (rest := rest) S hM ⟨va_cnB n S.2.2.2.2 (gM m5) rfl hrc hrs (hG.2.2.2.2.2 _ m1) (S.2.2.2.2 _ m4) hd hR, S.2.2.2.2 _ m2, S.2.2.2.2 _ m3⟩ ⟨pRO.blind, va_recv hK hP hc he, pRO.go hPc hK hG hS⟩ rfl hn hsz hst (by show 2 * 0 + _ ≤ 8; omega) hdg ⟨hf.1, hf.2⟩) kk
theorem zwiVN {T0 : Type} {u : T0} {w1 : T0 → va_W} (S : CallFix p m c cc nL s args wsA own)
    (hM : Met l y (wsM y bytes maxL ret) rm (va_Pc (.ref b :: As) (pWR D cl tys wc H.size)) (va_Qi (fun (q : Int32) (v : T0) => (q, v) = (r, u)) (fun v => aWR D cl tys (va_A wc H.size) (w1 v)) (va_A wc H.size)) 0 0 (va_A wc H.size))
    (m1 : Cond.methodLinkNest own index y host ∈ nestWs) (m2 : Cond.instanceMethod y ∈ wsA) (m3 : Cond.selects q.1 y y ∈ wsA) (m4 : Cond.initialized y.cls ∈ wsA) (m5 : Cond.code y bytes maxL ret ∈ wsA)
    (hd : y.cls ≠ "java/lang/invoke/MethodHandle" ∧ y.cls ≠ "java/lang/invoke/VarHandle" ∧ (parseMethodDescriptor y.desc).map (fun d => d.parameters.length) = some n) (hrc : rm.cells = 0) (hrs : rm.slots = 0) (hR : rm.frames + 1 ≤ R.frames ∧ 8 + (maxL + 11) + rm.locals ≤ R.locals)
    (hP : va_P D cl ws H) (hK : va_K D cl tys s) (hG : GL A s) (hS : va_S A s.heap H locs)
    (q0 : Nat) (he : ws[q0]? = some (b, .inr (ci, fs))) (hc : cl[ci]? = some q)
    (hD : va_D A ws) (hA : ∀ q, s.heap.size ≤ q → A q) (isC isR perm : List Nat) (hC : isC.map (fun i => ws[i]?) = wc.map some) (hRr : isR.map (fun i => ws[i]?) = (isR.filterMap (fun i => ws[i]?)).map some) (hnc : va_nd isC = true) (hnr : va_nd isR = true) (hdis : ∀ i ∈ isR, i ∉ isC) (hnp : va_nd perm = true) (hperm : perm.map (fun i => (isR.filterMap (fun i => ws[i]?) ++ w1 u)[i]?) = wn.map some)
    (hn : As.length = n) (hsz : ls.size = nL) (hst : st = As.reverse ++ .ref b :: rest) (hW : (rest.map fun v => v.category).sum ≤ 8) (hdg : decode cc pc = .ok (.invokevirtual index, 3)) (hf : cells ≤ R.cells ∧ slots ≤ R.slots)
    (kk : ∀ (H1 : Heap) (locs1 : List Loc), va_P D cl wn H1 → va_D A wn → va_S A s.heap H1 locs1 → W p l e R s m args below meth c H1 locs1 cells slots Q (F0 m (pc + 3) ls (.int r :: rest))) : W p l e R s m args below meth c H locs cells slots Q (F0 m pc ls st) := by
  have hPc := hP.sub isC (z_fm hC)
  have hDc : va_D (fun _ => True) wc := (hD.sub isC hnc hC).weaken (fun _ _ _ _ => trivial)
  have hFc := va_free hD hS hA isC hC
  refine va_calli (va_runVN (As := As) (rest := rest) S hM ⟨va_cnB n S.2.2.2.2 (gM m5) rfl hrc hrs (hG.2.2.2.2.2 _ m1) (S.2.2.2.2 _ m4) hd hR, S.2.2.2.2 _ m2, S.2.2.2.2 _ m3⟩ ⟨pWR.blind, va_recv hK hP hc he, pWR.go hPc hK hDc hG hS hFc⟩ rfl hn hsz hst (by show 2 * 0 + _ ≤ 8; omega) hdg ⟨hf.1, hf.2⟩) hS (fun q _ h => hFc q h) hFc (fun r0 v t H1 locs1 ht hvm hw hB hz1 hk1 hS1 => ?_)
  obtain ⟨e1, e2⟩ := Prod.mk.inj hw
  subst e1; subst e2
  obtain ⟨hP1, hK1, hD1⟩ := hB
  rw [ht] at hP1
  obtain ⟨a1, a2⟩ := zjoin hP hD isC isR perm hC hRr hnr hdis hnp hperm hk1 hFc hP1 hD1
  exact kk H1 locs1 a1 a2 hS1
theorem zwvVN {T0 : Type} {u : T0} {w1 : T0 → va_W} (S : CallFix p m c cc nL s args wsA own)
    (hM : Met l y (wsM y bytes maxL ret) rm (va_Pc (.ref b :: As) (pWR D cl tys wc H.size)) (va_Qv (fun (v : T0) => v = u) (fun v => aWR D cl tys (va_A wc H.size) (w1 v)) (va_A wc H.size)) 0 0 (va_A wc H.size))
    (m1 : Cond.methodLinkNest own index y host ∈ nestWs) (m2 : Cond.instanceMethod y ∈ wsA) (m3 : Cond.selects q.1 y y ∈ wsA) (m4 : Cond.initialized y.cls ∈ wsA) (m5 : Cond.code y bytes maxL ret ∈ wsA)
    (hd : y.cls ≠ "java/lang/invoke/MethodHandle" ∧ y.cls ≠ "java/lang/invoke/VarHandle" ∧ (parseMethodDescriptor y.desc).map (fun d => d.parameters.length) = some n) (hrc : rm.cells = 0) (hrs : rm.slots = 0) (hR : rm.frames + 1 ≤ R.frames ∧ 8 + (maxL + 11) + rm.locals ≤ R.locals)
    (hP : va_P D cl ws H) (hK : va_K D cl tys s) (hG : GL A s) (hS : va_S A s.heap H locs)
    (q0 : Nat) (he : ws[q0]? = some (b, .inr (ci, fs))) (hc : cl[ci]? = some q)
    (hD : va_D A ws) (hA : ∀ q, s.heap.size ≤ q → A q) (isC isR perm : List Nat) (hC : isC.map (fun i => ws[i]?) = wc.map some) (hRr : isR.map (fun i => ws[i]?) = (isR.filterMap (fun i => ws[i]?)).map some) (hnc : va_nd isC = true) (hnr : va_nd isR = true) (hdis : ∀ i ∈ isR, i ∉ isC) (hnp : va_nd perm = true) (hperm : perm.map (fun i => (isR.filterMap (fun i => ws[i]?) ++ w1 u)[i]?) = wn.map some)
    (hn : As.length = n) (hsz : ls.size = nL) (hst : st = As.reverse ++ .ref b :: rest) (hW : (rest.map fun v => v.category).sum ≤ 8) (hdg : decode cc pc = .ok (.invokevirtual index, 3)) (hf : cells ≤ R.cells ∧ slots ≤ R.slots)
    (kk : ∀ (H1 : Heap) (locs1 : List Loc), va_P D cl wn H1 → va_D A wn → va_S A s.heap H1 locs1 → W p l e R s m args below meth c H1 locs1 cells slots Q (F0 m (pc + 3) ls rest)) : W p l e R s m args below meth c H locs cells slots Q (F0 m pc ls st) := by
  have hPc := hP.sub isC (z_fm hC)
  have hDc : va_D (fun _ => True) wc := (hD.sub isC hnc hC).weaken (fun _ _ _ _ => trivial)
  have hFc := va_free hD hS hA isC hC
  refine va_callv (va_runVN (As := As) (rest := rest) S hM ⟨va_cnB n S.2.2.2.2 (gM m5) rfl hrc hrs (hG.2.2.2.2.2 _ m1) (S.2.2.2.2 _ m4) hd hR, S.2.2.2.2 _ m2, S.2.2.2.2 _ m3⟩ ⟨pWR.blind, va_recv hK hP hc he, pWR.go hPc hK hDc hG hS hFc⟩ rfl hn hsz hst (by show 2 * 0 + _ ≤ 8; omega) hdg ⟨hf.1, hf.2⟩) hS (fun q _ h => hFc q h) hFc (fun v t H1 locs1 ht hvm hw hB hz1 hk1 hS1 => ?_)
  subst hw
  obtain ⟨hP1, hK1, hD1⟩ := hB
  rw [ht] at hP1
  obtain ⟨a1, a2⟩ := zjoin hP hD isC isR perm hC hRr hnr hdis hnp hperm hk1 hFc hP1 hD1
  exact kk H1 locs1 a1 a2 hS1
theorem zroS (S : CallFix p m c cc nL s args wsA own)
    (hM : Met l y (wsM y bytes maxL ret) rm (va_Pc As (pRO D cl tys wc)) (vp_Si (fun q => q = r)) 0 0 (fun _ => False))
    (m1 : Cond.methodLink own index y ∈ wsA) (m2 : Cond.static y ∈ wsA) (m4 : Cond.initialized y.cls ∈ wsA) (m5 : Cond.code y bytes maxL ret ∈ wsA)
    (hd : y.cls ≠ "java/lang/invoke/MethodHandle" ∧ y.cls ≠ "java/lang/invoke/VarHandle" ∧ (parseMethodDescriptor y.desc).map (fun d => d.parameters.length) = some n) (hrc : rm.cells = 0) (hrs : rm.slots = 0) (hR : rm.frames + 1 ≤ R.frames ∧ 8 + (maxL + 11) + rm.locals ≤ R.locals)
    (hP : va_P D cl ws H) (hK : va_K D cl tys s) (hG : GL A s) (hS : va_S A s.heap H locs)
    (isC : List Nat) (hC : isC.map (fun i => ws[i]?) = wc.map some)
    (hn : As.length = n) (hsz : ls.size = nL) (hst : st = As.reverse ++ rest) (hW : (rest.map fun v => v.category).sum ≤ 8) (hdg : decode cc pc = .ok (.invokestatic index, 3)) (hf : cells ≤ R.cells ∧ slots ≤ R.slots)
    (kk : W p l e R s m args below meth c H locs cells slots Q (F0 m (pc + 3) ls (.int r :: rest))) : W p l e R s m args below meth c H locs cells slots Q (F0 m pc ls st) := by
  have hPc := hP.sub isC (z_fm hC)
  exact zcsi (va_runS (As := As) (rest := rest) S hM ⟨callB_of n S.2.2.2.2 (gM m5) rfl hrc hrs (S.2.2.2.2 _ m4) (S.2.2.2.2 _ m1) hd hR, S.2.2.2.2 _ m2⟩ ⟨pRO.blind, pRO.go hPc hK hG hS⟩ rfl hn hsz hst (by show 2 * 0 + _ ≤ 8; omega) hdg ⟨hf.1, hf.2⟩) kk
theorem zwiS {T0 : Type} {u : T0} {w1 : T0 → va_W} (S : CallFix p m c cc nL s args wsA own)
    (hM : Met l y (wsM y bytes maxL ret) rm (va_Pc As (pWR D cl tys wc H.size)) (va_Qi (fun (q : Int32) (v : T0) => (q, v) = (r, u)) (fun v => aWR D cl tys (va_A wc H.size) (w1 v)) (va_A wc H.size)) 0 0 (va_A wc H.size))
    (m1 : Cond.methodLink own index y ∈ wsA) (m2 : Cond.static y ∈ wsA) (m4 : Cond.initialized y.cls ∈ wsA) (m5 : Cond.code y bytes maxL ret ∈ wsA)
    (hd : y.cls ≠ "java/lang/invoke/MethodHandle" ∧ y.cls ≠ "java/lang/invoke/VarHandle" ∧ (parseMethodDescriptor y.desc).map (fun d => d.parameters.length) = some n) (hrc : rm.cells = 0) (hrs : rm.slots = 0) (hR : rm.frames + 1 ≤ R.frames ∧ 8 + (maxL + 11) + rm.locals ≤ R.locals)
    (hP : va_P D cl ws H) (hK : va_K D cl tys s) (hG : GL A s) (hS : va_S A s.heap H locs)
    (hD : va_D A ws) (hA : ∀ q, s.heap.size ≤ q → A q) (isC isR perm : List Nat) (hC : isC.map (fun i => ws[i]?) = wc.map some) (hRr : isR.map (fun i => ws[i]?) = (isR.filterMap (fun i => ws[i]?)).map some) (hnc : va_nd isC = true) (hnr : va_nd isR = true) (hdis : ∀ i ∈ isR, i ∉ isC) (hnp : va_nd perm = true) (hperm : perm.map (fun i => (isR.filterMap (fun i => ws[i]?) ++ w1 u)[i]?) = wn.map some)
    (hn : As.length = n) (hsz : ls.size = nL) (hst : st = As.reverse ++ rest) (hW : (rest.map fun v => v.category).sum ≤ 8) (hdg : decode cc pc = .ok (.invokestatic index, 3)) (hf : cells ≤ R.cells ∧ slots ≤ R.slots)
    (kk : ∀ (H1 : Heap) (locs1 : List Loc), va_P D cl wn H1 → va_D A wn → va_S A s.heap H1 locs1 → W p l e R s m args below meth c H1 locs1 cells slots Q (F0 m (pc + 3) ls (.int r :: rest))) : W p l e R s m args below meth c H locs cells slots Q (F0 m pc ls st) := by
  have hPc := hP.sub isC (z_fm hC)
  have hDc : va_D (fun _ => True) wc := (hD.sub isC hnc hC).weaken (fun _ _ _ _ => trivial)
  have hFc := va_free hD hS hA isC hC
  refine va_calli (va_runS (As := As) (rest := rest) S hM ⟨callB_of n S.2.2.2.2 (gM m5) rfl hrc hrs (S.2.2.2.2 _ m4) (S.2.2.2.2 _ m1) hd hR, S.2.2.2.2 _ m2⟩ ⟨pWR.blind, pWR.go hPc hK hDc hG hS hFc⟩ rfl hn hsz hst (by show 2 * 0 + _ ≤ 8; omega) hdg ⟨hf.1, hf.2⟩) hS (fun q _ h => hFc q h) hFc (fun r0 v t H1 locs1 ht hvm hw hB hz1 hk1 hS1 => ?_)
  obtain ⟨e1, e2⟩ := Prod.mk.inj hw
  subst e1; subst e2
  obtain ⟨hP1, hK1, hD1⟩ := hB
  rw [ht] at hP1
  obtain ⟨a1, a2⟩ := zjoin hP hD isC isR perm hC hRr hnr hdis hnp hperm hk1 hFc hP1 hD1
  exact kk H1 locs1 a1 a2 hS1
theorem zwvS {T0 : Type} {u : T0} {w1 : T0 → va_W} (S : CallFix p m c cc nL s args wsA own)
    (hM : Met l y (wsM y bytes maxL ret) rm (va_Pc As (pWR D cl tys wc H.size)) (va_Qv (fun (v : T0) => v = u) (fun v => aWR D cl tys (va_A wc H.size) (w1 v)) (va_A wc H.size)) 0 0 (va_A wc H.size))
    (m1 : Cond.methodLink own index y ∈ wsA) (m2 : Cond.static y ∈ wsA) (m4 : Cond.initialized y.cls ∈ wsA) (m5 : Cond.code y bytes maxL ret ∈ wsA)
    (hd : y.cls ≠ "java/lang/invoke/MethodHandle" ∧ y.cls ≠ "java/lang/invoke/VarHandle" ∧ (parseMethodDescriptor y.desc).map (fun d => d.parameters.length) = some n) (hrc : rm.cells = 0) (hrs : rm.slots = 0) (hR : rm.frames + 1 ≤ R.frames ∧ 8 + (maxL + 11) + rm.locals ≤ R.locals)
    (hP : va_P D cl ws H) (hK : va_K D cl tys s) (hG : GL A s) (hS : va_S A s.heap H locs)
    (hD : va_D A ws) (hA : ∀ q, s.heap.size ≤ q → A q) (isC isR perm : List Nat) (hC : isC.map (fun i => ws[i]?) = wc.map some) (hRr : isR.map (fun i => ws[i]?) = (isR.filterMap (fun i => ws[i]?)).map some) (hnc : va_nd isC = true) (hnr : va_nd isR = true) (hdis : ∀ i ∈ isR, i ∉ isC) (hnp : va_nd perm = true) (hperm : perm.map (fun i => (isR.filterMap (fun i => ws[i]?) ++ w1 u)[i]?) = wn.map some)
    (hn : As.length = n) (hsz : ls.size = nL) (hst : st = As.reverse ++ rest) (hW : (rest.map fun v => v.category).sum ≤ 8) (hdg : decode cc pc = .ok (.invokestatic index, 3)) (hf : cells ≤ R.cells ∧ slots ≤ R.slots)
    (kk : ∀ (H1 : Heap) (locs1 : List Loc), va_P D cl wn H1 → va_D A wn → va_S A s.heap H1 locs1 → W p l e R s m args below meth c H1 locs1 cells slots Q (F0 m (pc + 3) ls rest)) : W p l e R s m args below meth c H locs cells slots Q (F0 m pc ls st) := by
  have hPc := hP.sub isC (z_fm hC)
  have hDc : va_D (fun _ => True) wc := (hD.sub isC hnc hC).weaken (fun _ _ _ _ => trivial)
  have hFc := va_free hD hS hA isC hC
  refine va_callv (va_runS (As := As) (rest := rest) S hM ⟨callB_of n S.2.2.2.2 (gM m5) rfl hrc hrs (S.2.2.2.2 _ m4) (S.2.2.2.2 _ m1) hd hR, S.2.2.2.2 _ m2⟩ ⟨pWR.blind, pWR.go hPc hK hDc hG hS hFc⟩ rfl hn hsz hst (by show 2 * 0 + _ ≤ 8; omega) hdg ⟨hf.1, hf.2⟩) hS (fun q _ h => hFc q h) hFc (fun v t H1 locs1 ht hvm hw hB hz1 hk1 hS1 => ?_)
  subst hw
  obtain ⟨hP1, hK1, hD1⟩ := hB
  rw [ht] at hP1
  obtain ⟨a1, a2⟩ := zjoin hP hD isC isR perm hC hRr hnr hdis hnp hperm hk1 hFc hP1 hD1
  exact kk H1 locs1 a1 a2 hS1
theorem zroSN (S : CallFix p m c cc nL s args wsA own)
    (hM : Met l y (wsM y bytes maxL ret) rm (va_Pc As (pRO D cl tys wc)) (vp_Si (fun q => q = r)) 0 0 (fun _ => False))
    (m1 : Cond.methodLinkNest own index y host ∈ nestWs) (m2 : Cond.static y ∈ wsA) (m4 : Cond.initialized y.cls ∈ wsA) (m5 : Cond.code y bytes maxL ret ∈ wsA)
    (hd : y.cls ≠ "java/lang/invoke/MethodHandle" ∧ y.cls ≠ "java/lang/invoke/VarHandle" ∧ (parseMethodDescriptor y.desc).map (fun d => d.parameters.length) = some n) (hrc : rm.cells = 0) (hrs : rm.slots = 0) (hR : rm.frames + 1 ≤ R.frames ∧ 8 + (maxL + 11) + rm.locals ≤ R.locals)
    (hP : va_P D cl ws H) (hK : va_K D cl tys s) (hG : GL A s) (hS : va_S A s.heap H locs)
    (isC : List Nat) (hC : isC.map (fun i => ws[i]?) = wc.map some)
    (hn : As.length = n) (hsz : ls.size = nL) (hst : st = As.reverse ++ rest) (hW : (rest.map fun v => v.category).sum ≤ 8) (hdg : decode cc pc = .ok (.invokestatic index, 3)) (hf : cells ≤ R.cells ∧ slots ≤ R.slots)
    (kk : W p l e R s m args below meth c H locs cells slots Q (F0 m (pc + 3) ls (.int r :: rest))) : W p l e R s m args below meth c H locs cells slots Q (F0 m pc ls st) := by
  have hPc := hP.sub isC (z_fm hC)
  exact zcsi (va_runSN (As := As) (rest := rest) S hM ⟨va_cnB n S.2.2.2.2 (gM m5) rfl hrc hrs (hG.2.2.2.2.2 _ m1) (S.2.2.2.2 _ m4) hd hR, S.2.2.2.2 _ m2, trivial⟩ ⟨pRO.blind, pRO.go hPc hK hG hS⟩ rfl hn hsz hst (by show 2 * 0 + _ ≤ 8; omega) hdg ⟨hf.1, hf.2⟩) kk
theorem zwiSN {T0 : Type} {u : T0} {w1 : T0 → va_W} (S : CallFix p m c cc nL s args wsA own)
    (hM : Met l y (wsM y bytes maxL ret) rm (va_Pc As (pWR D cl tys wc H.size)) (va_Qi (fun (q : Int32) (v : T0) => (q, v) = (r, u)) (fun v => aWR D cl tys (va_A wc H.size) (w1 v)) (va_A wc H.size)) 0 0 (va_A wc H.size))
    (m1 : Cond.methodLinkNest own index y host ∈ nestWs) (m2 : Cond.static y ∈ wsA) (m4 : Cond.initialized y.cls ∈ wsA) (m5 : Cond.code y bytes maxL ret ∈ wsA)
    (hd : y.cls ≠ "java/lang/invoke/MethodHandle" ∧ y.cls ≠ "java/lang/invoke/VarHandle" ∧ (parseMethodDescriptor y.desc).map (fun d => d.parameters.length) = some n) (hrc : rm.cells = 0) (hrs : rm.slots = 0) (hR : rm.frames + 1 ≤ R.frames ∧ 8 + (maxL + 11) + rm.locals ≤ R.locals)
    (hP : va_P D cl ws H) (hK : va_K D cl tys s) (hG : GL A s) (hS : va_S A s.heap H locs)
    (hD : va_D A ws) (hA : ∀ q, s.heap.size ≤ q → A q) (isC isR perm : List Nat) (hC : isC.map (fun i => ws[i]?) = wc.map some) (hRr : isR.map (fun i => ws[i]?) = (isR.filterMap (fun i => ws[i]?)).map some) (hnc : va_nd isC = true) (hnr : va_nd isR = true) (hdis : ∀ i ∈ isR, i ∉ isC) (hnp : va_nd perm = true) (hperm : perm.map (fun i => (isR.filterMap (fun i => ws[i]?) ++ w1 u)[i]?) = wn.map some)
    (hn : As.length = n) (hsz : ls.size = nL) (hst : st = As.reverse ++ rest) (hW : (rest.map fun v => v.category).sum ≤ 8) (hdg : decode cc pc = .ok (.invokestatic index, 3)) (hf : cells ≤ R.cells ∧ slots ≤ R.slots)
    (kk : ∀ (H1 : Heap) (locs1 : List Loc), va_P D cl wn H1 → va_D A wn → va_S A s.heap H1 locs1 → W p l e R s m args below meth c H1 locs1 cells slots Q (F0 m (pc + 3) ls (.int r :: rest))) : W p l e R s m args below meth c H locs cells slots Q (F0 m pc ls st) := by
  have hPc := hP.sub isC (z_fm hC)
  have hDc : va_D (fun _ => True) wc := (hD.sub isC hnc hC).weaken (fun _ _ _ _ => trivial)
  have hFc := va_free hD hS hA isC hC
  refine va_calli (va_runSN (As := As) (rest := rest) S hM ⟨va_cnB n S.2.2.2.2 (gM m5) rfl hrc hrs (hG.2.2.2.2.2 _ m1) (S.2.2.2.2 _ m4) hd hR, S.2.2.2.2 _ m2, trivial⟩ ⟨pWR.blind, pWR.go hPc hK hDc hG hS hFc⟩ rfl hn hsz hst (by show 2 * 0 + _ ≤ 8; omega) hdg ⟨hf.1, hf.2⟩) hS (fun q _ h => hFc q h) hFc (fun r0 v t H1 locs1 ht hvm hw hB hz1 hk1 hS1 => ?_)
  obtain ⟨e1, e2⟩ := Prod.mk.inj hw
  subst e1; subst e2
  obtain ⟨hP1, hK1, hD1⟩ := hB
  rw [ht] at hP1
  obtain ⟨a1, a2⟩ := zjoin hP hD isC isR perm hC hRr hnr hdis hnp hperm hk1 hFc hP1 hD1
  exact kk H1 locs1 a1 a2 hS1
theorem zwvSN {T0 : Type} {u : T0} {w1 : T0 → va_W} (S : CallFix p m c cc nL s args wsA own)
    (hM : Met l y (wsM y bytes maxL ret) rm (va_Pc As (pWR D cl tys wc H.size)) (va_Qv (fun (v : T0) => v = u) (fun v => aWR D cl tys (va_A wc H.size) (w1 v)) (va_A wc H.size)) 0 0 (va_A wc H.size))
    (m1 : Cond.methodLinkNest own index y host ∈ nestWs) (m2 : Cond.static y ∈ wsA) (m4 : Cond.initialized y.cls ∈ wsA) (m5 : Cond.code y bytes maxL ret ∈ wsA)
    (hd : y.cls ≠ "java/lang/invoke/MethodHandle" ∧ y.cls ≠ "java/lang/invoke/VarHandle" ∧ (parseMethodDescriptor y.desc).map (fun d => d.parameters.length) = some n) (hrc : rm.cells = 0) (hrs : rm.slots = 0) (hR : rm.frames + 1 ≤ R.frames ∧ 8 + (maxL + 11) + rm.locals ≤ R.locals)
    (hP : va_P D cl ws H) (hK : va_K D cl tys s) (hG : GL A s) (hS : va_S A s.heap H locs)
    (hD : va_D A ws) (hA : ∀ q, s.heap.size ≤ q → A q) (isC isR perm : List Nat) (hC : isC.map (fun i => ws[i]?) = wc.map some) (hRr : isR.map (fun i => ws[i]?) = (isR.filterMap (fun i => ws[i]?)).map some) (hnc : va_nd isC = true) (hnr : va_nd isR = true) (hdis : ∀ i ∈ isR, i ∉ isC) (hnp : va_nd perm = true) (hperm : perm.map (fun i => (isR.filterMap (fun i => ws[i]?) ++ w1 u)[i]?) = wn.map some)
    (hn : As.length = n) (hsz : ls.size = nL) (hst : st = As.reverse ++ rest) (hW : (rest.map fun v => v.category).sum ≤ 8) (hdg : decode cc pc = .ok (.invokestatic index, 3)) (hf : cells ≤ R.cells ∧ slots ≤ R.slots)
    (kk : ∀ (H1 : Heap) (locs1 : List Loc), va_P D cl wn H1 → va_D A wn → va_S A s.heap H1 locs1 → W p l e R s m args below meth c H1 locs1 cells slots Q (F0 m (pc + 3) ls rest)) : W p l e R s m args below meth c H locs cells slots Q (F0 m pc ls st) := by
  have hPc := hP.sub isC (z_fm hC)
  have hDc : va_D (fun _ => True) wc := (hD.sub isC hnc hC).weaken (fun _ _ _ _ => trivial)
  have hFc := va_free hD hS hA isC hC
  refine va_callv (va_runSN (As := As) (rest := rest) S hM ⟨va_cnB n S.2.2.2.2 (gM m5) rfl hrc hrs (hG.2.2.2.2.2 _ m1) (S.2.2.2.2 _ m4) hd hR, S.2.2.2.2 _ m2, trivial⟩ ⟨pWR.blind, pWR.go hPc hK hDc hG hS hFc⟩ rfl hn hsz hst (by show 2 * 0 + _ ≤ 8; omega) hdg ⟨hf.1, hf.2⟩) hS (fun q _ h => hFc q h) hFc (fun v t H1 locs1 ht hvm hw hB hz1 hk1 hS1 => ?_)
  subst hw
  obtain ⟨hP1, hK1, hD1⟩ := hB
  rw [ht] at hP1
  obtain ⟨a1, a2⟩ := zjoin hP hD isC isR perm hC hRr hnr hdis hnp hperm hk1 hFc hP1 hD1
  exact kk H1 locs1 a1 a2 hS1

theorem zretR (hexec : p.tables.exec = Jvm.exec) (hb : c.code = cc) (hr : meth.sig.returnType = some .int) (hlocks : meth.locks = false) {z v : Int32} (hf : some v = some z) (hdg : decode cc pc = .ok (.ireturn, 1)) : W p l e R s m args below meth c s.heap [] 0 0 (MQ below (vp_Si (fun q => q = z)) args s 0 0 (fun _ => False)) (F0 m pc ls [.int v]) :=
  W.iret hexec hb hr (fun t ht hW => ⟨v, rfl, Option.some.inj hf, ht⟩) (fun _ h => absurd h List.not_mem_nil) hdg hlocks
theorem zretRZ (hexec : p.tables.exec = Jvm.exec) (hb : c.code = cc) (hr : meth.sig.returnType = some .boolean) (hlocks : meth.locks = false) {z v : Int32} (hn : narrow .boolean (.int v) = .int v) (hf : some v = some z) (hdg : decode cc pc = .ok (.ireturn, 1)) : W p l e R s m args below meth c s.heap [] 0 0 (MQ below (vp_Si (fun q => q = z)) args s 0 0 (fun _ => False)) (F0 m pc ls [.int v]) :=
  W.zret hexec hb hr hn (fun t ht hW => ⟨v, rfl, Option.some.inj hf, ht⟩) (fun _ h => absurd h List.not_mem_nil) hdg hlocks
theorem zretI (hexec : p.tables.exec = Jvm.exec) (hb : c.code = cc) (hr : meth.sig.returnType = some .int) (hlocks : meth.locks = false) (hP : va_P D cl wn H) (hK : va_K D cl tys s) (hD : va_D A wn) (hS : va_S A s.heap H locs) {T0 : Type} {u : T0} {w1 : T0 → va_W} {z : Int32 × T0} {v : Int32} (hf : some (v, u) = some z) (hw : wn = w1 u) (hdg : decode cc pc = .ok (.ireturn, 1)) : W p l e R s m args below meth c H locs cells slots (MQ below (va_Qi (fun (q : Int32) (v : T0) => (q, v) = z) (fun v => aWR D cl tys A (w1 v)) A) args s cells slots A) (F0 m pc ls [.int v]) := by
  subst hw
  exact W.iret hexec hb hr (fun t ht hW => ⟨⟨v, u, rfl, Option.some.inj hf, by rw [ht]; exact hP, va_K.moved hW.alike hK, hD⟩, hS.F ht⟩) hS.2.2 hdg hlocks
theorem zretZ (hexec : p.tables.exec = Jvm.exec) (hb : c.code = cc) (hr : meth.sig.returnType = some .boolean) (hlocks : meth.locks = false) (hP : va_P D cl wn H) (hK : va_K D cl tys s) (hD : va_D A wn) (hS : va_S A s.heap H locs) {T0 : Type} {u : T0} {w1 : T0 → va_W} {z : Int32 × T0} {v : Int32} (hn : narrow .boolean (.int v) = .int v) (hf : some (v, u) = some z) (hw : wn = w1 u) (hdg : decode cc pc = .ok (.ireturn, 1)) : W p l e R s m args below meth c H locs cells slots (MQ below (va_Qi (fun (q : Int32) (v : T0) => (q, v) = z) (fun v => aWR D cl tys A (w1 v)) A) args s cells slots A) (F0 m pc ls [.int v]) := by
  subst hw
  exact W.zret hexec hb hr hn (fun t ht hW => ⟨⟨v, u, rfl, Option.some.inj hf, by rw [ht]; exact hP, va_K.moved hW.alike hK, hD⟩, hS.F ht⟩) hS.2.2 hdg hlocks
theorem zretV (hexec : p.tables.exec = Jvm.exec) (hb : c.code = cc) (hr : meth.sig.returnType = none) (hlocks : meth.locks = false) (hP : va_P D cl wn H) (hK : va_K D cl tys s) (hD : va_D A wn) (hS : va_S A s.heap H locs) {T0 : Type} {z u : T0} {w1 : T0 → va_W} (hf : some u = some z) (hw : wn = w1 u) (hdg : decode cc pc = .ok (.return_, 1)) : W p l e R s m args below meth c H locs cells slots (MQ below (va_Qv (fun (v : T0) => v = z) (fun v => aWR D cl tys A (w1 v)) A) args s cells slots A) (F0 m pc ls []) := by
  subst hw
  exact W.vret hexec hb hr (fun t ht hW => ⟨⟨u, rfl, Option.some.inj hf, by rw [ht]; exact hP, va_K.moved hW.alike hK, hD⟩, hS.F ht⟩) hS.2.2 hdg hlocks
theorem zent {vs : List Value} {n : Nat} {L : List (Nat × Value)} (ha : args = vs.toArray) (h : (lg_sl vs).length ≤ n) (hL : lv_args 0 vs = L) : ∃ ls : Array Slot, lv_has ls n L ∧ entryFrame m args n = F0 m 0 ls [] := by
  subst ha; subst hL
  exact ⟨_, lv_entry vs h, lg_entry_eq m vs n⟩

theorem zroTS {t N : Nat} {f : Nat → Int32} (S : CallFix p m c cc nL s args wsA own) (hM : Met l y (wsM y bytes maxL ret) rm (va_Pc As (fun U => va_T .int t N (fun j => .int (f j)) (fun _ => False) U U.heap)) (vp_Si (fun q => q = r)) 0 0 (fun _ => False)) (m1 : Cond.methodLink own index y ∈ wsA) (m2 : Cond.static y ∈ wsA) (m4 : Cond.initialized y.cls ∈ wsA) (m5 : Cond.code y bytes maxL ret ∈ wsA)
    (hd : y.cls ≠ "java/lang/invoke/MethodHandle" ∧ y.cls ≠ "java/lang/invoke/VarHandle" ∧ (parseMethodDescriptor y.desc).map (fun d => d.parameters.length) = some n) (hrc : rm.cells = 0) (hrs : rm.slots = 0) (hR : rm.frames + 1 ≤ R.frames ∧ 8 + (maxL + 11) + rm.locals ≤ R.locals)
    (hT : va_T .int t N (fun j => .int (f j)) A s s.heap) (hS : va_S A s.heap H locs) (hn : As.length = n) (hsz : ls.size = nL) (hst : st = As.reverse ++ rest) (hW : (rest.map fun v => v.category).sum ≤ 8) (hdg : decode cc pc = .ok (.invokestatic index, 3)) (hf : cells ≤ R.cells ∧ slots ≤ R.slots)
    (kk : W p l e R s m args below meth c H locs cells slots Q (F0 m (pc + 3) ls (.int r :: rest))) : W p l e R s m args below meth c H locs cells slots Q (F0 m pc ls st) := by
  have hpre : PreS s H (va_Pc As (fun U => va_T .int t N (fun j => .int (f j)) (fun _ => False) U U.heap)) As := ⟨fun a U g mk q => ⟨q.1, q.2.moved (u := U) (U := U.calling g mk a) (Vm.Alike.refl U.vm)⟩, fun U hU hW => ⟨rfl, by show va_T _ _ _ _ _ U U.heap; rw [hU]; exact (((hT.moved hW.alike).kept (H1 := H) (fun a h1 h2 => hS.2.1 a h1 h2)).narrow (fun _ h => h.elim))⟩⟩
  exact zcsi (va_runS (As := As) (rest := rest) S hM ⟨callB_of n S.2.2.2.2 (gM m5) rfl hrc hrs (S.2.2.2.2 _ m4) (S.2.2.2.2 _ m1) hd hR, S.2.2.2.2 _ m2⟩ hpre rfl hn hsz hst (by show 2 * 0 + _ ≤ 8; omega) hdg ⟨hf.1, hf.2⟩) kk
theorem zroTSN {t N : Nat} {f : Nat → Int32} (S : CallFix p m c cc nL s args wsA own) (hM : Met l y (wsM y bytes maxL ret) rm (va_Pc As (fun U => va_T .int t N (fun j => .int (f j)) (fun _ => False) U U.heap)) (vp_Si (fun q => q = r)) 0 0 (fun _ => False)) (m1 : Cond.methodLinkNest own index y host ∈ nestWs) (m2 : Cond.static y ∈ wsA) (m4 : Cond.initialized y.cls ∈ wsA) (m5 : Cond.code y bytes maxL ret ∈ wsA)
    (hd : y.cls ≠ "java/lang/invoke/MethodHandle" ∧ y.cls ≠ "java/lang/invoke/VarHandle" ∧ (parseMethodDescriptor y.desc).map (fun d => d.parameters.length) = some n) (hrc : rm.cells = 0) (hrs : rm.slots = 0) (hR : rm.frames + 1 ≤ R.frames ∧ 8 + (maxL + 11) + rm.locals ≤ R.locals)
    (hT : va_T .int t N (fun j => .int (f j)) A s s.heap) (hS : va_S A s.heap H locs) (hG : GL A s) (hn : As.length = n) (hsz : ls.size = nL) (hst : st = As.reverse ++ rest) (hW : (rest.map fun v => v.category).sum ≤ 8) (hdg : decode cc pc = .ok (.invokestatic index, 3)) (hf : cells ≤ R.cells ∧ slots ≤ R.slots)
    (kk : W p l e R s m args below meth c H locs cells slots Q (F0 m (pc + 3) ls (.int r :: rest))) : W p l e R s m args below meth c H locs cells slots Q (F0 m pc ls st) := by
  have hpre : PreS s H (va_Pc As (fun U => va_T .int t N (fun j => .int (f j)) (fun _ => False) U U.heap)) As := ⟨fun a U g mk q => ⟨q.1, q.2.moved (u := U) (U := U.calling g mk a) (Vm.Alike.refl U.vm)⟩, fun U hU hW => ⟨rfl, by show va_T _ _ _ _ _ U U.heap; rw [hU]; exact (((hT.moved hW.alike).kept (H1 := H) (fun a h1 h2 => hS.2.1 a h1 h2)).narrow (fun _ h => h.elim))⟩⟩
  exact zcsi (va_runSN (As := As) (rest := rest) S hM ⟨va_cnB n S.2.2.2.2 (gM m5) rfl hrc hrs (hG.2.2.2.2.2 _ m1) (S.2.2.2.2 _ m4) hd hR, S.2.2.2.2 _ m2, trivial⟩ hpre rfl hn hsz hst (by show 2 * 0 + _ ≤ 8; omega) hdg ⟨hf.1, hf.2⟩) kk
end ZR
/-! method heads, decided once -/
theorem hdX7_init : yX7_init.cls ≠ "java/lang/invoke/MethodHandle" ∧ yX7_init.cls ≠ "java/lang/invoke/VarHandle" ∧ (parseMethodDescriptor yX7_init.desc).map (fun d => d.parameters.length) = some 0 := by decide +kernel
theorem hdX7_letter : yX7_letter.cls ≠ "java/lang/invoke/MethodHandle" ∧ yX7_letter.cls ≠ "java/lang/invoke/VarHandle" ∧ (parseMethodDescriptor yX7_letter.desc).map (fun d => d.parameters.length) = some 1 := by decide +kernel
theorem hdX7_bay : yX7_bay.cls ≠ "java/lang/invoke/MethodHandle" ∧ yX7_bay.cls ≠ "java/lang/invoke/VarHandle" ∧ (parseMethodDescriptor yX7_bay.desc).map (fun d => d.parameters.length) = some 0 := by decide +kernel
theorem hdX7_cell : yX7_cell.cls ≠ "java/lang/invoke/MethodHandle" ∧ yX7_cell.cls ≠ "java/lang/invoke/VarHandle" ∧ (parseMethodDescriptor yX7_cell.desc).map (fun d => d.parameters.length) = some 1 := by decide +kernel
theorem hdX7_set : yX7_set.cls ≠ "java/lang/invoke/MethodHandle" ∧ yX7_set.cls ≠ "java/lang/invoke/VarHandle" ∧ (parseMethodDescriptor yX7_set.desc).map (fun d => d.parameters.length) = some 2 := by decide +kernel
theorem hdX7_wind : yX7_wind.cls ≠ "java/lang/invoke/MethodHandle" ∧ yX7_wind.cls ≠ "java/lang/invoke/VarHandle" ∧ (parseMethodDescriptor yX7_wind.desc).map (fun d => d.parameters.length) = some 2 := by decide +kernel
theorem hdX7_tide : yX7_tide.cls ≠ "java/lang/invoke/MethodHandle" ∧ yX7_tide.cls ≠ "java/lang/invoke/VarHandle" ∧ (parseMethodDescriptor yX7_tide.desc).map (fun d => d.parameters.length) = some 2 := by decide +kernel
theorem hdX7_lays : yX7_lays.cls ≠ "java/lang/invoke/MethodHandle" ∧ yX7_lays.cls ≠ "java/lang/invoke/VarHandle" ∧ (parseMethodDescriptor yX7_lays.desc).map (fun d => d.parameters.length) = some 1 := by decide +kernel
theorem hdX7_now : yX7_now.cls ≠ "java/lang/invoke/MethodHandle" ∧ yX7_now.cls ≠ "java/lang/invoke/VarHandle" ∧ (parseMethodDescriptor yX7_now.desc).map (fun d => d.parameters.length) = some 1 := by decide +kernel
theorem hdX7_run : yX7_run.cls ≠ "java/lang/invoke/MethodHandle" ∧ yX7_run.cls ≠ "java/lang/invoke/VarHandle" ∧ (parseMethodDescriptor yX7_run.desc).map (fun d => d.parameters.length) = some 1 := by decide +kernel
theorem hdX7_head : yX7_head.cls ≠ "java/lang/invoke/MethodHandle" ∧ yX7_head.cls ≠ "java/lang/invoke/VarHandle" ∧ (parseMethodDescriptor yX7_head.desc).map (fun d => d.parameters.length) = some 1 := by decide +kernel
theorem hdX7_wear : yX7_wear.cls ≠ "java/lang/invoke/MethodHandle" ∧ yX7_wear.cls ≠ "java/lang/invoke/VarHandle" ∧ (parseMethodDescriptor yX7_wear.desc).map (fun d => d.parameters.length) = some 1 := by decide +kernel
theorem hdX7_haul : yX7_haul.cls ≠ "java/lang/invoke/MethodHandle" ∧ yX7_haul.cls ≠ "java/lang/invoke/VarHandle" ∧ (parseMethodDescriptor yX7_haul.desc).map (fun d => d.parameters.length) = some 1 := by decide +kernel
theorem hdX7_sail : yX7_sail.cls ≠ "java/lang/invoke/MethodHandle" ∧ yX7_sail.cls ≠ "java/lang/invoke/VarHandle" ∧ (parseMethodDescriptor yX7_sail.desc).map (fun d => d.parameters.length) = some 1 := by decide +kernel
theorem hdX7_anchor : yX7_anchor.cls ≠ "java/lang/invoke/MethodHandle" ∧ yX7_anchor.cls ≠ "java/lang/invoke/VarHandle" ∧ (parseMethodDescriptor yX7_anchor.desc).map (fun d => d.parameters.length) = some 0 := by decide +kernel
theorem hdX7_cut : yX7_cut.cls ≠ "java/lang/invoke/MethodHandle" ∧ yX7_cut.cls ≠ "java/lang/invoke/VarHandle" ∧ (parseMethodDescriptor yX7_cut.desc).map (fun d => d.parameters.length) = some 0 := by decide +kernel
theorem hdX7_axe : yX7_axe.cls ≠ "java/lang/invoke/MethodHandle" ∧ yX7_axe.cls ≠ "java/lang/invoke/VarHandle" ∧ (parseMethodDescriptor yX7_axe.desc).map (fun d => d.parameters.length) = some 0 := by decide +kernel
theorem hdX7_over : yX7_over.cls ≠ "java/lang/invoke/MethodHandle" ∧ yX7_over.cls ≠ "java/lang/invoke/VarHandle" ∧ (parseMethodDescriptor yX7_over.desc).map (fun d => d.parameters.length) = some 0 := by decide +kernel
theorem hdX7_still : yX7_still.cls ≠ "java/lang/invoke/MethodHandle" ∧ yX7_still.cls ≠ "java/lang/invoke/VarHandle" ∧ (parseMethodDescriptor yX7_still.desc).map (fun d => d.parameters.length) = some 1 := by decide +kernel
theorem hdX7_clears : yX7_clears.cls ≠ "java/lang/invoke/MethodHandle" ∧ yX7_clears.cls ≠ "java/lang/invoke/VarHandle" ∧ (parseMethodDescriptor yX7_clears.desc).map (fun d => d.parameters.length) = some 0 := by decide +kernel
theorem hdX7_line : yX7_line.cls ≠ "java/lang/invoke/MethodHandle" ∧ yX7_line.cls ≠ "java/lang/invoke/VarHandle" ∧ (parseMethodDescriptor yX7_line.desc).map (fun d => d.parameters.length) = some 0 := by decide +kernel
theorem hdX7_lighter : yX7_lighter.cls ≠ "java/lang/invoke/MethodHandle" ∧ yX7_lighter.cls ≠ "java/lang/invoke/VarHandle" ∧ (parseMethodDescriptor yX7_lighter.desc).map (fun d => d.parameters.length) = some 0 := by decide +kernel
theorem hdX7_holds : yX7_holds.cls ≠ "java/lang/invoke/MethodHandle" ∧ yX7_holds.cls ≠ "java/lang/invoke/VarHandle" ∧ (parseMethodDescriptor yX7_holds.desc).map (fun d => d.parameters.length) = some 3 := by decide +kernel
theorem hdX7_beachBest : yX7_beachBest.cls ≠ "java/lang/invoke/MethodHandle" ∧ yX7_beachBest.cls ≠ "java/lang/invoke/VarHandle" ∧ (parseMethodDescriptor yX7_beachBest.desc).map (fun d => d.parameters.length) = some 0 := by decide +kernel
theorem hdX7_plan : yX7_plan.cls ≠ "java/lang/invoke/MethodHandle" ∧ yX7_plan.cls ≠ "java/lang/invoke/VarHandle" ∧ (parseMethodDescriptor yX7_plan.desc).map (fun d => d.parameters.length) = some 2 := by decide +kernel
theorem hdX7_stood : yX7_stood.cls ≠ "java/lang/invoke/MethodHandle" ∧ yX7_stood.cls ≠ "java/lang/invoke/VarHandle" ∧ (parseMethodDescriptor yX7_stood.desc).map (fun d => d.parameters.length) = some 2 := by decide +kernel
theorem hdX7_worth : yX7_worth.cls ≠ "java/lang/invoke/MethodHandle" ∧ yX7_worth.cls ≠ "java/lang/invoke/VarHandle" ∧ (parseMethodDescriptor yX7_worth.desc).map (fun d => d.parameters.length) = some 2 := by decide +kernel
theorem hdX7_light : yX7_light.cls ≠ "java/lang/invoke/MethodHandle" ∧ yX7_light.cls ≠ "java/lang/invoke/VarHandle" ∧ (parseMethodDescriptor yX7_light.desc).map (fun d => d.parameters.length) = some 0 := by decide +kernel
theorem hdX7_night : yX7_night.cls ≠ "java/lang/invoke/MethodHandle" ∧ yX7_night.cls ≠ "java/lang/invoke/VarHandle" ∧ (parseMethodDescriptor yX7_night.desc).map (fun d => d.parameters.length) = some 2 := by decide +kernel
theorem hdX7_log : yX7_log.cls ≠ "java/lang/invoke/MethodHandle" ∧ yX7_log.cls ≠ "java/lang/invoke/VarHandle" ∧ (parseMethodDescriptor yX7_log.desc).map (fun d => d.parameters.length) = some 1 := by decide +kernel
theorem hdX7_judge : yX7_judge.cls ≠ "java/lang/invoke/MethodHandle" ∧ yX7_judge.cls ≠ "java/lang/invoke/VarHandle" ∧ (parseMethodDescriptor yX7_judge.desc).map (fun d => d.parameters.length) = some 0 := by decide +kernel
theorem hdX7_image : yX7_image.cls ≠ "java/lang/invoke/MethodHandle" ∧ yX7_image.cls ≠ "java/lang/invoke/VarHandle" ∧ (parseMethodDescriptor yX7_image.desc).map (fun d => d.parameters.length) = some 0 := by decide +kernel
theorem hdX7_on : yX7_on.cls ≠ "java/lang/invoke/MethodHandle" ∧ yX7_on.cls ≠ "java/lang/invoke/VarHandle" ∧ (parseMethodDescriptor yX7_on.desc).map (fun d => d.parameters.length) = some 0 := by decide +kernel
theorem hdX7_count : yX7_count.cls ≠ "java/lang/invoke/MethodHandle" ∧ yX7_count.cls ≠ "java/lang/invoke/VarHandle" ∧ (parseMethodDescriptor yX7_count.desc).map (fun d => d.parameters.length) = some 1 := by decide +kernel
theorem hdX7_refuse : yX7_refuse.cls ≠ "java/lang/invoke/MethodHandle" ∧ yX7_refuse.cls ≠ "java/lang/invoke/VarHandle" ∧ (parseMethodDescriptor yX7_refuse.desc).map (fun d => d.parameters.length) = some 1 := by decide +kernel
theorem hdX7_bestRowOfActs : yX7_bestRowOfActs.cls ≠ "java/lang/invoke/MethodHandle" ∧ yX7_bestRowOfActs.cls ≠ "java/lang/invoke/VarHandle" ∧ (parseMethodDescriptor yX7_bestRowOfActs.desc).map (fun d => d.parameters.length) = some 1 := by decide +kernel
theorem hdX7_livesByActs : yX7_livesByActs.cls ≠ "java/lang/invoke/MethodHandle" ∧ yX7_livesByActs.cls ≠ "java/lang/invoke/VarHandle" ∧ (parseMethodDescriptor yX7_livesByActs.desc).map (fun d => d.parameters.length) = some 2 := by decide +kernel
theorem hdX7_actInRow : yX7_actInRow.cls ≠ "java/lang/invoke/MethodHandle" ∧ yX7_actInRow.cls ≠ "java/lang/invoke/VarHandle" ∧ (parseMethodDescriptor yX7_actInRow.desc).map (fun d => d.parameters.length) = some 3 := by decide +kernel
theorem hdX7_valueAt : yX7_valueAt.cls ≠ "java/lang/invoke/MethodHandle" ∧ yX7_valueAt.cls ≠ "java/lang/invoke/VarHandle" ∧ (parseMethodDescriptor yX7_valueAt.desc).map (fun d => d.parameters.length) = some 2 := by decide +kernel
theorem hdX7_copyRow : yX7_copyRow.cls ≠ "java/lang/invoke/MethodHandle" ∧ yX7_copyRow.cls ≠ "java/lang/invoke/VarHandle" ∧ (parseMethodDescriptor yX7_copyRow.desc).map (fun d => d.parameters.length) = some 2 := by decide +kernel
theorem hdX7_isDirection : yX7_isDirection.cls ≠ "java/lang/invoke/MethodHandle" ∧ yX7_isDirection.cls ≠ "java/lang/invoke/VarHandle" ∧ (parseMethodDescriptor yX7_isDirection.desc).map (fun d => d.parameters.length) = some 1 := by decide +kernel
theorem hdX7_goneRound : yX7_goneRound.cls ≠ "java/lang/invoke/MethodHandle" ∧ yX7_goneRound.cls ≠ "java/lang/invoke/VarHandle" ∧ (parseMethodDescriptor yX7_goneRound.desc).map (fun d => d.parameters.length) = some 1 := by decide +kernel
theorem hdX7_leeOf : yX7_leeOf.cls ≠ "java/lang/invoke/MethodHandle" ∧ yX7_leeOf.cls ≠ "java/lang/invoke/VarHandle" ∧ (parseMethodDescriptor yX7_leeOf.desc).map (fun d => d.parameters.length) = some 1 := by decide +kernel
theorem hdX7_apart : yX7_apart.cls ≠ "java/lang/invoke/MethodHandle" ∧ yX7_apart.cls ≠ "java/lang/invoke/VarHandle" ∧ (parseMethodDescriptor yX7_apart.desc).map (fun d => d.parameters.length) = some 2 := by decide +kernel
theorem hdX7_isSea : yX7_isSea.cls ≠ "java/lang/invoke/MethodHandle" ∧ yX7_isSea.cls ≠ "java/lang/invoke/VarHandle" ∧ (parseMethodDescriptor yX7_isSea.desc).map (fun d => d.parameters.length) = some 1 := by decide +kernel
theorem hdX7_holdOf : yX7_holdOf.cls ≠ "java/lang/invoke/MethodHandle" ∧ yX7_holdOf.cls ≠ "java/lang/invoke/VarHandle" ∧ (parseMethodDescriptor yX7_holdOf.desc).map (fun d => d.parameters.length) = some 2 := by decide +kernel
theorem hdX7_loadOf : yX7_loadOf.cls ≠ "java/lang/invoke/MethodHandle" ∧ yX7_loadOf.cls ≠ "java/lang/invoke/VarHandle" ∧ (parseMethodDescriptor yX7_loadOf.desc).map (fun d => d.parameters.length) = some 2 := by decide +kernel
theorem hdX7_seedAfter : yX7_seedAfter.cls ≠ "java/lang/invoke/MethodHandle" ∧ yX7_seedAfter.cls ≠ "java/lang/invoke/VarHandle" ∧ (parseMethodDescriptor yX7_seedAfter.desc).map (fun d => d.parameters.length) = some 1 := by decide +kernel
theorem hdX7_drawn : yX7_drawn.cls ≠ "java/lang/invoke/MethodHandle" ∧ yX7_drawn.cls ≠ "java/lang/invoke/VarHandle" ∧ (parseMethodDescriptor yX7_drawn.desc).map (fun d => d.parameters.length) = some 2 := by decide +kernel
theorem hdX8_init : yX8_init.cls ≠ "java/lang/invoke/MethodHandle" ∧ yX8_init.cls ≠ "java/lang/invoke/VarHandle" ∧ (parseMethodDescriptor yX8_init.desc).map (fun d => d.parameters.length) = some 0 := by decide +kernel
theorem hdX8_no : yX8_no.cls ≠ "java/lang/invoke/MethodHandle" ∧ yX8_no.cls ≠ "java/lang/invoke/VarHandle" ∧ (parseMethodDescriptor yX8_no.desc).map (fun d => d.parameters.length) = some 1 := by decide +kernel
theorem hdX8_isCell : yX8_isCell.cls ≠ "java/lang/invoke/MethodHandle" ∧ yX8_isCell.cls ≠ "java/lang/invoke/VarHandle" ∧ (parseMethodDescriptor yX8_isCell.desc).map (fun d => d.parameters.length) = some 1 := by decide +kernel
theorem hdX8_isDirection : yX8_isDirection.cls ≠ "java/lang/invoke/MethodHandle" ∧ yX8_isDirection.cls ≠ "java/lang/invoke/VarHandle" ∧ (parseMethodDescriptor yX8_isDirection.desc).map (fun d => d.parameters.length) = some 1 := by decide +kernel
theorem hdX8_letter : yX8_letter.cls ≠ "java/lang/invoke/MethodHandle" ∧ yX8_letter.cls ≠ "java/lang/invoke/VarHandle" ∧ (parseMethodDescriptor yX8_letter.desc).map (fun d => d.parameters.length) = some 1 := by decide +kernel
theorem hdX8_ground : yX8_ground.cls ≠ "java/lang/invoke/MethodHandle" ∧ yX8_ground.cls ≠ "java/lang/invoke/VarHandle" ∧ (parseMethodDescriptor yX8_ground.desc).map (fun d => d.parameters.length) = some 1 := by decide +kernel
theorem hdX8_fault : yX8_fault.cls ≠ "java/lang/invoke/MethodHandle" ∧ yX8_fault.cls ≠ "java/lang/invoke/VarHandle" ∧ (parseMethodDescriptor yX8_fault.desc).map (fun d => d.parameters.length) = some 0 := by decide +kernel
theorem hdX8_bay : yX8_bay.cls ≠ "java/lang/invoke/MethodHandle" ∧ yX8_bay.cls ≠ "java/lang/invoke/VarHandle" ∧ (parseMethodDescriptor yX8_bay.desc).map (fun d => d.parameters.length) = some 0 := by decide +kernel
theorem hdX8_cell : yX8_cell.cls ≠ "java/lang/invoke/MethodHandle" ∧ yX8_cell.cls ≠ "java/lang/invoke/VarHandle" ∧ (parseMethodDescriptor yX8_cell.desc).map (fun d => d.parameters.length) = some 1 := by decide +kernel
theorem hdX8_set : yX8_set.cls ≠ "java/lang/invoke/MethodHandle" ∧ yX8_set.cls ≠ "java/lang/invoke/VarHandle" ∧ (parseMethodDescriptor yX8_set.desc).map (fun d => d.parameters.length) = some 2 := by decide +kernel
theorem hdX8_wind : yX8_wind.cls ≠ "java/lang/invoke/MethodHandle" ∧ yX8_wind.cls ≠ "java/lang/invoke/VarHandle" ∧ (parseMethodDescriptor yX8_wind.desc).map (fun d => d.parameters.length) = some 2 := by decide +kernel
theorem hdX8_tide : yX8_tide.cls ≠ "java/lang/invoke/MethodHandle" ∧ yX8_tide.cls ≠ "java/lang/invoke/VarHandle" ∧ (parseMethodDescriptor yX8_tide.desc).map (fun d => d.parameters.length) = some 2 := by decide +kernel
theorem hdX8_wind_ : yX8_wind_.cls ≠ "java/lang/invoke/MethodHandle" ∧ yX8_wind_.cls ≠ "java/lang/invoke/VarHandle" ∧ (parseMethodDescriptor yX8_wind_.desc).map (fun d => d.parameters.length) = some 1 := by decide +kernel
theorem hdX8_tide_ : yX8_tide_.cls ≠ "java/lang/invoke/MethodHandle" ∧ yX8_tide_.cls ≠ "java/lang/invoke/VarHandle" ∧ (parseMethodDescriptor yX8_tide_.desc).map (fun d => d.parameters.length) = some 1 := by decide +kernel
theorem hdX8_apart : yX8_apart.cls ≠ "java/lang/invoke/MethodHandle" ∧ yX8_apart.cls ≠ "java/lang/invoke/VarHandle" ∧ (parseMethodDescriptor yX8_apart.desc).map (fun d => d.parameters.length) = some 2 := by decide +kernel
theorem hdX8_isSea : yX8_isSea.cls ≠ "java/lang/invoke/MethodHandle" ∧ yX8_isSea.cls ≠ "java/lang/invoke/VarHandle" ∧ (parseMethodDescriptor yX8_isSea.desc).map (fun d => d.parameters.length) = some 1 := by decide +kernel
theorem hdX8_bears : yX8_bears.cls ≠ "java/lang/invoke/MethodHandle" ∧ yX8_bears.cls ≠ "java/lang/invoke/VarHandle" ∧ (parseMethodDescriptor yX8_bears.desc).map (fun d => d.parameters.length) = some 1 := by decide +kernel
theorem hdX8_lay : yX8_lay.cls ≠ "java/lang/invoke/MethodHandle" ∧ yX8_lay.cls ≠ "java/lang/invoke/VarHandle" ∧ (parseMethodDescriptor yX8_lay.desc).map (fun d => d.parameters.length) = some 1 := by decide +kernel
theorem hdX8_lays : yX8_lays.cls ≠ "java/lang/invoke/MethodHandle" ∧ yX8_lays.cls ≠ "java/lang/invoke/VarHandle" ∧ (parseMethodDescriptor yX8_lays.desc).map (fun d => d.parameters.length) = some 1 := by decide +kernel
theorem hdX8_ended : yX8_ended.cls ≠ "java/lang/invoke/MethodHandle" ∧ yX8_ended.cls ≠ "java/lang/invoke/VarHandle" ∧ (parseMethodDescriptor yX8_ended.desc).map (fun d => d.parameters.length) = some 0 := by decide +kernel
theorem hdX8_lives : yX8_lives.cls ≠ "java/lang/invoke/MethodHandle" ∧ yX8_lives.cls ≠ "java/lang/invoke/VarHandle" ∧ (parseMethodDescriptor yX8_lives.desc).map (fun d => d.parameters.length) = some 0 := by decide +kernel
theorem hdX8_now : yX8_now.cls ≠ "java/lang/invoke/MethodHandle" ∧ yX8_now.cls ≠ "java/lang/invoke/VarHandle" ∧ (parseMethodDescriptor yX8_now.desc).map (fun d => d.parameters.length) = some 1 := by decide +kernel
theorem hdX8_beside : yX8_beside.cls ≠ "java/lang/invoke/MethodHandle" ∧ yX8_beside.cls ≠ "java/lang/invoke/VarHandle" ∧ (parseMethodDescriptor yX8_beside.desc).map (fun d => d.parameters.length) = some 2 := by decide +kernel
theorem hdX8_end : yX8_end.cls ≠ "java/lang/invoke/MethodHandle" ∧ yX8_end.cls ≠ "java/lang/invoke/VarHandle" ∧ (parseMethodDescriptor yX8_end.desc).map (fun d => d.parameters.length) = some 1 := by decide +kernel
theorem hdX8_into : yX8_into.cls ≠ "java/lang/invoke/MethodHandle" ∧ yX8_into.cls ≠ "java/lang/invoke/VarHandle" ∧ (parseMethodDescriptor yX8_into.desc).map (fun d => d.parameters.length) = some 1 := by decide +kernel
theorem hdX8_step : yX8_step.cls ≠ "java/lang/invoke/MethodHandle" ∧ yX8_step.cls ≠ "java/lang/invoke/VarHandle" ∧ (parseMethodDescriptor yX8_step.desc).map (fun d => d.parameters.length) = some 0 := by decide +kernel
theorem hdX8_run : yX8_run.cls ≠ "java/lang/invoke/MethodHandle" ∧ yX8_run.cls ≠ "java/lang/invoke/VarHandle" ∧ (parseMethodDescriptor yX8_run.desc).map (fun d => d.parameters.length) = some 1 := by decide +kernel
theorem hdX8_mayTurn : yX8_mayTurn.cls ≠ "java/lang/invoke/MethodHandle" ∧ yX8_mayTurn.cls ≠ "java/lang/invoke/VarHandle" ∧ (parseMethodDescriptor yX8_mayTurn.desc).map (fun d => d.parameters.length) = some 1 := by decide +kernel
theorem hdX8_through : yX8_through.cls ≠ "java/lang/invoke/MethodHandle" ∧ yX8_through.cls ≠ "java/lang/invoke/VarHandle" ∧ (parseMethodDescriptor yX8_through.desc).map (fun d => d.parameters.length) = some 1 := by decide +kernel
theorem hdX8_head : yX8_head.cls ≠ "java/lang/invoke/MethodHandle" ∧ yX8_head.cls ≠ "java/lang/invoke/VarHandle" ∧ (parseMethodDescriptor yX8_head.desc).map (fun d => d.parameters.length) = some 1 := by decide +kernel
theorem hdX8_wears : yX8_wears.cls ≠ "java/lang/invoke/MethodHandle" ∧ yX8_wears.cls ≠ "java/lang/invoke/VarHandle" ∧ (parseMethodDescriptor yX8_wears.desc).map (fun d => d.parameters.length) = some 1 := by decide +kernel
theorem hdX8_wear : yX8_wear.cls ≠ "java/lang/invoke/MethodHandle" ∧ yX8_wear.cls ≠ "java/lang/invoke/VarHandle" ∧ (parseMethodDescriptor yX8_wear.desc).map (fun d => d.parameters.length) = some 1 := by decide +kernel
theorem hdX8_haul : yX8_haul.cls ≠ "java/lang/invoke/MethodHandle" ∧ yX8_haul.cls ≠ "java/lang/invoke/VarHandle" ∧ (parseMethodDescriptor yX8_haul.desc).map (fun d => d.parameters.length) = some 1 := by decide +kernel
theorem hdX8_sail : yX8_sail.cls ≠ "java/lang/invoke/MethodHandle" ∧ yX8_sail.cls ≠ "java/lang/invoke/VarHandle" ∧ (parseMethodDescriptor yX8_sail.desc).map (fun d => d.parameters.length) = some 1 := by decide +kernel
theorem hdX8_mayAnchor : yX8_mayAnchor.cls ≠ "java/lang/invoke/MethodHandle" ∧ yX8_mayAnchor.cls ≠ "java/lang/invoke/VarHandle" ∧ (parseMethodDescriptor yX8_mayAnchor.desc).map (fun d => d.parameters.length) = some 0 := by decide +kernel
theorem hdX8_anchor : yX8_anchor.cls ≠ "java/lang/invoke/MethodHandle" ∧ yX8_anchor.cls ≠ "java/lang/invoke/VarHandle" ∧ (parseMethodDescriptor yX8_anchor.desc).map (fun d => d.parameters.length) = some 0 := by decide +kernel
theorem hdX8_cut : yX8_cut.cls ≠ "java/lang/invoke/MethodHandle" ∧ yX8_cut.cls ≠ "java/lang/invoke/VarHandle" ∧ (parseMethodDescriptor yX8_cut.desc).map (fun d => d.parameters.length) = some 0 := by decide +kernel
theorem hdX8_axe : yX8_axe.cls ≠ "java/lang/invoke/MethodHandle" ∧ yX8_axe.cls ≠ "java/lang/invoke/VarHandle" ∧ (parseMethodDescriptor yX8_axe.desc).map (fun d => d.parameters.length) = some 0 := by decide +kernel
theorem hdX8_over : yX8_over.cls ≠ "java/lang/invoke/MethodHandle" ∧ yX8_over.cls ≠ "java/lang/invoke/VarHandle" ∧ (parseMethodDescriptor yX8_over.desc).map (fun d => d.parameters.length) = some 0 := by decide +kernel
theorem hdX8_keep : yX8_keep.cls ≠ "java/lang/invoke/MethodHandle" ∧ yX8_keep.cls ≠ "java/lang/invoke/VarHandle" ∧ (parseMethodDescriptor yX8_keep.desc).map (fun d => d.parameters.length) = some 0 := by decide +kernel
theorem hdX8_again : yX8_again.cls ≠ "java/lang/invoke/MethodHandle" ∧ yX8_again.cls ≠ "java/lang/invoke/VarHandle" ∧ (parseMethodDescriptor yX8_again.desc).map (fun d => d.parameters.length) = some 0 := by decide +kernel
theorem hdX8_moves : yX8_moves.cls ≠ "java/lang/invoke/MethodHandle" ∧ yX8_moves.cls ≠ "java/lang/invoke/VarHandle" ∧ (parseMethodDescriptor yX8_moves.desc).map (fun d => d.parameters.length) = some 1 := by decide +kernel
theorem hdX8_still : yX8_still.cls ≠ "java/lang/invoke/MethodHandle" ∧ yX8_still.cls ≠ "java/lang/invoke/VarHandle" ∧ (parseMethodDescriptor yX8_still.desc).map (fun d => d.parameters.length) = some 1 := by decide +kernel
theorem hdX8_clears : yX8_clears.cls ≠ "java/lang/invoke/MethodHandle" ∧ yX8_clears.cls ≠ "java/lang/invoke/VarHandle" ∧ (parseMethodDescriptor yX8_clears.desc).map (fun d => d.parameters.length) = some 0 := by decide +kernel
theorem hdX8_line : yX8_line.cls ≠ "java/lang/invoke/MethodHandle" ∧ yX8_line.cls ≠ "java/lang/invoke/VarHandle" ∧ (parseMethodDescriptor yX8_line.desc).map (fun d => d.parameters.length) = some 0 := by decide +kernel
theorem hdX8_tensLeft : yX8_tensLeft.cls ≠ "java/lang/invoke/MethodHandle" ∧ yX8_tensLeft.cls ≠ "java/lang/invoke/VarHandle" ∧ (parseMethodDescriptor yX8_tensLeft.desc).map (fun d => d.parameters.length) = some 0 := by decide +kernel
theorem hdX8_lighter : yX8_lighter.cls ≠ "java/lang/invoke/MethodHandle" ∧ yX8_lighter.cls ≠ "java/lang/invoke/VarHandle" ∧ (parseMethodDescriptor yX8_lighter.desc).map (fun d => d.parameters.length) = some 0 := by decide +kernel
theorem hdX8_holds : yX8_holds.cls ≠ "java/lang/invoke/MethodHandle" ∧ yX8_holds.cls ≠ "java/lang/invoke/VarHandle" ∧ (parseMethodDescriptor yX8_holds.desc).map (fun d => d.parameters.length) = some 3 := by decide +kernel
theorem hdX8_beachBest : yX8_beachBest.cls ≠ "java/lang/invoke/MethodHandle" ∧ yX8_beachBest.cls ≠ "java/lang/invoke/VarHandle" ∧ (parseMethodDescriptor yX8_beachBest.desc).map (fun d => d.parameters.length) = some 0 := by decide +kernel
theorem hdX8_act : yX8_act.cls ≠ "java/lang/invoke/MethodHandle" ∧ yX8_act.cls ≠ "java/lang/invoke/VarHandle" ∧ (parseMethodDescriptor yX8_act.desc).map (fun d => d.parameters.length) = some 1 := by decide +kernel
theorem hdX8_plan : yX8_plan.cls ≠ "java/lang/invoke/MethodHandle" ∧ yX8_plan.cls ≠ "java/lang/invoke/VarHandle" ∧ (parseMethodDescriptor yX8_plan.desc).map (fun d => d.parameters.length) = some 2 := by decide +kernel
theorem hdX8_stood : yX8_stood.cls ≠ "java/lang/invoke/MethodHandle" ∧ yX8_stood.cls ≠ "java/lang/invoke/VarHandle" ∧ (parseMethodDescriptor yX8_stood.desc).map (fun d => d.parameters.length) = some 2 := by decide +kernel
theorem hdX8_worth : yX8_worth.cls ≠ "java/lang/invoke/MethodHandle" ∧ yX8_worth.cls ≠ "java/lang/invoke/VarHandle" ∧ (parseMethodDescriptor yX8_worth.desc).map (fun d => d.parameters.length) = some 2 := by decide +kernel
theorem hdX8_light : yX8_light.cls ≠ "java/lang/invoke/MethodHandle" ∧ yX8_light.cls ≠ "java/lang/invoke/VarHandle" ∧ (parseMethodDescriptor yX8_light.desc).map (fun d => d.parameters.length) = some 0 := by decide +kernel
theorem hdX8_draw : yX8_draw.cls ≠ "java/lang/invoke/MethodHandle" ∧ yX8_draw.cls ≠ "java/lang/invoke/VarHandle" ∧ (parseMethodDescriptor yX8_draw.desc).map (fun d => d.parameters.length) = some 1 := by decide +kernel
theorem hdX8_night : yX8_night.cls ≠ "java/lang/invoke/MethodHandle" ∧ yX8_night.cls ≠ "java/lang/invoke/VarHandle" ∧ (parseMethodDescriptor yX8_night.desc).map (fun d => d.parameters.length) = some 2 := by decide +kernel
theorem hdX8_log : yX8_log.cls ≠ "java/lang/invoke/MethodHandle" ∧ yX8_log.cls ≠ "java/lang/invoke/VarHandle" ∧ (parseMethodDescriptor yX8_log.desc).map (fun d => d.parameters.length) = some 1 := by decide +kernel
theorem hdX8_judge : yX8_judge.cls ≠ "java/lang/invoke/MethodHandle" ∧ yX8_judge.cls ≠ "java/lang/invoke/VarHandle" ∧ (parseMethodDescriptor yX8_judge.desc).map (fun d => d.parameters.length) = some 0 := by decide +kernel
theorem hdX8_image : yX8_image.cls ≠ "java/lang/invoke/MethodHandle" ∧ yX8_image.cls ≠ "java/lang/invoke/VarHandle" ∧ (parseMethodDescriptor yX8_image.desc).map (fun d => d.parameters.length) = some 0 := by decide +kernel
theorem hdX8_on : yX8_on.cls ≠ "java/lang/invoke/MethodHandle" ∧ yX8_on.cls ≠ "java/lang/invoke/VarHandle" ∧ (parseMethodDescriptor yX8_on.desc).map (fun d => d.parameters.length) = some 0 := by decide +kernel
theorem hdX8_count : yX8_count.cls ≠ "java/lang/invoke/MethodHandle" ∧ yX8_count.cls ≠ "java/lang/invoke/VarHandle" ∧ (parseMethodDescriptor yX8_count.desc).map (fun d => d.parameters.length) = some 1 := by decide +kernel
theorem hdX0_init : yX0_init.cls ≠ "java/lang/invoke/MethodHandle" ∧ yX0_init.cls ≠ "java/lang/invoke/VarHandle" ∧ (parseMethodDescriptor yX0_init.desc).map (fun d => d.parameters.length) = some 0 := by decide +kernel
theorem hdX0_isFull : yX0_isFull.cls ≠ "java/lang/invoke/MethodHandle" ∧ yX0_isFull.cls ≠ "java/lang/invoke/VarHandle" ∧ (parseMethodDescriptor yX0_isFull.desc).map (fun d => d.parameters.length) = some 0 := by decide +kernel
theorem hdX0_tell : yX0_tell.cls ≠ "java/lang/invoke/MethodHandle" ∧ yX0_tell.cls ≠ "java/lang/invoke/VarHandle" ∧ (parseMethodDescriptor yX0_tell.desc).map (fun d => d.parameters.length) = some 2 := by decide +kernel
theorem hdX0_latestAt : yX0_latestAt.cls ≠ "java/lang/invoke/MethodHandle" ∧ yX0_latestAt.cls ≠ "java/lang/invoke/VarHandle" ∧ (parseMethodDescriptor yX0_latestAt.desc).map (fun d => d.parameters.length) = some 1 := by decide +kernel
theorem hdX0_copyFrom : yX0_copyFrom.cls ≠ "java/lang/invoke/MethodHandle" ∧ yX0_copyFrom.cls ≠ "java/lang/invoke/VarHandle" ∧ (parseMethodDescriptor yX0_copyFrom.desc).map (fun d => d.parameters.length) = some 1 := by decide +kernel
theorem hdX1_init : yX1_init.cls ≠ "java/lang/invoke/MethodHandle" ∧ yX1_init.cls ≠ "java/lang/invoke/VarHandle" ∧ (parseMethodDescriptor yX1_init.desc).map (fun d => d.parameters.length) = some 0 := by decide +kernel
theorem hdX1_draw : yX1_draw.cls ≠ "java/lang/invoke/MethodHandle" ∧ yX1_draw.cls ≠ "java/lang/invoke/VarHandle" ∧ (parseMethodDescriptor yX1_draw.desc).map (fun d => d.parameters.length) = some 1 := by decide +kernel
theorem hdX1_cells : yX1_cells.cls ≠ "java/lang/invoke/MethodHandle" ∧ yX1_cells.cls ≠ "java/lang/invoke/VarHandle" ∧ (parseMethodDescriptor yX1_cells.desc).map (fun d => d.parameters.length) = some 0 := by decide +kernel
theorem hdX1_has : yX1_has.cls ≠ "java/lang/invoke/MethodHandle" ∧ yX1_has.cls ≠ "java/lang/invoke/VarHandle" ∧ (parseMethodDescriptor yX1_has.desc).map (fun d => d.parameters.length) = some 1 := by decide +kernel
theorem hdX1_groundAt : yX1_groundAt.cls ≠ "java/lang/invoke/MethodHandle" ∧ yX1_groundAt.cls ≠ "java/lang/invoke/VarHandle" ∧ (parseMethodDescriptor yX1_groundAt.desc).map (fun d => d.parameters.length) = some 1 := by decide +kernel
theorem hdX1_beside : yX1_beside.cls ≠ "java/lang/invoke/MethodHandle" ∧ yX1_beside.cls ≠ "java/lang/invoke/VarHandle" ∧ (parseMethodDescriptor yX1_beside.desc).map (fun d => d.parameters.length) = some 2 := by decide +kernel
theorem hdX1_hasBeach : yX1_hasBeach.cls ≠ "java/lang/invoke/MethodHandle" ∧ yX1_hasBeach.cls ≠ "java/lang/invoke/VarHandle" ∧ (parseMethodDescriptor yX1_hasBeach.desc).map (fun d => d.parameters.length) = some 0 := by decide +kernel
theorem hdX1_seaSeenFrom : yX1_seaSeenFrom.cls ≠ "java/lang/invoke/MethodHandle" ∧ yX1_seaSeenFrom.cls ≠ "java/lang/invoke/VarHandle" ∧ (parseMethodDescriptor yX1_seaSeenFrom.desc).map (fun d => d.parameters.length) = some 1 := by decide +kernel
theorem hdX1_seaSeenBy : yX1_seaSeenBy.cls ≠ "java/lang/invoke/MethodHandle" ∧ yX1_seaSeenBy.cls ≠ "java/lang/invoke/VarHandle" ∧ (parseMethodDescriptor yX1_seaSeenBy.desc).map (fun d => d.parameters.length) = some 2 := by decide +kernel
theorem hdX1_copyFrom : yX1_copyFrom.cls ≠ "java/lang/invoke/MethodHandle" ∧ yX1_copyFrom.cls ≠ "java/lang/invoke/VarHandle" ∧ (parseMethodDescriptor yX1_copyFrom.desc).map (fun d => d.parameters.length) = some 1 := by decide +kernel
theorem hdX2_init : yX2_init.cls ≠ "java/lang/invoke/MethodHandle" ∧ yX2_init.cls ≠ "java/lang/invoke/VarHandle" ∧ (parseMethodDescriptor yX2_init.desc).map (fun d => d.parameters.length) = some 0 := by decide +kernel
theorem hdX2_movesFrom : yX2_movesFrom.cls ≠ "java/lang/invoke/MethodHandle" ∧ yX2_movesFrom.cls ≠ "java/lang/invoke/VarHandle" ∧ (parseMethodDescriptor yX2_movesFrom.desc).map (fun d => d.parameters.length) = some 1 := by decide +kernel
theorem hdX2_reckon : yX2_reckon.cls ≠ "java/lang/invoke/MethodHandle" ∧ yX2_reckon.cls ≠ "java/lang/invoke/VarHandle" ∧ (parseMethodDescriptor yX2_reckon.desc).map (fun d => d.parameters.length) = some 2 := by decide +kernel
theorem hdX2_markRound : yX2_markRound.cls ≠ "java/lang/invoke/MethodHandle" ∧ yX2_markRound.cls ≠ "java/lang/invoke/VarHandle" ∧ (parseMethodDescriptor yX2_markRound.desc).map (fun d => d.parameters.length) = some 3 := by decide +kernel
theorem hdX2_isOneMoveBefore : yX2_isOneMoveBefore.cls ≠ "java/lang/invoke/MethodHandle" ∧ yX2_isOneMoveBefore.cls ≠ "java/lang/invoke/VarHandle" ∧ (parseMethodDescriptor yX2_isOneMoveBefore.desc).map (fun d => d.parameters.length) = some 4 := by decide +kernel
theorem hdX2_leftBehindMove : yX2_leftBehindMove.cls ≠ "java/lang/invoke/MethodHandle" ∧ yX2_leftBehindMove.cls ≠ "java/lang/invoke/VarHandle" ∧ (parseMethodDescriptor yX2_leftBehindMove.desc).map (fun d => d.parameters.length) = some 5 := by decide +kernel
theorem hdX3_init : yX3_init.cls ≠ "java/lang/invoke/MethodHandle" ∧ yX3_init.cls ≠ "java/lang/invoke/VarHandle" ∧ (parseMethodDescriptor yX3_init.desc).map (fun d => d.parameters.length) = some 0 := by decide +kernel
theorem hdX3_tell : yX3_tell.cls ≠ "java/lang/invoke/MethodHandle" ∧ yX3_tell.cls ≠ "java/lang/invoke/VarHandle" ∧ (parseMethodDescriptor yX3_tell.desc).map (fun d => d.parameters.length) = some 1 := by decide +kernel
theorem hdX3_forget : yX3_forget.cls ≠ "java/lang/invoke/MethodHandle" ∧ yX3_forget.cls ≠ "java/lang/invoke/VarHandle" ∧ (parseMethodDescriptor yX3_forget.desc).map (fun d => d.parameters.length) = some 0 := by decide +kernel
theorem hdX3_signAt : yX3_signAt.cls ≠ "java/lang/invoke/MethodHandle" ∧ yX3_signAt.cls ≠ "java/lang/invoke/VarHandle" ∧ (parseMethodDescriptor yX3_signAt.desc).map (fun d => d.parameters.length) = some 1 := by decide +kernel
theorem hdX3_faultPlace : yX3_faultPlace.cls ≠ "java/lang/invoke/MethodHandle" ∧ yX3_faultPlace.cls ≠ "java/lang/invoke/VarHandle" ∧ (parseMethodDescriptor yX3_faultPlace.desc).map (fun d => d.parameters.length) = some 0 := by decide +kernel
theorem hdX3_groundOf : yX3_groundOf.cls ≠ "java/lang/invoke/MethodHandle" ∧ yX3_groundOf.cls ≠ "java/lang/invoke/VarHandle" ∧ (parseMethodDescriptor yX3_groundOf.desc).map (fun d => d.parameters.length) = some 1 := by decide +kernel
theorem hdX4_init : yX4_init.cls ≠ "java/lang/invoke/MethodHandle" ∧ yX4_init.cls ≠ "java/lang/invoke/VarHandle" ∧ (parseMethodDescriptor yX4_init.desc).map (fun d => d.parameters.length) = some 0 := by decide +kernel
theorem hdX4_isFull : yX4_isFull.cls ≠ "java/lang/invoke/MethodHandle" ∧ yX4_isFull.cls ≠ "java/lang/invoke/VarHandle" ∧ (parseMethodDescriptor yX4_isFull.desc).map (fun d => d.parameters.length) = some 0 := by decide +kernel
theorem hdX4_tell : yX4_tell.cls ≠ "java/lang/invoke/MethodHandle" ∧ yX4_tell.cls ≠ "java/lang/invoke/VarHandle" ∧ (parseMethodDescriptor yX4_tell.desc).map (fun d => d.parameters.length) = some 1 := by decide +kernel
theorem hdX4_firstWrong : yX4_firstWrong.cls ≠ "java/lang/invoke/MethodHandle" ∧ yX4_firstWrong.cls ≠ "java/lang/invoke/VarHandle" ∧ (parseMethodDescriptor yX4_firstWrong.desc).map (fun d => d.parameters.length) = some 2 := by decide +kernel
theorem hdX5_init : yX5_init.cls ≠ "java/lang/invoke/MethodHandle" ∧ yX5_init.cls ≠ "java/lang/invoke/VarHandle" ∧ (parseMethodDescriptor yX5_init.desc).map (fun d => d.parameters.length) = some 0 := by decide +kernel
theorem hdX5_leaveBay : yX5_leaveBay.cls ≠ "java/lang/invoke/MethodHandle" ∧ yX5_leaveBay.cls ≠ "java/lang/invoke/VarHandle" ∧ (parseMethodDescriptor yX5_leaveBay.desc).map (fun d => d.parameters.length) = some 0 := by decide +kernel
theorem hdX5_layIn : yX5_layIn.cls ≠ "java/lang/invoke/MethodHandle" ∧ yX5_layIn.cls ≠ "java/lang/invoke/VarHandle" ∧ (parseMethodDescriptor yX5_layIn.desc).map (fun d => d.parameters.length) = some 1 := by decide +kernel
theorem hdX5_copyFrom : yX5_copyFrom.cls ≠ "java/lang/invoke/MethodHandle" ∧ yX5_copyFrom.cls ≠ "java/lang/invoke/VarHandle" ∧ (parseMethodDescriptor yX5_copyFrom.desc).map (fun d => d.parameters.length) = some 1 := by decide +kernel
theorem hdX5_isEnded : yX5_isEnded.cls ≠ "java/lang/invoke/MethodHandle" ∧ yX5_isEnded.cls ≠ "java/lang/invoke/VarHandle" ∧ (parseMethodDescriptor yX5_isEnded.desc).map (fun d => d.parameters.length) = some 0 := by decide +kernel
theorem hdX5_isAlive : yX5_isAlive.cls ≠ "java/lang/invoke/MethodHandle" ∧ yX5_isAlive.cls ≠ "java/lang/invoke/VarHandle" ∧ (parseMethodDescriptor yX5_isAlive.desc).map (fun d => d.parameters.length) = some 0 := by decide +kernel
theorem hdX5_windIn : yX5_windIn.cls ≠ "java/lang/invoke/MethodHandle" ∧ yX5_windIn.cls ≠ "java/lang/invoke/VarHandle" ∧ (parseMethodDescriptor yX5_windIn.desc).map (fun d => d.parameters.length) = some 1 := by decide +kernel
theorem hdX5_tideIn : yX5_tideIn.cls ≠ "java/lang/invoke/MethodHandle" ∧ yX5_tideIn.cls ≠ "java/lang/invoke/VarHandle" ∧ (parseMethodDescriptor yX5_tideIn.desc).map (fun d => d.parameters.length) = some 1 := by decide +kernel
theorem hdX5_livesIn : yX5_livesIn.cls ≠ "java/lang/invoke/MethodHandle" ∧ yX5_livesIn.cls ≠ "java/lang/invoke/VarHandle" ∧ (parseMethodDescriptor yX5_livesIn.desc).map (fun d => d.parameters.length) = some 1 := by decide +kernel
theorem hdX5_mayTurn : yX5_mayTurn.cls ≠ "java/lang/invoke/MethodHandle" ∧ yX5_mayTurn.cls ≠ "java/lang/invoke/VarHandle" ∧ (parseMethodDescriptor yX5_mayTurn.desc).map (fun d => d.parameters.length) = some 2 := by decide +kernel
theorem hdX5_wouldFailInStays : yX5_wouldFailInStays.cls ≠ "java/lang/invoke/MethodHandle" ∧ yX5_wouldFailInStays.cls ≠ "java/lang/invoke/VarHandle" ∧ (parseMethodDescriptor yX5_wouldFailInStays.desc).map (fun d => d.parameters.length) = some 2 := by decide +kernel
theorem hdX5_passesWind : yX5_passesWind.cls ≠ "java/lang/invoke/MethodHandle" ∧ yX5_passesWind.cls ≠ "java/lang/invoke/VarHandle" ∧ (parseMethodDescriptor yX5_passesWind.desc).map (fun d => d.parameters.length) = some 2 := by decide +kernel
theorem hdX5_mayAnchor : yX5_mayAnchor.cls ≠ "java/lang/invoke/MethodHandle" ∧ yX5_mayAnchor.cls ≠ "java/lang/invoke/VarHandle" ∧ (parseMethodDescriptor yX5_mayAnchor.desc).map (fun d => d.parameters.length) = some 0 := by decide +kernel
theorem hdX5_turnBeforeWind : yX5_turnBeforeWind.cls ≠ "java/lang/invoke/MethodHandle" ∧ yX5_turnBeforeWind.cls ≠ "java/lang/invoke/VarHandle" ∧ (parseMethodDescriptor yX5_turnBeforeWind.desc).map (fun d => d.parameters.length) = some 2 := by decide +kernel
theorem hdX5_turnRoundAnchor : yX5_turnRoundAnchor.cls ≠ "java/lang/invoke/MethodHandle" ∧ yX5_turnRoundAnchor.cls ≠ "java/lang/invoke/VarHandle" ∧ (parseMethodDescriptor yX5_turnRoundAnchor.desc).map (fun d => d.parameters.length) = some 1 := by decide +kernel
theorem hdX5_tryAct : yX5_tryAct.cls ≠ "java/lang/invoke/MethodHandle" ∧ yX5_tryAct.cls ≠ "java/lang/invoke/VarHandle" ∧ (parseMethodDescriptor yX5_tryAct.desc).map (fun d => d.parameters.length) = some 2 := by decide +kernel
theorem hdX5_passTens : yX5_passTens.cls ≠ "java/lang/invoke/MethodHandle" ∧ yX5_passTens.cls ≠ "java/lang/invoke/VarHandle" ∧ (parseMethodDescriptor yX5_passTens.desc).map (fun d => d.parameters.length) = some 2 := by decide +kernel
theorem hdX5_tensTillEnded : yX5_tensTillEnded.cls ≠ "java/lang/invoke/MethodHandle" ∧ yX5_tensTillEnded.cls ≠ "java/lang/invoke/VarHandle" ∧ (parseMethodDescriptor yX5_tensTillEnded.desc).map (fun d => d.parameters.length) = some 1 := by decide +kernel
theorem hdX5_passTen : yX5_passTen.cls ≠ "java/lang/invoke/MethodHandle" ∧ yX5_passTen.cls ≠ "java/lang/invoke/VarHandle" ∧ (parseMethodDescriptor yX5_passTen.desc).map (fun d => d.parameters.length) = some 1 := by decide +kernel
theorem hdX5_paceIn : yX5_paceIn.cls ≠ "java/lang/invoke/MethodHandle" ∧ yX5_paceIn.cls ≠ "java/lang/invoke/VarHandle" ∧ (parseMethodDescriptor yX5_paceIn.desc).map (fun d => d.parameters.length) = some 1 := by decide +kernel
theorem hdX5_strainAtAnchor : yX5_strainAtAnchor.cls ≠ "java/lang/invoke/MethodHandle" ∧ yX5_strainAtAnchor.cls ≠ "java/lang/invoke/VarHandle" ∧ (parseMethodDescriptor yX5_strainAtAnchor.desc).map (fun d => d.parameters.length) = some 1 := by decide +kernel
theorem hdX5_goOn : yX5_goOn.cls ≠ "java/lang/invoke/MethodHandle" ∧ yX5_goOn.cls ≠ "java/lang/invoke/VarHandle" ∧ (parseMethodDescriptor yX5_goOn.desc).map (fun d => d.parameters.length) = some 2 := by decide +kernel
theorem hdX5_goInto : yX5_goInto.cls ≠ "java/lang/invoke/MethodHandle" ∧ yX5_goInto.cls ≠ "java/lang/invoke/VarHandle" ∧ (parseMethodDescriptor yX5_goInto.desc).map (fun d => d.parameters.length) = some 2 := by decide +kernel
theorem hdX5_endAs : yX5_endAs.cls ≠ "java/lang/invoke/MethodHandle" ∧ yX5_endAs.cls ≠ "java/lang/invoke/VarHandle" ∧ (parseMethodDescriptor yX5_endAs.desc).map (fun d => d.parameters.length) = some 3 := by decide +kernel
theorem hdX5_leak : yX5_leak.cls ≠ "java/lang/invoke/MethodHandle" ∧ yX5_leak.cls ≠ "java/lang/invoke/VarHandle" ∧ (parseMethodDescriptor yX5_leak.desc).map (fun d => d.parameters.length) = some 1 := by decide +kernel
theorem hdX5_settleKind : yX5_settleKind.cls ≠ "java/lang/invoke/MethodHandle" ∧ yX5_settleKind.cls ≠ "java/lang/invoke/VarHandle" ∧ (parseMethodDescriptor yX5_settleKind.desc).map (fun d => d.parameters.length) = some 2 := by decide +kernel
theorem hdX6_init : yX6_init.cls ≠ "java/lang/invoke/MethodHandle" ∧ yX6_init.cls ≠ "java/lang/invoke/VarHandle" ∧ (parseMethodDescriptor yX6_init.desc).map (fun d => d.parameters.length) = some 0 := by decide +kernel
theorem hdX6_setting : yX6_setting.cls ≠ "java/lang/invoke/MethodHandle" ∧ yX6_setting.cls ≠ "java/lang/invoke/VarHandle" ∧ (parseMethodDescriptor yX6_setting.desc).map (fun d => d.parameters.length) = some 1 := by decide +kernel
theorem hdX6_change : yX6_change.cls ≠ "java/lang/invoke/MethodHandle" ∧ yX6_change.cls ≠ "java/lang/invoke/VarHandle" ∧ (parseMethodDescriptor yX6_change.desc).map (fun d => d.parameters.length) = some 2 := by decide +kernel
theorem hdX6_floatsAt : yX6_floatsAt.cls ≠ "java/lang/invoke/MethodHandle" ∧ yX6_floatsAt.cls ≠ "java/lang/invoke/VarHandle" ∧ (parseMethodDescriptor yX6_floatsAt.desc).map (fun d => d.parameters.length) = some 1 := by decide +kernel
theorem hdX6_isDarkAt : yX6_isDarkAt.cls ≠ "java/lang/invoke/MethodHandle" ∧ yX6_isDarkAt.cls ≠ "java/lang/invoke/VarHandle" ∧ (parseMethodDescriptor yX6_isDarkAt.desc).map (fun d => d.parameters.length) = some 1 := by decide +kernel
theorem hdX6_livesOnBeach : yX6_livesOnBeach.cls ≠ "java/lang/invoke/MethodHandle" ∧ yX6_livesOnBeach.cls ≠ "java/lang/invoke/VarHandle" ∧ (parseMethodDescriptor yX6_livesOnBeach.desc).map (fun d => d.parameters.length) = some 2 := by decide +kernel
theorem hdX6_copyFrom : yX6_copyFrom.cls ≠ "java/lang/invoke/MethodHandle" ∧ yX6_copyFrom.cls ≠ "java/lang/invoke/VarHandle" ∧ (parseMethodDescriptor yX6_copyFrom.desc).map (fun d => d.parameters.length) = some 1 := by decide +kernel
