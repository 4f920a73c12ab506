/-! image and on -/
def cpr (n : Nat) (to fr : Nat → Int32) : Nat → Int32 := fun i => if i < n then fr i else to i
theorem cpr_0 (to fr : Nat → Int32) : cpr 0 to fr = to := by
  funext i; exact if_neg (Nat.not_lt_zero i)
theorem cpr_s (n : Nat) (to fr : Nat → Int32) : upd (cpr n to fr) n (fr n) = cpr (n + 1) to fr := by
  funext i
  by_cases c : i = n
  · subst c; rw [pk_us]; exact (if_pos (Nat.lt_succ_self i)).symm
  · rw [pk_un c]
    unfold cpr
    by_cases d : i < n
    · rw [if_pos d, if_pos (by omega)]
    · rw [if_neg d, if_neg (by omega)]
theorem cpr_all {P : Int32 → Prop} {n : Nat} {to fr : Nat → Int32} (h1 : ∀ i, P (to i)) (h2 : ∀ i, P (fr i)) : ∀ i, P (cpr n to fr i) := fun i => by
  unfold cpr
  by_cases d : i < n
  · rw [if_pos d]; exact h2 i
  · rw [if_neg d]; exact h1 i
theorem e_copyRow {N : Nat} (hN : N ≤ 64) (to fr : Nat → Int32) : fX7_copyRow N fr N to = some (cpr N to fr) := by
  have key : ∀ (f j : Nat), j ≤ N → N < f + j → zl2 (fX7_copyRow_2 N fr N) f (cpr j to fr) (nI j) = some (cpr N to fr) := by
    intro f
    induction f with
    | zero => intro j h1 h2; omega
    | succ f ih =>
      intro j h1 h2
      show fX7_copyRow_2 N fr N (zl2 (fX7_copyRow_2 N fr N) f) (cpr j to fr) (nI j) = _
      have i2 := ih (j + 1)
      generalize zl2 (fX7_copyRow_2 N fr N) f = Z at *
      unfold fX7_copyRow_2
      by_cases c : j = N
      · rw [c, if_pos (Int32.le_refl _)]
      · have cn : ¬ nI N ≤ nI j := by rw [nI_leI (by omega) (by omega)]; omega
        have hi : vp_in (nI j) N := vp_in_nI (by omega) (by omega)
        have e1 : (nI j).toNatClampNeg = j := nI_clamp (by omega)
        rw [if_neg cn, if_neg cn, gd_s hi, gd_s hi, e1, nm_s, nI_1, cpr_s]
        exact i2 (by omega) (by omega)
  have := key zFU 0 (Nat.zero_le _) (by unfold zFU; omega)
  rw [cpr_0] at this
  exact this
/-- a world, copied over another -/
def wc0 (t w : Nat → Int32) : Nat → Int32 := ups (ups (ups (ups (ups (ups (ups t 3 (w 3)) 4 (w 4)) 5 (w 5)) 6 (w 6)) 7 (w 7)) 8 (w 8)) 9 (w 9)
def wcp (t w : Nat → Nat → Int32) : Nat → Nat → Int32 := ups (ups (ups (ups (ups (ups (ups (ups (ups t 0 (wc0 (t 0) (w 0))) 1 (ups (ups (t 1) 1 (w 1 1)) 2 (w 1 2))) 2 (cpr 64 (t 2) (w 2))) 3 (ups (t 3) 2 (w 3 2))) 4 (cpr 8 (t 4) (w 4))) 5 (cpr 8 (t 5) (w 5))) 6 (ups (t 6) 2 (w 6 2))) 7 (cpr 8 (t 7) (w 7))) 8 (cpr 8 (t 8) (w 8))
theorem e_wcp (t w : Nat → Nat → Int32) : fX6_copyFrom t w = some (wc0 (t 0) (w 0), ups (ups (t 1) 1 (w 1 1)) 2 (w 1 2), cpr 64 (t 2) (w 2), ups (t 3) 2 (w 3 2), cpr 8 (t 4) (w 4), cpr 8 (t 5) (w 5), ups (t 6) 2 (w 6 2), cpr 8 (t 7) (w 7), cpr 8 (t 8) (w 8)) := by
  have a1 : fX7_copyRow 64 (sh 1 w 1) 64 (sh 1 t 1) = some (cpr 64 (t 2) (w 2)) := e_copyRow (by decide) _ _
  have a2 : fX7_copyRow 8 (sh 3 w 1) 8 (sh 3 t 1) = some (cpr 8 (t 4) (w 4)) := e_copyRow (by decide) _ _
  have a3 : fX7_copyRow 8 (sh 3 w 2) 8 (sh 3 t 2) = some (cpr 8 (t 5) (w 5)) := e_copyRow (by decide) _ _
  have a4 : fX7_copyRow 8 (sh 6 w 1) 8 (sh 6 t 1) = some (cpr 8 (t 7) (w 7)) := e_copyRow (by decide) _ _
  have a5 : fX7_copyRow 8 (sh 6 w 2) 8 (sh 6 t 2) = some (cpr 8 (t 8) (w 8)) := e_copyRow (by decide) _ _
  unfold fX6_copyFrom fX1_copyFrom fX0_copyFrom
  simp only [ups_id]
  rw [a1, a2, a3, a4, a5]
  rfl
theorem ow_wcp {t w : Nat → Nat → Int32} (ht : OW t) (hw : OW w) : OW (wcp t w) := by
  obtain ⟨w0, w1, w2, w3, w4, w5, w6, w7, w8, w9, w10, w11, w12, w13, w14⟩ := hw
  obtain ⟨t0, t1, t2, t3, t4, t5, t6, t7, t8, t9, t10, t11, t12, t13, t14⟩ := ht
  exact ⟨w0, cpr_all t1 w1, w2, w3, w4, w5, w6, w7, w8, w9, w10, cpr_all (P := fun x => Rng x 0 999) t11 w11, cpr_all t12 w12, cpr_all (P := fun x => Rng x 0 999) t13 w13, cpr_all (P := fun x => Rng x 0 5) t14 w14⟩
theorem img1 {M : Nat → Nat → Int32} (g K : Nat → Int32) : ∀ (f j : Nat) (I : Nat → Int32), j ≤ 64 → 64 < f + j → ∃ I' : Nat → Int32, zl4 (fX8_image_7 M) f g I K (nI j) = zl4 (fX8_image_33 M) zFU g I' K 0 ∧ (∀ i, j ≤ i → i < 64 → I' i = M 1 i) ∧ (∀ k, k < j → I' k = I k) := by
  intro f
  induction f with
  | zero => intro j I h1 h2; omega
  | succ f ih =>
    intro j I h1 h2
    show ∃ I' : Nat → Int32, fX8_image_7 M (zl4 (fX8_image_7 M) f) g I K (nI j) = zl4 (fX8_image_33 M) zFU g I' K 0 ∧ (∀ i, j ≤ i → i < 64 → I' i = M 1 i) ∧ (∀ k, k < j → I' k = I k)
    have i2 := ih (j + 1)
    generalize zl4 (fX8_image_7 M) f = Z at *
    unfold fX8_image_7
    have k64 : (64 : Int32) = nI 64 := rfl
    by_cases c : j = 64
    · rw [if_pos (by rw [c]; decide)]
      exact ⟨I, rfl, fun i h3 h4 => by omega, fun _ _ => rfl⟩
    · have e1 : (nI j).toNatClampNeg = j := nI_clamp (by omega)
      rw [if_neg (by rw [k64, nI_leI (by omega) (by omega)]; omega), gd_s (vp_in_nI (by omega) (by omega)), gd_s (vp_in_nI (by omega) (by omega)), e1, nm_s, nI_1]
      obtain ⟨I', a1, a2, a3⟩ := i2 (upd I j (M 1 j)) (by omega) (by omega)
      refine ⟨I', a1, fun i h3 h4 => ?_, fun k hk => (a3 k (by omega)).trans (pk_un (by omega))⟩
      by_cases d : i = j
      · subst d; exact (a3 i (by omega)).trans pk_us
      · exact a2 i (by omega) h4
theorem img2 {M : Nat → Nat → Int32} (g K : Nat → Int32) : ∀ (f j : Nat) (I : Nat → Int32), j ≤ 7 → 7 < f + j → ∃ I' : Nat → Int32, zl4 (fX8_image_33 M) f g I K (nI j) = zl4 (fX8_image_62 M) zFU g I' K 0 ∧ (∀ i, j ≤ i → i < 7 → I' (64 + i) = M 3 i) ∧ (∀ k, k < 64 + j → I' k = I k) := by
  intro f
  induction f with
  | zero => intro j I h1 h2; omega
  | succ f ih =>
    intro j I h1 h2
    show ∃ I' : Nat → Int32, fX8_image_33 M (zl4 (fX8_image_33 M) f) g I K (nI j) = zl4 (fX8_image_62 M) zFU g I' K 0 ∧ (∀ i, j ≤ i → i < 7 → I' (64 + i) = M 3 i) ∧ (∀ k, k < 64 + j → I' k = I k)
    have i2 := ih (j + 1)
    generalize zl4 (fX8_image_33 M) f = Z at *
    unfold fX8_image_33
    have k64 : (64 : Int32) = nI 64 := rfl
    have k7 : (7 : Int32) = nI 7 := rfl
    by_cases c : j = 7
    · rw [if_pos (by rw [c]; decide)]
      exact ⟨I, rfl, fun i h3 h4 => by omega, fun _ _ => rfl⟩
    · have e1 : (nI j).toNatClampNeg = j := nI_clamp (by omega)
      have e2 : (nI (64 + j)).toNatClampNeg = 64 + j := nI_clamp (by omega)
      rw [if_neg (by rw [k7, nI_leI (by omega) (by omega)]; omega), k64, nI_add, gd_s (vp_in_nI (by omega) (by omega)), gd_s (vp_in_nI (by omega) (by omega)), e1, e2, nm_s, nI_1]
      obtain ⟨I', a1, a2, a3⟩ := i2 (upd I (64 + j) (M 3 j)) (by omega) (by omega)
      refine ⟨I', a1, fun i h3 h4 => ?_, fun k hk => (a3 k (by omega)).trans (pk_un (by omega))⟩
      by_cases d : i = j
      · subst d; exact (a3 _ (by omega)).trans pk_us
      · exact a2 i (by omega) h4
/-- four of the books' halves, in the image from j on -/
def Im4 (M : Nat → Nat → Int32) (I' : Nat → Int32) (j : Nat) : Prop := ∀ i, j ≤ i → i < 8 → I' (71 + i) = M 4 i ∧ I' (79 + i) = M 5 i ∧ I' (87 + i) = M 6 i ∧ I' (95 + i) = M 7 i
def img3K (M : Nat → Nat → Int32) (g I K : Nat → Int32) : Option (Int32 × (Nat → Int32) × (Nat → Int32) × (Nat → Int32)) := if g 12 = 0 then fX8_image_196 M g (upd (upd (upd (upd I 103 (g 0)) 104 (g 1)) 105 (g 6)) 106 (g 9)) K 107 0 else fX8_image_196 M g (upd (upd (upd (upd I 103 (g 0)) 104 (g 1)) 105 (g 6)) 106 (g 9)) K 107 1
theorem img3 {M : Nat → Nat → Int32} (g K : Nat → Int32) : ∀ (f j : Nat) (I : Nat → Int32), j ≤ 8 → 8 < f + j → ∃ I' : Nat → Int32, zl4 (fX8_image_62 M) f g I K (nI j) = img3K M g I' K ∧ Im4 M I' j ∧ (∀ k, k < 71 ∨ (71 ≤ k ∧ k < 71 + j) ∨ (79 ≤ k ∧ k < 79 + j) ∨ (87 ≤ k ∧ k < 87 + j) ∨ (95 ≤ k ∧ k < 95 + j) → I' k = I k) := by
  intro f
  induction f with
  | zero => intro j I h1 h2; omega
  | succ f ih =>
    intro j I h1 h2
    show ∃ I' : Nat → Int32, fX8_image_62 M (zl4 (fX8_image_62 M) f) g I K (nI j) = img3K M g I' K ∧ Im4 M I' j ∧ (∀ k, k < 71 ∨ (71 ≤ k ∧ k < 71 + j) ∨ (79 ≤ k ∧ k < 79 + j) ∨ (87 ≤ k ∧ k < 87 + j) ∨ (95 ≤ k ∧ k < 95 + j) → I' k = I k)
    have i2 := ih (j + 1)
    generalize zl4 (fX8_image_62 M) f = Z at *
    unfold fX8_image_62
    have k8 : (8 : Int32) = nI 8 := rfl
    have k71 : (71 : Int32) = nI 71 := rfl
    have k79 : (79 : Int32) = nI 79 := rfl
    have k87 : (87 : Int32) = nI 87 := rfl
    have k95 : (95 : Int32) = nI 95 := rfl
    by_cases c : j = 8
    · rw [if_pos (by rw [c]; decide)]
      exact ⟨I, rfl, fun i h3 h4 => by omega, fun _ _ => rfl⟩
    · have e1 : (nI j).toNatClampNeg = j := nI_clamp (by omega)
      have e71 : (nI (71 + j)).toNatClampNeg = 71 + j := nI_clamp (by omega)
      have e79 : (nI (79 + j)).toNatClampNeg = 79 + j := nI_clamp (by omega)
      have e87 : (nI (87 + j)).toNatClampNeg = 87 + j := nI_clamp (by omega)
      have e95 : (nI (95 + j)).toNatClampNeg = 95 + j := nI_clamp (by omega)
      have hj : vp_in (nI j) 8 := vp_in_nI (by omega) (by omega)
      have gj : ∀ {α : Type} (k : Option α), gd (nI j) 8 k = k := fun k => gd_s hj
      have g71 : ∀ {α : Type} (k : Option α), gd (nI (71 + j)) 140 k = k := fun k => gd_s (vp_in_nI (by omega) (by omega))
      have g79 : ∀ {α : Type} (k : Option α), gd (nI (79 + j)) 140 k = k := fun k => gd_s (vp_in_nI (by omega) (by omega))
      have g87 : ∀ {α : Type} (k : Option α), gd (nI (87 + j)) 140 k = k := fun k => gd_s (vp_in_nI (by omega) (by omega))
      have g95 : ∀ {α : Type} (k : Option α), gd (nI (95 + j)) 140 k = k := fun k => gd_s (vp_in_nI (by omega) (by omega))
      rw [if_neg (by rw [k8, nI_leI (by omega) (by omega)]; omega), k71, k79, k87, k95]
      simp only [nI_add, gj, g71, g79, g87, g95, e1, e71, e79, e87, e95, nm_s, nI_1]
      obtain ⟨I', a1, a2, a3⟩ := i2 (upd (upd (upd (upd I (71 + j) (M 4 j)) (79 + j) (M 5 j)) (87 + j) (M 6 j)) (95 + j) (M 7 j)) (by omega) (by omega)
      refine ⟨I', a1, fun i h3 h4 => ?_, fun k hk => (a3 k (by omega)).trans ((pk_un (by omega)).trans ((pk_un (by omega)).trans ((pk_un (by omega)).trans (pk_un (by omega)))))⟩
      by_cases d : i = j
      · subst d
        exact ⟨(a3 _ (by omega)).trans ((pk_un (by omega)).trans ((pk_un (by omega)).trans ((pk_un (by omega)).trans pk_us))), (a3 _ (by omega)).trans ((pk_un (by omega)).trans ((pk_un (by omega)).trans pk_us)), (a3 _ (by omega)).trans ((pk_un (by omega)).trans pk_us), (a3 _ (by omega)).trans pk_us⟩
      · exact a2 i (by omega) h4
theorem img4 {M : Nat → Nat → Int32} (g K : Nat → Int32) : ∀ (f j : Nat) (I : Nat → Int32), j ≤ 12 → 12 < f + j → ∃ I' : Nat → Int32, zl4 (fX8_image_203 M) f g I K (nI j) = some (g 0 * g 1, g, I', K) ∧ (∀ i, j ≤ i → i < 12 → I' (108 + i) = K i) ∧ (∀ k, k < 108 + j → I' k = I k) := by
  intro f
  induction f with
  | zero => intro j I h1 h2; omega
  | succ f ih =>
    intro j I h1 h2
    show ∃ I' : Nat → Int32, fX8_image_203 M (zl4 (fX8_image_203 M) f) g I K (nI j) = some (g 0 * g 1, g, I', K) ∧ (∀ i, j ≤ i → i < 12 → I' (108 + i) = K i) ∧ (∀ k, k < 108 + j → I' k = I k)
    have i2 := ih (j + 1)
    generalize zl4 (fX8_image_203 M) f = Z at *
    unfold fX8_image_203
    have k108 : (108 : Int32) = nI 108 := rfl
    have k12 : (12 : Int32) = nI 12 := rfl
    by_cases c : j = 12
    · rw [if_pos (by rw [c]; decide)]
      exact ⟨I, rfl, fun i h3 h4 => by omega, fun _ _ => rfl⟩
    · have e1 : (nI j).toNatClampNeg = j := nI_clamp (by omega)
      have e2 : (nI (108 + j)).toNatClampNeg = 108 + j := nI_clamp (by omega)
      rw [if_neg (by rw [k12, nI_leI (by omega) (by omega)]; omega), k108, nI_add, gd_s (vp_in_nI (by omega) (by omega)), gd_s (vp_in_nI (by omega) (by omega)), e1, e2, nm_s, nI_1]
      obtain ⟨I', a1, a2, a3⟩ := i2 (upd I (108 + j) (K j)) (by omega) (by omega)
      refine ⟨I', a1, fun i h3 h4 => ?_, fun k hk => (a3 k (by omega)).trans (pk_un (by omega))⟩
      by_cases d : i = j
      · subst d; exact (a3 _ (by omega)).trans pk_us
      · exact a2 i (by omega) h4
/-- the image that the model takes -/
theorem m_image {M : Nat → Nat → Int32} (h12 : M 0 12 = 0 ∨ M 0 12 = 1) : ∃ I K : Nat → Int32, fX8_image M = some (M 0 0 * M 0 1, ups (M 0) 31 1, I, K) ∧ (∀ i, i < 64 → I i = M 1 i) ∧ (∀ i, i < 7 → I (64 + i) = M 3 i) ∧ Im4 M I 0 ∧ I 103 = M 0 0 ∧ I 104 = M 0 1 ∧ I 105 = M 0 6 ∧ I 106 = M 0 9 ∧ I 107 = M 0 12 ∧ (∀ i, i < 11 → I (108 + i) = M 0 (13 + i)) ∧ I 119 = (if M 0 24 = 0 then 0 else 1) := by
  obtain ⟨I1, a1, a2, -⟩ := img1 (M := M) (ups (M 0) 31 1) (M 11) zFU 0 (M 10) (by omega) (by unfold zFU; omega)
  obtain ⟨I2, b1, b2, b3⟩ := img2 (M := M) (ups (M 0) 31 1) (M 11) zFU 0 I1 (by omega) (by unfold zFU; omega)
  obtain ⟨I3, c1, c2, c3⟩ := img3 (M := M) (ups (M 0) 31 1) (M 11) zFU 0 I2 (by omega) (by unfold zFU; omega)
  obtain ⟨K, k1, k2, k3, k4⟩ := m_keep (ups M 0 (ups (M 0) 31 1))
  have hX : ∃ X : Nat → Int32, X = upd (upd (upd (upd I3 103 (M 0 0)) 104 (M 0 1)) 105 (M 0 6)) 106 (M 0 9) := ⟨_, rfl⟩
  obtain ⟨X, hX⟩ := hX
  have x0 : ∀ k, k < 103 → X k = I3 k := fun k hk => by rw [hX, pk_un (by omega), pk_un (by omega), pk_un (by omega), pk_un (by omega)]
  have fin : ∀ t : Int32, t = M 0 12 → ∃ I : Nat → Int32, fX8_image_196 M (ups (M 0) 31 1) X (M 11) 107 t = some (M 0 0 * M 0 1, ups (M 0) 31 1, I, K) ∧ (∀ k, k < 107 → I k = X k) ∧ I 107 = t ∧ (∀ i, i < 12 → I (108 + i) = K i) := fun t ht => by
    obtain ⟨I, d1, d2, d3⟩ := img4 (M := M) (ups (M 0) 31 1) K zFU 0 (upd X 107 t) (by omega) (by unfold zFU; omega)
    refine ⟨I, ?_, fun k hk => (d3 k (by omega)).trans (pk_un (by omega)), (d3 107 (by omega)).trans pk_us, fun i hi => d2 i (by omega) hi⟩
    have q107 : upd X ((107 : Int32)).toNatClampNeg t = upd X 107 t := rfl
    have kk : fX8_keep (ups (ups (ups M 0 (ups (M 0) 31 1)) 10 (upd X 107 t)) 11 (M 11)) = fX8_keep (ups M 0 (ups (M 0) 31 1)) := rfl
    unfold fX8_image_196
    rw [gd_s (vin_lit (by decide)), nm_s, q107, kk, k1, ob1_s]
    exact d1
  obtain ⟨I, e1, e2, e3, e4⟩ := fin (M 0 12) rfl
  refine ⟨I, K, ?_, fun i hi => ?_, fun i hi => ?_, fun i h1 h2 => ?_, ?_, ?_, ?_, ?_, e3, fun i hi => ?_, ?_⟩
  · unfold fX8_image
    have z0 : (0 : Int32) = nI 0 := rfl
    rw [z0, a1]
    rw [← z0] at a1 b1 c1
    rw [b1, c1]
    unfold img3K
    have g0 : ups (M 0) 31 1 0 = M 0 0 := rfl
    have g1 : ups (M 0) 31 1 1 = M 0 1 := rfl
    have g6 : ups (M 0) 31 1 6 = M 0 6 := rfl
    have g9 : ups (M 0) 31 1 9 = M 0 9 := rfl
    have g12 : ups (M 0) 31 1 12 = M 0 12 := rfl
    rw [g0, g1, g6, g9, g12, ← hX]
    rcases h12 with q | q
    · rw [if_pos q]; rw [q] at e1; exact e1
    · rw [if_neg (by rw [q]; decide)]; rw [q] at e1; exact e1
  · exact (e2 i (by omega)).trans ((x0 i (by omega)).trans ((c3 i (by omega)).trans ((b3 i (by omega)).trans (a2 i (by omega) hi))))
  · exact (e2 _ (by omega)).trans ((x0 _ (by omega)).trans ((c3 _ (by omega)).trans (b2 i (by omega) hi)))
  · obtain ⟨d1, d2, d3, d4⟩ := c2 i h1 h2
    exact ⟨(e2 _ (by omega)).trans ((x0 _ (by omega)).trans d1), (e2 _ (by omega)).trans ((x0 _ (by omega)).trans d2), (e2 _ (by omega)).trans ((x0 _ (by omega)).trans d3), (e2 _ (by omega)).trans ((x0 _ (by omega)).trans d4)⟩
  · rw [e2 103 (by omega), hX, pk_un (by omega), pk_un (by omega), pk_un (by omega), pk_us]
  · rw [e2 104 (by omega), hX, pk_un (by omega), pk_un (by omega), pk_us]
  · rw [e2 105 (by omega), hX, pk_un (by omega), pk_us]
  · rw [e2 106 (by omega), hX, pk_us]
  · exact (e4 i (by omega)).trans ((k2 i hi).trans (show ups (M 0) 31 1 (13 + i) = M 0 (13 + i) from ups_n _ _ _ _ (by omega)))
  · exact (e4 11 (by omega)).trans k3
theorem ImS.ext {I : Nat → Int32} {w : Nat → Nat → Int32} {s s' : Nat → Int32} {n : Nat} (h : ImS I w s n) (hs : ∀ k, k < 17 → s' k = s k) : ImS I w s' n := by
  unfold ImS OS TB AN Idle at *
  rw [hs 0 (by omega), hs 1 (by omega), hs 2 (by omega), hs 3 (by omega), hs 4 (by omega), hs 5 (by omega), hs 6 (by omega), hs 7 (by omega), hs 8 (by omega), hs 9 (by omega), hs 10 (by omega), hs 11 (by omega), hs 12 (by omega), hs 13 (by omega), hs 14 (by omega), hs 15 (by omega)]
  exact h
theorem ship12 {n : Nat} {E M : Nat → Nat → Int32} (h : zR n E M) : E 12 12 = 0 ∨ E 12 12 = 1 := by
  rcases h.2.2.2.2.1.2.1 with q | q
  · exact (h.2.2.2.2.1.2.2.1.2 q).2.2
  · exact (h.2.2.2.2.1.2.2.1.1 q).2.1.2.2.2.2.2.2.2.2.2.1
theorem sim_image {n : Nat} {E M : Nat → Nat → Int32} (hn : n < 1000) (h : zR n E M) : ∃ (r : Int32) (c0 : Nat → Int32) (c14 : Nat → Int32) (c15 : Nat → Int32) (c16 : Nat → Int32) (c17 : Nat → Int32) (c18 : Nat → Int32) (c19 : Nat → Int32) (c20 : Nat → Int32) (c21 : Nat → Int32) (c22 : Nat → Int32) (c23 : Nat → Int32) (d0 : Nat → Int32) (d10 : Nat → Int32) (d11 : Nat → Int32), fX7_image E = some (r, c0, c14, c15, c16, c17, c18, c19, c20, c21, c22, c23) ∧ fX8_image M = some (r, d0, d10, d11) ∧ zR (n + 1) (ups (ups (ups (ups (ups (ups (ups (ups (ups (ups (ups E 0 c0) 14 c14) 15 c15) 16 c16) 17 c17) 18 c18) 19 c19) 20 c20) 21 c21) 22 c22) 23 c23) (ups (ups (ups M 0 d0) 10 d10) 11 d11) := by
  obtain ⟨I, K, m0, m1, m3, m4, m103, m104, m105, m106, m107, m108, m119⟩ := m_image (M := M) (by rw [h.2.2.2.2.1.1]; exact h.2.2.2.2.1.2.1)
  have hcp := e_cpy (E 23) (s := E 12) h.2.2.2.2.1.2.1 (ship12 h) (Or.inl h.2.2.2.2.1.2.2.2.2.2.1.1)
  have hwc := e_wcp (sh 14 E) (sh 3 E)
  have e1 : fX7_image E = some (E 4 1 * E 4 2, ups (E 0) 9 1, wc0 (E 14) (E 3), ups (ups (E 15) 1 (E 4 1)) 2 (E 4 2), cpr 64 (E 16) (E 5), ups (E 17) 2 (E 6 2), cpr 8 (E 18) (E 7), cpr 8 (E 19) (E 8), ups (E 20) 2 (E 9 2), cpr 8 (E 21) (E 10), cpr 8 (E 22) (E 11), cpy (E 23) (E 12)) := by
    unfold fX7_image
    simp only [ups_id]
    rw [hwc]
    show ob1 (fX5_copyFrom (E 23) (E 12)) (fun u12 => _) = _
    rw [hcp]
    rfl
  have q12 := ship12 h
  obtain ⟨⟨q0, q1, q2, q3, q4, q5, q6, q7, q8, q9, q10, q11, q12', q13, q14⟩, h2, h3, h4, ⟨a1, a2, a3, a4, a5, a6, a7⟩, h6, h7, ⟨i1, i2⟩, h9, h10⟩ := h
  have e2 : fX8_image M = some (E 4 1 * E 4 2, ups (M 0) 31 1, I, K) := by
    rw [m0, q0, q1]; rfl
  refine ⟨_, _, _, _, _, _, _, _, _, _, _, _, _, _, _, e1, e2, ?_⟩
  have hS : ImS I (sh 3 E) (E 12) (n + 1) := by
    refine ⟨⟨m107.trans a1, ?_⟩, a2, fun e => ?_, ?_, fun e => ⟨(a3.2 e).1, (a3.2 e).2.2⟩, a6, a7.up⟩
    · rw [m119]
      by_cases c : M 0 24 = 0
      · rw [if_pos c]; exact Or.inl rfl
      · rw [if_neg c]; exact Or.inr rfl
    · obtain ⟨⟨f1, f2, f3, f4, f5, f6, f7, f8, f9, f10, f11⟩, o, t⟩ := a3.1 e
      refine ⟨(m108 0 (by omega)).trans f1, (m108 1 (by omega)).trans f2, (m108 2 (by omega)).trans f3, (m108 3 (by omega)).trans f4, (m108 4 (by omega)).trans f5, (m108 5 (by omega)).trans f6, (m108 6 (by omega)).trans f7, (m108 7 (by omega)).trans f8, (m108 9 (by omega)).trans f10, fun q => ⟨(m108 10 (by omega)).trans (f11 q).1, ?_⟩, o, t⟩
      rw [m119, (f11 q).2]
      rcases q12 with d | d
      · rw [if_pos d, d]
      · rw [if_neg (by rw [d]; decide), d]
    · refine (m108 8 (by omega)).trans ?_
      rcases a2 with e | e
      · exact (a3.2 e).2.1.trans (a3.2 e).1.symm
      · exact (a3.1 e).1.2.2.2.2.2.2.2.2.1
  have hW : ImW I (wcp (sh 14 E) (sh 3 E)) := by
    refine ⟨fun i hi => ?_, (m3 0 (by omega)).trans q9, (m3 1 (by omega)).trans q10, (m3 2 (by omega)).trans q11, (m3 3 (by omega)).trans q12', (m3 4 (by omega)).trans q13, (m3 5 (by omega)).trans h3, (m3 6 (by omega)).trans q14, fun i hi => ?_, m103.trans q0, m104.trans q1, m105.trans q2, m106.trans q3⟩
    · show I i = cpr 64 (E 16) (E 5) i
      unfold cpr
      rw [if_pos hi, m1 i hi, q4]; rfl
    · obtain ⟨d1, d2, d3, d4⟩ := m4 i (by omega) hi
      show I (71 + i) = cpr 8 (E 18) (E 7) i ∧ I (79 + i) = cpr 8 (E 19) (E 8) i ∧ I (87 + i) = cpr 8 (E 21) (E 10) i ∧ I (95 + i) = cpr 8 (E 22) (E 11) i
      unfold cpr
      rw [if_pos hi, if_pos hi, if_pos hi, if_pos hi, d1, d2, d3, d4, q5, q6, q7, q8]
      exact ⟨rfl, rfl, rfl, rfl⟩
  have hS2 : ImS I (wcp (sh 14 E) (sh 3 E)) (cpy (E 23) (E 12)) (n + 1) := ImS.ext (show ImS I (wcp (sh 14 E) (sh 3 E)) (E 12) (n + 1) from hS) (cpy_at (E 23) (E 12))
  exact ⟨⟨q0, q1, q2, q3, q4, q5, q6, q7, q8, q9, q10, q11, q12', q13, q14⟩, h2, h3, h4, ⟨a1, a2, a3, a4, a5, a6, a7.up⟩, h6, h7, ⟨rfl, Or.inr rfl⟩, ow_wcp h9 h2, fun _ => ⟨hW, hS2⟩⟩
