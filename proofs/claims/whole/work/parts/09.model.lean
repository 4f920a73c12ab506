set_option maxHeartbeats 4000000 in
set_option maxRecDepth 100000 in
theorem kX8_no (l : Launch) (dC : Nat → ClassId) (dI : Nat → Nat → Nat) (cy : ClassId) (h0 : Nat → Nat) (w0 : Nat → Nat → Int32) (x1 : Int32) (sz : Nat) (z : Int32 × (Nat → Int32)) (hf : fX8_no w0 x1 = some z) : Met l yX8_no (wsM yX8_no cX8_no 2 (some .int)) ({ frames := 0, cells := 0, slots := 0, locals := 0 } : Room) (va_Pc [.ref (h0 0), .int x1] (pWR (dC, dI) vwCl [(cy, .int)] (zW_8 cy h0 w0) sz)) (va_Qi (fun (q : Int32) (v : (Nat → Int32)) => (q, v) = z) (fun v => aWR (dC, dI) vwCl [(cy, .int)] (va_A (zW_8 cy h0 w0) sz) (zW_8 cy h0 (ups w0 9 v))) (va_A (zW_8 cy h0 w0) sz)) 0 0 (va_A (zW_8 cy h0 w0) sz) := by
  refine Met.ofW (cc := cX8_no) (maxL := 2) (ret := (some .int)) (by decide) rfl ?_
  intro p e s m args below meth c s₁ B hml hv
  obtain ⟨ha, hsz, hP, hK, hD0, hG⟩ := hv
  have hx := B.exec
  have hb := B.bytes
  have hr := B.returns
  have hts : ∀ w ∈ wsA, w.before args s = true := fun w h => atoms_spec (ws := wsM yX8_no cX8_no 2 (some .int)) B.pre w (List.mem_cons_of_mem _ h)
  have hown : s.vm.findClass RX8 = some m.cls := findClass_of_methodNamed B.named
  have hlocks := B.notSynchronized
  subst hsz
  have hD := hD0.self (sz := s.heap.size)
  generalize hAe : va_A (zW_8 cy h0 w0) s.heap.size = A at hD hG ⊢
  have hA : ∀ q : Nat, s.heap.size ≤ q → A q := fun q h => by rw [← hAe]; exact Or.inr h
  have hS : va_S A s.heap s.heap [] := va_S.rf
  have hP : va_P (dC, dI) vwCl (zW_8 cy h0 (ups w0 9 (w0 9))) s.heap := hP
  have hD : va_D A (zW_8 cy h0 (ups w0 9 (w0 9))) := hD
  obtain ⟨ls, hl, he⟩ := zent (m := m) (n := 2) (L := [(0, .ref (h0 0)), (1, .int x1)]) ha (Nat.le_of_ble_eq_true rfl) rfl
  refine W.eq he ?_
  unfold fX8_no at hf
  have kE : ∀ (H : Heap) (locs : List Loc), va_P (dC, dI) vwCl (zW_8 cy h0 (ups w0 9 (w0 9))) H → va_D A (zW_8 cy h0 (ups w0 9 (w0 9))) → va_S A s.heap H locs → W p l e ({ frames := 0, cells := 0, slots := 0, locals := 0 } : Room) s m args below meth c H locs 0 0 (MQ below (va_Qi (fun (q : Int32) (v : (Nat → Int32)) => (q, v) = z) (fun v => aWR (dC, dI) vwCl [(cy, .int)] A (zW_8 cy h0 (ups w0 9 v))) A) args s 0 0 A) (F0 m 0 ls []) := by
    intro H locs hP hD hS
    refine lv_aload_n hx hb dX8_no_0 rfl (lv_at hl 0 rfl) ?_
    refine zget hx hb hts hown hK hP hin_8 0 rfl rfl 30 (by decide) mw_620 (v := .ref (h0 9)) rfl dX8_no_1 ?_
    refine lv_iload_n hx hb dX8_no_4 rfl (lv_at hl 1 rfl) ?_
    refine lv_ineg hx hb dX8_no_5 ?_
    refine lv_dup2_11 hx hb dX8_no_6 rfl rfl ?_
    obtain ⟨hin1, hf⟩ := gd_d hf
    refine va_iald hx hb hK hP 9 0 rfl rfl hin1 dX8_no_7 ?_
    refine lv_iconst (v := (1 : Int32)) hx hb dX8_no_8 (by decide) ?_
    refine lv_iadd hx hb dX8_no_9 ?_
    obtain ⟨hin2, hf⟩ := gd_d hf
    obtain ⟨g3, hg3, hf⟩ := nm_d hf
    refine zast hx hb hK hP hD hS 9 (wn := (zW_8 cy h0 (ups w0 9 g3))) hg3 rfl rfl hin2 rfl dX8_no_10 (fun H locs hP hD hS => ?_)
    refine lv_iload_n hx hb dX8_no_11 rfl (lv_at hl 1 rfl) ?_
    exact zretI hx hb hr hlocks hP hK hD hS hf rfl dX8_no_12
  exact kE s.heap [] hP hD hS
set_option maxHeartbeats 4000000 in
set_option maxRecDepth 100000 in
theorem kX8_isCell (l : Launch) (dC : Nat → ClassId) (dI : Nat → Nat → Nat) (cy : ClassId) (h0 : Nat → Nat) (w0 : Nat → Nat → Int32) (x1 : Int32) (z : Int32) (hf : fX8_isCell w0 x1 = some z) : Met l yX8_isCell (wsM yX8_isCell cX8_isCell 2 (some .boolean)) ({ frames := 0, cells := 0, slots := 0, locals := 0 } : Room) (va_Pc [.ref (h0 0), .int x1] (pRO (dC, dI) vwCl [(cy, .int)] (zW_8 cy h0 w0))) (vp_Si (fun q => q = z)) 0 0 (fun _ => False) := by
  refine Met.ofW (cc := cX8_isCell) (maxL := 2) (ret := (some .boolean)) (by decide) rfl ?_
  intro p e s m args below meth c s₁ B hml hv
  obtain ⟨ha, hP, hK, hG⟩ := hv
  have hx := B.exec
  have hb := B.bytes
  have hr := B.returns
  have hts : ∀ w ∈ wsA, w.before args s = true := fun w h => atoms_spec (ws := wsM yX8_isCell cX8_isCell 2 (some .boolean)) B.pre w (List.mem_cons_of_mem _ h)
  have hown : s.vm.findClass RX8 = some m.cls := findClass_of_methodNamed B.named
  have hlocks := B.notSynchronized
  have hS : va_S (fun _ => False) s.heap s.heap [] := va_S.rf
  obtain ⟨ls, hl, he⟩ := zent (m := m) (n := 2) (L := [(0, .ref (h0 0)), (1, .int x1)]) ha (Nat.le_of_ble_eq_true rfl) rfl
  refine W.eq he ?_
  unfold fX8_isCell at hf
  have kE : W p l e ({ frames := 0, cells := 0, slots := 0, locals := 0 } : Room) s m args below meth c s.heap [] 0 0 (MQ below (vp_Si (fun q => q = z)) args s 0 0 (fun _ => False)) (F0 m 0 ls []) := by
    refine lv_iload_n hx hb dX8_isCell_0 rfl (lv_at hl 1 rfl) ?_
    refine lv_if_lt (tgt := 21) hx hb dX8_isCell_1 (by decide) (fun hc => ?_) (fun hc => ?_)
    · have hf := it_t hc hf
      refine lv_iconst (v := (0 : Int32)) hx hb dX8_isCell_21 (by decide) ?_
      exact zretRZ hx hb hr hlocks rfl hf dX8_isCell_22
    · have hf := it_f hc hf
      refine lv_iload_n hx hb dX8_isCell_4 rfl (lv_at hl 1 rfl) ?_
      refine lv_aload_n hx hb dX8_isCell_5 rfl (lv_at hl 0 rfl) ?_
      refine zget hx hb hts hown hK hP hin_8 0 rfl rfl 0 (by decide) mw_590 (v := .int (w0 0 0)) rfl dX8_isCell_6 ?_
      refine lv_aload_n hx hb dX8_isCell_9 rfl (lv_at hl 0 rfl) ?_
      refine zget hx hb hts hown hK hP hin_8 0 rfl rfl 1 (by decide) mw_591 (v := .int (w0 0 1)) rfl dX8_isCell_10 ?_
      refine lv_imul hx hb dX8_isCell_13 ?_
      refine lv_icmp_ge (tgt := 21) hx hb dX8_isCell_14 (by decide) (fun hc => ?_) (fun hc => ?_)
      · have hf := it_t hc hf
        refine lv_iconst (v := (0 : Int32)) hx hb dX8_isCell_21 (by decide) ?_
        exact zretRZ hx hb hr hlocks rfl hf dX8_isCell_22
      · have hf := it_f hc hf
        refine lv_iconst (v := (1 : Int32)) hx hb dX8_isCell_17 (by decide) ?_
        refine lv_goto (tgt := 22) hx hb dX8_isCell_18 (by decide) ?_
        exact zretRZ hx hb hr hlocks rfl hf dX8_isCell_22
  exact kE
set_option maxHeartbeats 4000000 in
set_option maxRecDepth 100000 in
theorem kX8_isDirection (l : Launch) (dC : Nat → ClassId) (dI : Nat → Nat → Nat) (cy : ClassId) (x0 : Int32) (z : Int32) (hf : fX8_isDirection x0 = some z) : Met l yX8_isDirection (wsM yX8_isDirection cX8_isDirection 1 (some .boolean)) ({ frames := 0, cells := 0, slots := 0, locals := 0 } : Room) (va_Pc [.int x0] (pRO (dC, dI) vwCl [(cy, .int)] ([] : va_W))) (vp_Si (fun q => q = z)) 0 0 (fun _ => False) := by
  refine Met.ofW (cc := cX8_isDirection) (maxL := 1) (ret := (some .boolean)) (by decide) rfl ?_
  intro p e s m args below meth c s₁ B hml hv
  obtain ⟨ha, hP, hK, hG⟩ := hv
  have hx := B.exec
  have hb := B.bytes
  have hr := B.returns
  have hts : ∀ w ∈ wsA, w.before args s = true := fun w h => atoms_spec (ws := wsM yX8_isDirection cX8_isDirection 1 (some .boolean)) B.pre w (List.mem_cons_of_mem _ h)
  have hown : s.vm.findClass RX8 = some m.cls := findClass_of_methodNamed B.named
  have hlocks := B.notSynchronized
  have hS : va_S (fun _ => False) s.heap s.heap [] := va_S.rf
  obtain ⟨ls, hl, he⟩ := zent (m := m) (n := 1) (L := [(0, .int x0)]) ha (Nat.le_of_ble_eq_true rfl) rfl
  refine W.eq he ?_
  unfold fX8_isDirection at hf
  have kE : W p l e ({ frames := 0, cells := 0, slots := 0, locals := 0 } : Room) s m args below meth c s.heap [] 0 0 (MQ below (vp_Si (fun q => q = z)) args s 0 0 (fun _ => False)) (F0 m 0 ls []) := by
    refine lv_iload_n hx hb dX8_isDirection_0 rfl (lv_at hl 0 rfl) ?_
    refine lv_if_lt (tgt := 14) hx hb dX8_isDirection_1 (by decide) (fun hc => ?_) (fun hc => ?_)
    · have hf := it_t hc hf
      refine lv_iconst (v := (0 : Int32)) hx hb dX8_isDirection_14 (by decide) ?_
      exact zretRZ hx hb hr hlocks rfl hf dX8_isDirection_15
    · have hf := it_f hc hf
      refine lv_iload_n hx hb dX8_isDirection_4 rfl (lv_at hl 0 rfl) ?_
      refine lv_bipush (v := (8 : Int32)) hx hb dX8_isDirection_5 (by decide) ?_
      refine lv_icmp_ge (tgt := 14) hx hb dX8_isDirection_7 (by decide) (fun hc => ?_) (fun hc => ?_)
      · have hf := it_t hc hf
        refine lv_iconst (v := (0 : Int32)) hx hb dX8_isDirection_14 (by decide) ?_
        exact zretRZ hx hb hr hlocks rfl hf dX8_isDirection_15
      · have hf := it_f hc hf
        refine lv_iconst (v := (1 : Int32)) hx hb dX8_isDirection_10 (by decide) ?_
        refine lv_goto (tgt := 15) hx hb dX8_isDirection_11 (by decide) ?_
        exact zretRZ hx hb hr hlocks rfl hf dX8_isDirection_15
  exact kE
set_option maxHeartbeats 4000000 in
set_option maxRecDepth 100000 in
theorem kX8_letter (l : Launch) (dC : Nat → ClassId) (dI : Nat → Nat → Nat) (cy : ClassId) (h0 : Nat → Nat) (w0 : Nat → Nat → Int32) (x1 : Int32) (sz : Nat) (z : Int32 × (Nat → Int32) × (Nat → Int32) × (Nat → Int32)) (hf : fX8_letter w0 x1 = some z) : Met l yX8_letter (wsM yX8_letter cX8_letter 2 (some .int)) ({ frames := 1, cells := 0, slots := 0, locals := 21 } : Room) (va_Pc [.ref (h0 0), .int x1] (pWR (dC, dI) vwCl [(cy, .int)] (zW_8 cy h0 w0) sz)) (va_Qi (fun (q : Int32) (v : (Nat → Int32) × (Nat → Int32) × (Nat → Int32)) => (q, v) = z) (fun v => aWR (dC, dI) vwCl [(cy, .int)] (va_A (zW_8 cy h0 w0) sz) (zW_8 cy h0 (ups (ups (ups w0 0 v.1) 2 v.2.1) 9 v.2.2))) (va_A (zW_8 cy h0 w0) sz)) 0 0 (va_A (zW_8 cy h0 w0) sz) := by
  refine Met.ofW (cc := cX8_letter) (maxL := 2) (ret := (some .int)) (by decide) rfl ?_
  intro p e s m args below meth c s₁ B hml hv
  obtain ⟨ha, hsz, hP, hK, hD0, hG⟩ := hv
  have hx := B.exec
  have hb := B.bytes
  have hr := B.returns
  have hts : ∀ w ∈ wsA, w.before args s = true := fun w h => atoms_spec (ws := wsM yX8_letter cX8_letter 2 (some .int)) B.pre w (List.mem_cons_of_mem _ h)
  have hown : s.vm.findClass RX8 = some m.cls := findClass_of_methodNamed B.named
  have hlocks := B.notSynchronized
  subst hsz
  have hD := hD0.self (sz := s.heap.size)
  generalize hAe : va_A (zW_8 cy h0 w0) s.heap.size = A at hD hG ⊢
  have hA : ∀ q : Nat, s.heap.size ≤ q → A q := fun q h => by rw [← hAe]; exact Or.inr h
  have hS : va_S A s.heap s.heap [] := va_S.rf
  have hP : va_P (dC, dI) vwCl (zW_8 cy h0 (ups (ups (ups w0 0 (w0 0)) 2 (w0 2)) 9 (w0 9))) s.heap := hP
  have hD : va_D A (zW_8 cy h0 (ups (ups (ups w0 0 (w0 0)) 2 (w0 2)) 9 (w0 9))) := hD
  have k27 : ∀ (c0_0 : (Nat → Int32)) (c0_2 : (Nat → Int32)) (c0_9 : (Nat → Int32)) (H : Heap) (locs : List Loc) (ls : Array Slot), va_P (dC, dI) vwCl (zW_8 cy h0 (ups (ups (ups w0 0 c0_0) 2 c0_2) 9 c0_9)) H → va_D A (zW_8 cy h0 (ups (ups (ups w0 0 c0_0) 2 c0_2) 9 c0_9)) → va_S A s.heap H locs → lv_has ls 2 [(0, .ref (h0 0))] → (fX8_letter_27 w0) c0_0 c0_2 c0_9 = some z → W p l e ({ frames := 1, cells := 0, slots := 0, locals := 21 } : Room) s m args below meth c H locs 0 0 (MQ below (va_Qi (fun (q : Int32) (v : (Nat → Int32) × (Nat → Int32) × (Nat → Int32)) => (q, v) = z) (fun v => aWR (dC, dI) vwCl [(cy, .int)] A (zW_8 cy h0 (ups (ups (ups w0 0 v.1) 2 v.2.1) 9 v.2.2))) A) args s 0 0 A) (F0 m 27 ls []) := by
    intro c0_0 c0_2 c0_9 H locs ls hP hD hS hl hf
    unfold fX8_letter_27 at hf
    refine lv_aload_n hx hb dX8_letter_27 rfl (lv_at hl 0 rfl) ?_
    refine lv_bipush (v := (-6 : Int32)) hx hb dX8_letter_28 (by decide) ?_
    obtain ⟨r2, u3, hq1, hf⟩ := ob2_d hf
    refine zwiV (q := (RX8, TX8, 37)) (As := [.int (-6 : Int32)]) (rest := []) (r := r2) (u := u3) (wn := (zW_8 cy h0 (ups (ups (ups w0 0 c0_0) 2 c0_2) 9 u3))) ⟨hx, hb, hml, hown, hts⟩ (kX8_no l dC dI cy h0 (ups (ups (ups w0 0 c0_0) 2 c0_2) 9 c0_9) (-6 : Int32) H.size (r2, u3) hq1) mw_668 mw_669 mw_898 mw_9 mw_670 hdX8_no rfl rfl ⟨Nat.le_of_ble_eq_true rfl, Nat.le_of_ble_eq_true rfl⟩ hP hK hG hS 0 rfl rfl hD hA [0, 1, 2, 3, 4, 5, 6, 7, 8, 9, 10, 11, 12, 13] [] [0, 1, 2, 3, 4, 5, 6, 7, 8, 9, 10, 11, 12, 13] rfl rfl rfl rfl (by decide) rfl rfl rfl hl.1 rfl (Nat.le_of_ble_eq_true rfl) dX8_letter_30 ⟨Nat.zero_le _, Nat.zero_le _⟩ (fun H locs hP hD hS => ?_)
    exact zretI hx hb hr hlocks hP hK hD hS hf rfl dX8_letter_33
  obtain ⟨ls, hl, he⟩ := zent (m := m) (n := 2) (L := [(0, .ref (h0 0)), (1, .int x1)]) ha (Nat.le_of_ble_eq_true rfl) rfl
  refine W.eq he ?_
  unfold fX8_letter at hf
  have kE : ∀ (H : Heap) (locs : List Loc), va_P (dC, dI) vwCl (zW_8 cy h0 (ups (ups (ups w0 0 (w0 0)) 2 (w0 2)) 9 (w0 9))) H → va_D A (zW_8 cy h0 (ups (ups (ups w0 0 (w0 0)) 2 (w0 2)) 9 (w0 9))) → va_S A s.heap H locs → W p l e ({ frames := 1, cells := 0, slots := 0, locals := 21 } : Room) s m args below meth c H locs 0 0 (MQ below (va_Qi (fun (q : Int32) (v : (Nat → Int32) × (Nat → Int32) × (Nat → Int32)) => (q, v) = z) (fun v => aWR (dC, dI) vwCl [(cy, .int)] A (zW_8 cy h0 (ups (ups (ups w0 0 v.1) 2 v.2.1) 9 v.2.2))) A) args s 0 0 A) (F0 m 0 ls []) := by
    intro H locs hP hD hS
    refine lv_iload_n hx hb dX8_letter_0 rfl (lv_at hl 1 rfl) ?_
    refine lv_if_ge (tgt := 11) hx hb dX8_letter_1 (by decide) (fun hc => ?_) (fun hc => ?_)
    · have hf := it_t hc hf
      refine lv_iload_n hx hb dX8_letter_11 rfl (lv_at hl 1 rfl) ?_
      refine lv_sipush (v := (255 : Int32)) hx hb dX8_letter_12 (by decide) ?_
      refine lv_icmp_gt (tgt := 27) hx hb dX8_letter_15 (by decide) (fun hc => ?_) (fun hc => ?_)
      · have hf := it_t hc hf
        exact k27 (w0 0) (w0 2) (w0 9) H locs ls hP hD hS (lv_sub hl [0] rfl) hf
      · have hf := it_f hc hf
        refine lv_aload_n hx hb dX8_letter_18 rfl (lv_at hl 0 rfl) ?_
        refine zget hx hb hts hown hK hP hin_8 0 rfl rfl 3 (by decide) mw_593 (v := .int (w0 0 3)) rfl dX8_letter_19 ?_
        refine lv_bipush (v := (80 : Int32)) hx hb dX8_letter_22 (by decide) ?_
        refine lv_icmp_ne (tgt := 34) hx hb dX8_letter_24 (by decide) (fun hc => ?_) (fun hc => ?_)
        · have hf := it_f hc hf
          refine lv_aload_n hx hb dX8_letter_34 rfl (lv_at hl 0 rfl) ?_
          refine zget hx hb hts hown hK hP hin_8 0 rfl rfl 4 (by decide) mw_594 (v := .ref (h0 2)) rfl dX8_letter_35 ?_
          refine lv_aload_n hx hb dX8_letter_38 rfl (lv_at hl 0 rfl) ?_
          refine zget hx hb hts hown hK hP hin_8 0 rfl rfl 3 (by decide) mw_593 (v := .int (w0 0 3)) rfl dX8_letter_39 ?_
          refine lv_iload_n hx hb dX8_letter_42 rfl (lv_at hl 1 rfl) ?_
          obtain ⟨hin4, hf⟩ := gd_d hf
          obtain ⟨g5, hg5, hf⟩ := nm_d hf
          refine zast hx hb hK hP hD hS 2 (wn := (zW_8 cy h0 (ups (ups (ups w0 0 (w0 0)) 2 g5) 9 (w0 9)))) hg5 rfl rfl hin4 rfl dX8_letter_43 (fun H locs hP hD hS => ?_)
          refine lv_aload_n hx hb dX8_letter_44 rfl (lv_at hl 0 rfl) ?_
          refine lv_dup hx hb dX8_letter_45 rfl ?_
          refine zget hx hb hts hown hK hP hin_8 0 rfl rfl 3 (by decide) mw_593 (v := .int (w0 0 3)) rfl dX8_letter_46 ?_
          refine lv_iconst (v := (1 : Int32)) hx hb dX8_letter_49 (by decide) ?_
          refine lv_iadd hx hb dX8_letter_50 ?_
          refine lv_dup_x1 hx hb dX8_letter_51 rfl rfl ?_
          refine zput hx hb hts hown hK hP hD hS hin_8 tyX8 tyX8_ok nmX8 0 rfl rfl 3 (by decide) mw_593 rfl (v := .int ((w0 0 3) + (1 : Int32))) rfl rfl (Nat.le_of_ble_eq_true rfl) (wn := (zW_8 cy h0 (ups (ups (ups w0 0 (ups (w0 0) 3 ((w0 0 3) + (1 : Int32)))) 2 g5) 9 (w0 9)))) rfl dX8_letter_52 (fun H locs hP hD hS => ?_)
          exact zretI hx hb hr hlocks hP hK hD hS hf rfl dX8_letter_55
        · have hf := it_t hc hf
          exact k27 (w0 0) (w0 2) (w0 9) H locs ls hP hD hS (lv_sub hl [0] rfl) hf
    · have hf := it_f hc hf
      refine lv_aload_n hx hb dX8_letter_4 rfl (lv_at hl 0 rfl) ?_
      refine lv_bipush (v := (-4 : Int32)) hx hb dX8_letter_5 (by decide) ?_
      obtain ⟨r7, u8, hq6, hf⟩ := ob2_d hf
      refine zwiV (q := (RX8, TX8, 37)) (As := [.int (-4 : Int32)]) (rest := []) (r := r7) (u := u8) (wn := (zW_8 cy h0 (ups (ups (ups w0 0 (w0 0)) 2 (w0 2)) 9 u8))) ⟨hx, hb, hml, hown, hts⟩ (kX8_no l dC dI cy h0 (ups (ups (ups w0 0 (w0 0)) 2 (w0 2)) 9 (w0 9)) (-4 : Int32) H.size (r7, u8) hq6) mw_668 mw_669 mw_898 mw_9 mw_670 hdX8_no rfl rfl ⟨Nat.le_of_ble_eq_true rfl, Nat.le_of_ble_eq_true rfl⟩ hP hK hG hS 0 rfl rfl hD hA [0, 1, 2, 3, 4, 5, 6, 7, 8, 9, 10, 11, 12, 13] [] [0, 1, 2, 3, 4, 5, 6, 7, 8, 9, 10, 11, 12, 13] rfl rfl rfl rfl (by decide) rfl rfl rfl hl.1 rfl (Nat.le_of_ble_eq_true rfl) dX8_letter_7 ⟨Nat.zero_le _, Nat.zero_le _⟩ (fun H locs hP hD hS => ?_)
      exact zretI hx hb hr hlocks hP hK hD hS hf rfl dX8_letter_10
  exact kE s.heap [] hP hD hS
set_option maxHeartbeats 4000000 in
set_option maxRecDepth 100000 in
theorem kX8_ground (l : Launch) (dC : Nat → ClassId) (dI : Nat → Nat → Nat) (cy : ClassId) (x0 : Int32) (z : Int32) (hf : fX8_ground x0 = some z) : Met l yX8_ground (wsM yX8_ground cX8_ground 1 (some .int)) ({ frames := 0, cells := 0, slots := 0, locals := 0 } : Room) (va_Pc [.int x0] (pRO (dC, dI) vwCl [(cy, .int)] ([] : va_W))) (vp_Si (fun q => q = z)) 0 0 (fun _ => False) := by
  refine Met.ofW (cc := cX8_ground) (maxL := 1) (ret := (some .int)) (by decide) rfl ?_
  intro p e s m args below meth c s₁ B hml hv
  obtain ⟨ha, hP, hK, hG⟩ := hv
  have hx := B.exec
  have hb := B.bytes
  have hr := B.returns
  have hts : ∀ w ∈ wsA, w.before args s = true := fun w h => atoms_spec (ws := wsM yX8_ground cX8_ground 1 (some .int)) B.pre w (List.mem_cons_of_mem _ h)
  have hown : s.vm.findClass RX8 = some m.cls := findClass_of_methodNamed B.named
  have hlocks := B.notSynchronized
  have hS : va_S (fun _ => False) s.heap s.heap [] := va_S.rf
  obtain ⟨ls, hl, he⟩ := zent (m := m) (n := 1) (L := [(0, .int x0)]) ha (Nat.le_of_ble_eq_true rfl) rfl
  refine W.eq he ?_
  unfold fX8_ground at hf
  have kE : W p l e ({ frames := 0, cells := 0, slots := 0, locals := 0 } : Room) s m args below meth c s.heap [] 0 0 (MQ below (vp_Si (fun q => q = z)) args s 0 0 (fun _ => False)) (F0 m 0 ls []) := by
    refine lv_iload_n hx hb dX8_ground_0 rfl (lv_at hl 0 rfl) ?_
    refine lv_bipush (v := (35 : Int32)) hx hb dX8_ground_1 (by decide) ?_
    refine lv_icmp_ne (tgt := 8) hx hb dX8_ground_3 (by decide) (fun hc => ?_) (fun hc => ?_)
    · have hf := it_f hc hf
      refine lv_iload_n hx hb dX8_ground_8 rfl (lv_at hl 0 rfl) ?_
      refine lv_bipush (v := (98 : Int32)) hx hb dX8_ground_9 (by decide) ?_
      refine lv_icmp_ne (tgt := 17) hx hb dX8_ground_11 (by decide) (fun hc => ?_) (fun hc => ?_)
      · have hf := it_f hc hf
        refine lv_iload_n hx hb dX8_ground_17 rfl (lv_at hl 0 rfl) ?_
        refine lv_bipush (v := (46 : Int32)) hx hb dX8_ground_18 (by decide) ?_
        refine lv_icmp_ne (tgt := 26) hx hb dX8_ground_20 (by decide) (fun hc => ?_) (fun hc => ?_)
        · have hf := it_f hc hf
          refine lv_iload_n hx hb dX8_ground_26 rfl (lv_at hl 0 rfl) ?_
          refine lv_bipush (v := (49 : Int32)) hx hb dX8_ground_27 (by decide) ?_
          refine lv_icmp_lt (tgt := 45) hx hb dX8_ground_29 (by decide) (fun hc => ?_) (fun hc => ?_)
          · have hf := it_t hc hf
            refine lv_iconst (v := (-1 : Int32)) hx hb dX8_ground_45 (by decide) ?_
            exact zretR hx hb hr hlocks hf dX8_ground_46
          · have hf := it_f hc hf
            refine lv_iload_n hx hb dX8_ground_32 rfl (lv_at hl 0 rfl) ?_
            refine lv_bipush (v := (57 : Int32)) hx hb dX8_ground_33 (by decide) ?_
            refine lv_icmp_gt (tgt := 45) hx hb dX8_ground_35 (by decide) (fun hc => ?_) (fun hc => ?_)
            · have hf := it_t hc hf
              refine lv_iconst (v := (-1 : Int32)) hx hb dX8_ground_45 (by decide) ?_
              exact zretR hx hb hr hlocks hf dX8_ground_46
            · have hf := it_f hc hf
              refine lv_iload_n hx hb dX8_ground_38 rfl (lv_at hl 0 rfl) ?_
              refine lv_bipush (v := (48 : Int32)) hx hb dX8_ground_39 (by decide) ?_
              refine lv_isub hx hb dX8_ground_41 ?_
              refine lv_goto (tgt := 46) hx hb dX8_ground_42 (by decide) ?_
              exact zretR hx hb hr hlocks hf dX8_ground_46
        · have hf := it_t hc hf
          refine lv_bipush (v := (20 : Int32)) hx hb dX8_ground_23 (by decide) ?_
          exact zretR hx hb hr hlocks hf dX8_ground_25
      · have hf := it_t hc hf
        refine lv_bipush (v := (30 : Int32)) hx hb dX8_ground_14 (by decide) ?_
        exact zretR hx hb hr hlocks hf dX8_ground_16
    · have hf := it_t hc hf
      refine lv_iconst (v := (0 : Int32)) hx hb dX8_ground_6 (by decide) ?_
      exact zretR hx hb hr hlocks hf dX8_ground_7
  exact kE
set_option maxHeartbeats 4000000 in
set_option maxRecDepth 100000 in
theorem kX8_fault (l : Launch) (dC : Nat → ClassId) (dI : Nat → Nat → Nat) (cy : ClassId) (h0 : Nat → Nat) (w0 : Nat → Nat → Int32) (z : Int32) (hf : fX8_fault w0 = some z) : Met l yX8_fault (wsM yX8_fault cX8_fault 5 (some .int)) ({ frames := 1, cells := 0, slots := 0, locals := 20 } : Room) (va_Pc [.ref (h0 0)] (pRO (dC, dI) vwCl [(cy, .int)] (zW_8 cy h0 w0))) (vp_Si (fun q => q = z)) 0 0 (fun _ => False) := by
  refine Met.ofW (cc := cX8_fault) (maxL := 5) (ret := (some .int)) (by decide) rfl ?_
  intro p e s m args below meth c s₁ B hml hv
  obtain ⟨ha, hP, hK, hG⟩ := hv
  have hx := B.exec
  have hb := B.bytes
  have hr := B.returns
  have hts : ∀ w ∈ wsA, w.before args s = true := fun w h => atoms_spec (ws := wsM yX8_fault cX8_fault 5 (some .int)) B.pre w (List.mem_cons_of_mem _ h)
  have hown : s.vm.findClass RX8 = some m.cls := findClass_of_methodNamed B.named
  have hlocks := B.notSynchronized
  have hS : va_S (fun _ => False) s.heap s.heap [] := va_S.rf
  have k97 : ∀ (s9 : Int32 → Int32 → Int32 → Int32 → Option (Int32)) (hs9 : ∀ (x1 : Int32) (x2 : Int32) (x3 : Int32) (x4 : Int32) (ls : Array Slot), lv_has ls 5 [(0, .ref (h0 0)), (1, .int x1), (2, .int x2), (3, .int x3), (4, .int x4)] → s9 x1 x2 x3 x4 = some z → W p l e ({ frames := 1, cells := 0, slots := 0, locals := 20 } : Room) s m args below meth c s.heap [] 0 0 (MQ below (vp_Si (fun q => q = z)) args s 0 0 (fun _ => False)) (F0 m 9 ls [])), ∀ (x1 : Int32) (x2 : Int32) (x3 : Int32) (x4 : Int32) (ls : Array Slot), lv_has ls 5 [(0, .ref (h0 0)), (1, .int x1), (2, .int x2), (3, .int x3), (4, .int x4)] → (fX8_fault_97 w0 s9) x1 x2 x3 x4 = some z → W p l e ({ frames := 1, cells := 0, slots := 0, locals := 20 } : Room) s m args below meth c s.heap [] 0 0 (MQ below (vp_Si (fun q => q = z)) args s 0 0 (fun _ => False)) (F0 m 97 ls []) := by
    intro s9 hs9
    intro x1 x2 x3 x4 ls hl hf
    unfold fX8_fault_97 at hf
    refine lv_zinc (lv' := [(4, .int (x4 + (1 : Int32))), (0, .ref (h0 0)), (1, .int x1), (2, .int x2), (3, .int x3)]) hx hb dX8_fault_97 hl (k := 4) rfl (v := (1 : Int32)) (by decide) (by decide) rfl (fun ls hl => ?_)
    refine lv_goto (tgt := 9) hx hb dX8_fault_100 (by decide) ?_
    exact hs9 x1 x2 x3 (x4 + (1 : Int32)) ls (lv_sub hl [1, 2, 3, 4, 0] rfl) hf
  have k94 : ∀ (s9 : Int32 → Int32 → Int32 → Int32 → Option (Int32)) (hs9 : ∀ (x1 : Int32) (x2 : Int32) (x3 : Int32) (x4 : Int32) (ls : Array Slot), lv_has ls 5 [(0, .ref (h0 0)), (1, .int x1), (2, .int x2), (3, .int x3), (4, .int x4)] → s9 x1 x2 x3 x4 = some z → W p l e ({ frames := 1, cells := 0, slots := 0, locals := 20 } : Room) s m args below meth c s.heap [] 0 0 (MQ below (vp_Si (fun q => q = z)) args s 0 0 (fun _ => False)) (F0 m 9 ls [])), ∀ (x1 : Int32) (x2 : Int32) (x3 : Int32) (x4 : Int32) (ls : Array Slot), lv_has ls 5 [(0, .ref (h0 0)), (1, .int x1), (2, .int x2), (3, .int x3), (4, .int x4)] → (fX8_fault_94 w0 s9) x1 x2 x3 x4 = some z → W p l e ({ frames := 1, cells := 0, slots := 0, locals := 20 } : Room) s m args below meth c s.heap [] 0 0 (MQ below (vp_Si (fun q => q = z)) args s 0 0 (fun _ => False)) (F0 m 94 ls []) := by
    intro s9 hs9
    intro x1 x2 x3 x4 ls hl hf
    unfold fX8_fault_94 at hf
    refine lv_zinc (lv' := [(3, .int (x3 + (1 : Int32))), (0, .ref (h0 0)), (1, .int x1), (2, .int x2), (4, .int x4)]) hx hb dX8_fault_94 hl (k := 3) rfl (v := (1 : Int32)) (by decide) (by decide) rfl (fun ls hl => ?_)
    exact k97 s9 hs9 x1 x2 (x3 + (1 : Int32)) x4 ls (lv_sub hl [1, 2, 3, 0, 4] rfl) hf
  have k53 : ∀ (s9 : Int32 → Int32 → Int32 → Int32 → Option (Int32)) (hs9 : ∀ (x1 : Int32) (x2 : Int32) (x3 : Int32) (x4 : Int32) (ls : Array Slot), lv_has ls 5 [(0, .ref (h0 0)), (1, .int x1), (2, .int x2), (3, .int x3), (4, .int x4)] → s9 x1 x2 x3 x4 = some z → W p l e ({ frames := 1, cells := 0, slots := 0, locals := 20 } : Room) s m args below meth c s.heap [] 0 0 (MQ below (vp_Si (fun q => q = z)) args s 0 0 (fun _ => False)) (F0 m 9 ls [])), ∀ (x2 : Int32) (x3 : Int32) (x4 : Int32) (ls : Array Slot), lv_has ls 5 [(0, .ref (h0 0)), (2, .int x2), (3, .int x3), (4, .int x4)] → (fX8_fault_53 w0 s9) x2 x3 x4 = some z → W p l e ({ frames := 1, cells := 0, slots := 0, locals := 20 } : Room) s m args below meth c s.heap [] 0 0 (MQ below (vp_Si (fun q => q = z)) args s 0 0 (fun _ => False)) (F0 m 53 ls []) := by
    intro s9 hs9
    intro x2 x3 x4 ls hl hf
    unfold fX8_fault_53 at hf
    refine lv_iload_n hx hb dX8_fault_53 rfl (lv_at hl 2 rfl) ?_
    refine lv_istore_n (lv' := [(1, .int x3), (0, .ref (h0 0)), (2, .int x2), (3, .int x3), (4, .int x4)]) hx hb dX8_fault_54 rfl hl (by decide) rfl (fun ls hl => ?_)
    refine lv_iconst (v := (0 : Int32)) hx hb dX8_fault_55 (by decide) ?_
    refine lv_istore_n (lv' := [(3, .int (0 : Int32)), (1, .int x3), (0, .ref (h0 0)), (2, .int x2), (4, .int x4)]) hx hb dX8_fault_56 rfl hl (by decide) rfl (fun ls hl => ?_)
    refine lv_zinc (lv' := [(2, .int (x2 + (1 : Int32))), (3, .int (0 : Int32)), (1, .int x3), (0, .ref (h0 0)), (4, .int x4)]) hx hb dX8_fault_57 hl (k := 3) rfl (v := (1 : Int32)) (by decide) (by decide) rfl (fun ls hl => ?_)
    refine lv_goto (tgt := 97) hx hb dX8_fault_60 (by decide) ?_
    exact k97 s9 hs9 x3 (x2 + (1 : Int32)) (0 : Int32) x4 ls (lv_sub hl [3, 2, 0, 1, 4] rfl) hf
  have k9 : ∀ n : Nat, ∀ (x1 : Int32) (x2 : Int32) (x3 : Int32) (x4 : Int32) (ls : Array Slot), lv_has ls 5 [(0, .ref (h0 0)), (1, .int x1), (2, .int x2), (3, .int x3), (4, .int x4)] → (zl4 (fX8_fault_9 w0) n) x1 x2 x3 x4 = some z → W p l e ({ frames := 1, cells := 0, slots := 0, locals := 20 } : Room) s m args below meth c s.heap [] 0 0 (MQ below (vp_Si (fun q => q = z)) args s 0 0 (fun _ => False)) (F0 m 9 ls []) := by
    intro n
    induction n with
    | zero =>
      intro x1 x2 x3 x4 ls hl hf
      exact z_no hf
    | succ n hs9 =>
      intro x1 x2 x3 x4 ls hl hf
      have hf : fX8_fault_9 w0 (zl4 (fX8_fault_9 w0) n) x1 x2 x3 x4 = some z := hf
      generalize zl4 (fX8_fault_9 w0) n = s9 at hs9 hf
      unfold fX8_fault_9 at hf
      refine lv_iload hx hb dX8_fault_9 (lv_at hl 4 rfl) ?_
      refine lv_aload_n hx hb dX8_fault_11 rfl (lv_at hl 0 rfl) ?_
      refine zget hx hb hts hown hK hP hin_8 0 rfl rfl 3 (by decide) mw_593 (v := .int (w0 0 3)) rfl dX8_fault_12 ?_
      refine lv_icmp_ge (tgt := 103) hx hb dX8_fault_15 (by decide) (fun hc => ?_) (fun hc => ?_)
      · have hf := it_t hc hf
        refine lv_iload_n hx hb dX8_fault_103 rfl (lv_at hl 2 rfl) ?_
        refine lv_if_eq (tgt := 112) hx hb dX8_fault_104 (by decide) (fun hc => ?_) (fun hc => ?_)
        · have hf := it_t hc hf
          refine lv_aload_n hx hb dX8_fault_112 rfl (lv_at hl 0 rfl) ?_
          refine zget hx hb hts hown hK hP hin_8 0 rfl rfl 3 (by decide) mw_593 (v := .int (w0 0 3)) rfl dX8_fault_113 ?_
          refine lv_goto (tgt := 120) hx hb dX8_fault_116 (by decide) ?_
          exact zretR hx hb hr hlocks hf dX8_fault_120
        · have hf := it_f hc hf
          refine lv_iload_n hx hb dX8_fault_107 rfl (lv_at hl 3 rfl) ?_
          refine lv_iload_n hx hb dX8_fault_108 rfl (lv_at hl 1 rfl) ?_
          refine lv_icmp_ge (tgt := 119) hx hb dX8_fault_109 (by decide) (fun hc => ?_) (fun hc => ?_)
          · have hf := it_t hc hf
            refine lv_iconst (v := (-1 : Int32)) hx hb dX8_fault_119 (by decide) ?_
            exact zretR hx hb hr hlocks hf dX8_fault_120
          · have hf := it_f hc hf
            refine lv_aload_n hx hb dX8_fault_112 rfl (lv_at hl 0 rfl) ?_
            refine zget hx hb hts hown hK hP hin_8 0 rfl rfl 3 (by decide) mw_593 (v := .int (w0 0 3)) rfl dX8_fault_113 ?_
            refine lv_goto (tgt := 120) hx hb dX8_fault_116 (by decide) ?_
            exact zretR hx hb hr hlocks hf dX8_fault_120
      · have hf := it_f hc hf
        refine lv_aload_n hx hb dX8_fault_18 rfl (lv_at hl 0 rfl) ?_
        refine zget hx hb hts hown hK hP hin_8 0 rfl rfl 4 (by decide) mw_594 (v := .ref (h0 2)) rfl dX8_fault_19 ?_
        refine lv_iload hx hb dX8_fault_22 (lv_at hl 4 rfl) ?_
        obtain ⟨hin1, hf⟩ := gd_d hf
        refine va_iald hx hb hK hP 2 0 rfl rfl hin1 dX8_fault_24 ?_
        refine lv_bipush (v := (47 : Int32)) hx hb dX8_fault_25 (by decide) ?_
        refine lv_icmp_ne (tgt := 63) hx hb dX8_fault_27 (by decide) (fun hc => ?_) (fun hc => ?_)
        · have hf := it_f hc hf
          refine lv_aload_n hx hb dX8_fault_63 rfl (lv_at hl 0 rfl) ?_
          refine zget hx hb hts hown hK hP hin_8 0 rfl rfl 4 (by decide) mw_594 (v := .ref (h0 2)) rfl dX8_fault_64 ?_
          refine lv_iload hx hb dX8_fault_67 (lv_at hl 4 rfl) ?_
          obtain ⟨hin2, hf⟩ := gd_d hf
          refine va_iald hx hb hK hP 2 0 rfl rfl hin2 dX8_fault_69 ?_
          obtain ⟨r4, hq3, hf⟩ := ob1_d hf
          refine zroS (As := [.int ((w0 2) (x4).toNatClampNeg)]) (rest := []) (r := r4) ⟨hx, hb, hml, hown, hts⟩ (kX8_ground l dC dI cy ((w0 2) (x4).toNatClampNeg) r4 hq3) mw_678 mw_679 mw_9 mw_680 hdX8_ground rfl rfl ⟨Nat.le_of_ble_eq_true rfl, Nat.le_of_ble_eq_true rfl⟩ hP hK hG hS [] rfl rfl hl.1 rfl (Nat.le_of_ble_eq_true rfl) dX8_fault_70 ⟨Nat.zero_le _, Nat.zero_le _⟩ ?_
          refine lv_if_lt (tgt := 91) hx hb dX8_fault_73 (by decide) (fun hc => ?_) (fun hc => ?_)
          · have hf := it_t hc hf
            refine lv_iload hx hb dX8_fault_91 (lv_at hl 4 rfl) ?_
            exact zretR hx hb hr hlocks hf dX8_fault_93
          · have hf := it_f hc hf
            refine lv_iload_n hx hb dX8_fault_76 rfl (lv_at hl 3 rfl) ?_
            refine lv_bipush (v := (8 : Int32)) hx hb dX8_fault_77 (by decide) ?_
            refine lv_icmp_eq (tgt := 91) hx hb dX8_fault_79 (by decide) (fun hc => ?_) (fun hc => ?_)
            · have hf := it_t hc hf
              refine lv_iload hx hb dX8_fault_91 (lv_at hl 4 rfl) ?_
              exact zretR hx hb hr hlocks hf dX8_fault_93
            · have hf := it_f hc hf
              refine lv_iload_n hx hb dX8_fault_82 rfl (lv_at hl 2 rfl) ?_
              refine lv_if_le (tgt := 94) hx hb dX8_fault_83 (by decide) (fun hc => ?_) (fun hc => ?_)
              · have hf := it_t hc hf
                exact k94 s9 hs9 x1 x2 x3 x4 ls (lv_sub hl [0, 1, 2, 3, 4] rfl) hf
              · have hf := it_f hc hf
                refine lv_iload_n hx hb dX8_fault_86 rfl (lv_at hl 3 rfl) ?_
                refine lv_iload_n hx hb dX8_fault_87 rfl (lv_at hl 1 rfl) ?_
                refine lv_icmp_ne (tgt := 94) hx hb dX8_fault_88 (by decide) (fun hc => ?_) (fun hc => ?_)
                · have hf := it_f hc hf
                  exact k94 s9 hs9 x1 x2 x3 x4 ls (lv_sub hl [0, 1, 2, 3, 4] rfl) hf
                · have hf := it_t hc hf
                  refine lv_iload hx hb dX8_fault_91 (lv_at hl 4 rfl) ?_
                  exact zretR hx hb hr hlocks hf dX8_fault_93
        · have hf := it_t hc hf
          refine lv_iload_n hx hb dX8_fault_30 rfl (lv_at hl 2 rfl) ?_
          refine lv_bipush (v := (7 : Int32)) hx hb dX8_fault_31 (by decide) ?_
          refine lv_icmp_eq (tgt := 50) hx hb dX8_fault_33 (by decide) (fun hc => ?_) (fun hc => ?_)
          · have hf := it_t hc hf
            refine lv_iload hx hb dX8_fault_50 (lv_at hl 4 rfl) ?_
            exact zretR hx hb hr hlocks hf dX8_fault_52
          · have hf := it_f hc hf
            refine lv_iload_n hx hb dX8_fault_36 rfl (lv_at hl 3 rfl) ?_
            refine lv_iconst (v := (2 : Int32)) hx hb dX8_fault_37 (by decide) ?_
            refine lv_icmp_lt (tgt := 50) hx hb dX8_fault_38 (by decide) (fun hc => ?_) (fun hc => ?_)
            · have hf := it_t hc hf
              refine lv_iload hx hb dX8_fault_50 (lv_at hl 4 rfl) ?_
              exact zretR hx hb hr hlocks hf dX8_fault_52
            · have hf := it_f hc hf
              refine lv_iload_n hx hb dX8_fault_41 rfl (lv_at hl 2 rfl) ?_
              refine lv_if_le (tgt := 53) hx hb dX8_fault_42 (by decide) (fun hc => ?_) (fun hc => ?_)
              · have hf := it_t hc hf
                exact k53 s9 hs9 x2 x3 x4 ls (lv_sub hl [0, 2, 3, 4] rfl) hf
              · have hf := it_f hc hf
                refine lv_iload_n hx hb dX8_fault_45 rfl (lv_at hl 3 rfl) ?_
                refine lv_iload_n hx hb dX8_fault_46 rfl (lv_at hl 1 rfl) ?_
                refine lv_icmp_ge (tgt := 53) hx hb dX8_fault_47 (by decide) (fun hc => ?_) (fun hc => ?_)
                · have hf := it_t hc hf
                  exact k53 s9 hs9 x2 x3 x4 ls (lv_sub hl [0, 2, 3, 4] rfl) hf
                · have hf := it_f hc hf
                  refine lv_iload hx hb dX8_fault_50 (lv_at hl 4 rfl) ?_
                  exact zretR hx hb hr hlocks hf dX8_fault_52
  obtain ⟨ls, hl, he⟩ := zent (m := m) (n := 5) (L := [(0, .ref (h0 0))]) ha (Nat.le_of_ble_eq_true rfl) rfl
  refine W.eq he ?_
  unfold fX8_fault at hf
  have kE : W p l e ({ frames := 1, cells := 0, slots := 0, locals := 20 } : Room) s m args below meth c s.heap [] 0 0 (MQ below (vp_Si (fun q => q = z)) args s 0 0 (fun _ => False)) (F0 m 0 ls []) := by
    refine lv_iconst (v := (0 : Int32)) hx hb dX8_fault_0 (by decide) ?_
    refine lv_istore_n (lv' := [(1, .int (0 : Int32)), (0, .ref (h0 0))]) hx hb dX8_fault_1 rfl hl (by decide) rfl (fun ls hl => ?_)
    refine lv_iconst (v := (0 : Int32)) hx hb dX8_fault_2 (by decide) ?_
    refine lv_istore_n (lv' := [(2, .int (0 : Int32)), (1, .int (0 : Int32)), (0, .ref (h0 0))]) hx hb dX8_fault_3 rfl hl (by decide) rfl (fun ls hl => ?_)
    refine lv_iconst (v := (0 : Int32)) hx hb dX8_fault_4 (by decide) ?_
    refine lv_istore_n (lv' := [(3, .int (0 : Int32)), (2, .int (0 : Int32)), (1, .int (0 : Int32)), (0, .ref (h0 0))]) hx hb dX8_fault_5 rfl hl (by decide) rfl (fun ls hl => ?_)
    refine lv_iconst (v := (0 : Int32)) hx hb dX8_fault_6 (by decide) ?_
    refine lv_istore (lv' := [(4, .int (0 : Int32)), (3, .int (0 : Int32)), (2, .int (0 : Int32)), (1, .int (0 : Int32)), (0, .ref (h0 0))]) hx hb dX8_fault_7 hl (by decide) rfl (fun ls hl => ?_)
    exact k9 zFU (0 : Int32) (0 : Int32) (0 : Int32) (0 : Int32) ls (lv_sub hl [4, 3, 2, 1, 0] rfl) hf
  exact kE
set_option maxHeartbeats 4000000 in
set_option maxRecDepth 100000 in
theorem kX8_bay (l : Launch) (dC : Nat → ClassId) (dI : Nat → Nat → Nat) (cy : ClassId) (h0 : Nat → Nat) (w0 : Nat → Nat → Int32) (sz : Nat) (z : Int32 × (Nat → Int32) × (Nat → Int32)) (hf : fX8_bay w0 = some z) : Met l yX8_bay (wsM yX8_bay cX8_bay 5 (some .int)) ({ frames := 2, cells := 0, slots := 0, locals := 44 } : Room) (va_Pc [.ref (h0 0)] (pWR (dC, dI) vwCl [(cy, .int)] (zW_8 cy h0 w0) sz)) (va_Qi (fun (q : Int32) (v : (Nat → Int32) × (Nat → Int32)) => (q, v) = z) (fun v => aWR (dC, dI) vwCl [(cy, .int)] (va_A (zW_8 cy h0 w0) sz) (zW_8 cy h0 (ups (ups w0 0 v.1) 1 v.2))) (va_A (zW_8 cy h0 w0) sz)) 0 0 (va_A (zW_8 cy h0 w0) sz) := by
  refine Met.ofW (cc := cX8_bay) (maxL := 5) (ret := (some .int)) (by decide) rfl ?_
  intro p e s m args below meth c s₁ B hml hv
  obtain ⟨ha, hsz, hP, hK, hD0, hG⟩ := hv
  have hx := B.exec
  have hb := B.bytes
  have hr := B.returns
  have hts : ∀ w ∈ wsA, w.before args s = true := fun w h => atoms_spec (ws := wsM yX8_bay cX8_bay 5 (some .int)) B.pre w (List.mem_cons_of_mem _ h)
  have hown : s.vm.findClass RX8 = some m.cls := findClass_of_methodNamed B.named
  have hlocks := B.notSynchronized
  subst hsz
  have hD := hD0.self (sz := s.heap.size)
  generalize hAe : va_A (zW_8 cy h0 w0) s.heap.size = A at hD hG ⊢
  have hA : ∀ q : Nat, s.heap.size ≤ q → A q := fun q h => by rw [← hAe]; exact Or.inr h
  have hS : va_S A s.heap s.heap [] := va_S.rf
  have hP : va_P (dC, dI) vwCl (zW_8 cy h0 (ups (ups w0 0 (w0 0)) 1 (w0 1))) s.heap := hP
  have hD : va_D A (zW_8 cy h0 (ups (ups w0 0 (w0 0)) 1 (w0 1))) := hD
  have k85 : ∀ (s35 : (Nat → Int32) → (Nat → Int32) → Int32 → Int32 → Int32 → Option (Int32 × (Nat → Int32) × (Nat → Int32))) (hs35 : ∀ (c0_0 : (Nat → Int32)) (c0_1 : (Nat → Int32)) (x2 : Int32) (x3 : Int32) (x4 : Int32) (H : Heap) (locs : List Loc) (ls : Array Slot), va_P (dC, dI) vwCl (zW_8 cy h0 (ups (ups w0 0 c0_0) 1 c0_1)) H → va_D A (zW_8 cy h0 (ups (ups w0 0 c0_0) 1 c0_1)) → va_S A s.heap H locs → lv_has ls 5 [(0, .ref (h0 0)), (2, .int x2), (3, .int x3), (4, .int x4)] → s35 c0_0 c0_1 x2 x3 x4 = some z → W p l e ({ frames := 2, cells := 0, slots := 0, locals := 44 } : Room) s m args below meth c H locs 0 0 (MQ below (va_Qi (fun (q : Int32) (v : (Nat → Int32) × (Nat → Int32)) => (q, v) = z) (fun v => aWR (dC, dI) vwCl [(cy, .int)] A (zW_8 cy h0 (ups (ups w0 0 v.1) 1 v.2))) A) args s 0 0 A) (F0 m 35 ls [])), ∀ (c0_0 : (Nat → Int32)) (c0_1 : (Nat → Int32)) (x2 : Int32) (x3 : Int32) (x4 : Int32) (H : Heap) (locs : List Loc) (ls : Array Slot), va_P (dC, dI) vwCl (zW_8 cy h0 (ups (ups w0 0 c0_0) 1 c0_1)) H → va_D A (zW_8 cy h0 (ups (ups w0 0 c0_0) 1 c0_1)) → va_S A s.heap H locs → lv_has ls 5 [(0, .ref (h0 0)), (2, .int x2), (3, .int x3), (4, .int x4)] → (fX8_bay_85 w0 s35) c0_0 c0_1 x2 x3 x4 = some z → W p l e ({ frames := 2, cells := 0, slots := 0, locals := 44 } : Room) s m args below meth c H locs 0 0 (MQ below (va_Qi (fun (q : Int32) (v : (Nat → Int32) × (Nat → Int32)) => (q, v) = z) (fun v => aWR (dC, dI) vwCl [(cy, .int)] A (zW_8 cy h0 (ups (ups w0 0 v.1) 1 v.2))) A) args s 0 0 A) (F0 m 85 ls []) := by
    intro s35 hs35
    intro c0_0 c0_1 x2 x3 x4 H locs ls hP hD hS hl hf
    unfold fX8_bay_85 at hf
    refine lv_zinc (lv' := [(4, .int (x4 + (1 : Int32))), (0, .ref (h0 0)), (2, .int x2), (3, .int x3)]) hx hb dX8_bay_85 hl (k := 3) rfl (v := (1 : Int32)) (by decide) (by decide) rfl (fun ls hl => ?_)
    refine lv_goto (tgt := 35) hx hb dX8_bay_88 (by decide) ?_
    exact hs35 c0_0 c0_1 x2 x3 (x4 + (1 : Int32)) H locs ls hP hD hS (lv_sub hl [1, 2, 3, 0] rfl) hf
  have k35 : ∀ n : Nat, ∀ (c0_0 : (Nat → Int32)) (c0_1 : (Nat → Int32)) (x2 : Int32) (x3 : Int32) (x4 : Int32) (H : Heap) (locs : List Loc) (ls : Array Slot), va_P (dC, dI) vwCl (zW_8 cy h0 (ups (ups w0 0 c0_0) 1 c0_1)) H → va_D A (zW_8 cy h0 (ups (ups w0 0 c0_0) 1 c0_1)) → va_S A s.heap H locs → lv_has ls 5 [(0, .ref (h0 0)), (2, .int x2), (3, .int x3), (4, .int x4)] → (zl5 (fX8_bay_35 w0) n) c0_0 c0_1 x2 x3 x4 = some z → W p l e ({ frames := 2, cells := 0, slots := 0, locals := 44 } : Room) s m args below meth c H locs 0 0 (MQ below (va_Qi (fun (q : Int32) (v : (Nat → Int32) × (Nat → Int32)) => (q, v) = z) (fun v => aWR (dC, dI) vwCl [(cy, .int)] A (zW_8 cy h0 (ups (ups w0 0 v.1) 1 v.2))) A) args s 0 0 A) (F0 m 35 ls []) := by
    intro n
    induction n with
    | zero =>
      intro c0_0 c0_1 x2 x3 x4 H locs ls hP hD hS hl hf
      exact z_no hf
    | succ n hs35 =>
      intro c0_0 c0_1 x2 x3 x4 H locs ls hP hD hS hl hf
      have hf : fX8_bay_35 w0 (zl5 (fX8_bay_35 w0) n) c0_0 c0_1 x2 x3 x4 = some z := hf
      generalize zl5 (fX8_bay_35 w0) n = s35 at hs35 hf
      unfold fX8_bay_35 at hf
      refine lv_iload hx hb dX8_bay_35 (lv_at hl 3 rfl) ?_
      refine lv_iload_n hx hb dX8_bay_37 rfl (lv_at hl 1 rfl) ?_
      refine lv_icmp_ge (tgt := 91) hx hb dX8_bay_38 (by decide) (fun hc => ?_) (fun hc => ?_)
      · have hf := it_t hc hf
        refine lv_aload_n hx hb dX8_bay_91 rfl (lv_at hl 0 rfl) ?_
        refine lv_iload_n hx hb dX8_bay_92 rfl (lv_at hl 2 rfl) ?_
        refine lv_aload_n hx hb dX8_bay_93 rfl (lv_at hl 0 rfl) ?_
        refine zget hx hb hts hown hK hP hin_8 0 rfl rfl 0 (by decide) mw_590 (v := .int (c0_0 0)) rfl dX8_bay_94 ?_
        obtain ⟨hne3, hf⟩ := dv_d hf
        refine lv_idiv hx hb dX8_bay_97 hne3 ?_
        refine zput hx hb hts hown hK hP hD hS hin_8 tyX8 tyX8_ok nmX8 0 rfl rfl 1 (by decide) mw_591 rfl (v := .int (x3 / (c0_0 0))) rfl rfl (Nat.le_of_ble_eq_true rfl) (wn := (zW_8 cy h0 (ups (ups w0 0 (ups c0_0 1 (x3 / (c0_0 0)))) 1 c0_1))) rfl dX8_bay_98 (fun H locs hP hD hS => ?_)
        refine lv_aload_n hx hb dX8_bay_101 rfl (lv_at hl 0 rfl) ?_
        refine lv_iconst (v := (0 : Int32)) hx hb dX8_bay_102 (by decide) ?_
        refine zput hx hb hts hown hK hP hD hS hin_8 tyX8 tyX8_ok nmX8 0 rfl rfl 12 (by decide) mw_602 rfl (v := .int (0 : Int32)) rfl rfl (Nat.le_of_ble_eq_true rfl) (wn := (zW_8 cy h0 (ups (ups w0 0 (ups (ups c0_0 1 (x3 / (c0_0 0))) 12 (0 : Int32))) 1 c0_1))) rfl dX8_bay_103 (fun H locs hP hD hS => ?_)
        refine lv_aload_n hx hb dX8_bay_106 rfl (lv_at hl 0 rfl) ?_
        refine lv_iconst (v := (0 : Int32)) hx hb dX8_bay_107 (by decide) ?_
        refine zput hx hb hts hown hK hP hD hS hin_8 tyX8 tyX8_ok nmX8 0 rfl rfl 21 (by decide) mw_611 rfl (v := .int (0 : Int32)) rfl rfl (Nat.le_of_ble_eq_true rfl) (wn := (zW_8 cy h0 (ups (ups w0 0 (ups (ups (ups c0_0 1 (x3 / (c0_0 0))) 12 (0 : Int32)) 21 (0 : Int32))) 1 c0_1))) rfl dX8_bay_108 (fun H locs hP hD hS => ?_)
        refine lv_iload_n hx hb dX8_bay_111 rfl (lv_at hl 2 rfl) ?_
        exact zretI hx hb hr hlocks hP hK hD hS hf rfl dX8_bay_112
      · have hf := it_f hc hf
        refine lv_aload_n hx hb dX8_bay_41 rfl (lv_at hl 0 rfl) ?_
        refine zget hx hb hts hown hK hP hin_8 0 rfl rfl 4 (by decide) mw_594 (v := .ref (h0 2)) rfl dX8_bay_42 ?_
        refine lv_iload hx hb dX8_bay_45 (lv_at hl 3 rfl) ?_
        obtain ⟨hin4, hf⟩ := gd_d hf
        refine va_iald hx hb hK hP 2 0 rfl rfl hin4 dX8_bay_47 ?_
        refine lv_bipush (v := (47 : Int32)) hx hb dX8_bay_48 (by decide) ?_
        refine lv_icmp_ne (tgt := 66) hx hb dX8_bay_50 (by decide) (fun hc => ?_) (fun hc => ?_)
        · have hf := it_f hc hf
          refine lv_aload_n hx hb dX8_bay_66 rfl (lv_at hl 0 rfl) ?_
          refine zget hx hb hts hown hK hP hin_8 0 rfl rfl 2 (by decide) mw_592 (v := .ref (h0 1)) rfl dX8_bay_67 ?_
          refine lv_iload_n hx hb dX8_bay_70 rfl (lv_at hl 2 rfl) ?_
          refine lv_zinc (lv' := [(3, .int (x3 + (1 : Int32))), (0, .ref (h0 0)), (2, .int x2), (4, .int x4)]) hx hb dX8_bay_71 hl (k := 2) rfl (v := (1 : Int32)) (by decide) (by decide) rfl (fun ls hl => ?_)
          refine lv_aload_n hx hb dX8_bay_74 rfl (lv_at hl 1 rfl) ?_
          refine zget hx hb hts hown hK hP hin_8 0 rfl rfl 4 (by decide) mw_594 (v := .ref (h0 2)) rfl dX8_bay_75 ?_
          refine lv_iload hx hb dX8_bay_78 (lv_at hl 3 rfl) ?_
          obtain ⟨hin5, hf⟩ := gd_d hf
          refine va_iald hx hb hK hP 2 0 rfl rfl hin5 dX8_bay_80 ?_
          obtain ⟨r7, hq6, hf⟩ := ob1_d hf
          refine zroS (As := [.int ((w0 2) (x4).toNatClampNeg)]) (rest := [.int x3, .ref (h0 1)]) (r := r7) ⟨hx, hb, hml, hown, hts⟩ (kX8_ground l dC dI cy ((w0 2) (x4).toNatClampNeg) r7 hq6) mw_678 mw_679 mw_9 mw_680 hdX8_ground rfl rfl ⟨Nat.le_of_ble_eq_true rfl, Nat.le_of_ble_eq_true rfl⟩ hP hK hG hS [] rfl rfl hl.1 rfl (Nat.le_of_ble_eq_true rfl) dX8_bay_81 ⟨Nat.zero_le _, Nat.zero_le _⟩ ?_
          obtain ⟨hin8, hf⟩ := gd_d hf
          obtain ⟨g9, hg9, hf⟩ := nm_d hf
          refine zast hx hb hK hP hD hS 1 (wn := (zW_8 cy h0 (ups (ups w0 0 c0_0) 1 g9))) hg9 rfl rfl hin8 rfl dX8_bay_84 (fun H locs hP hD hS => ?_)
          exact k85 s35 hs35 c0_0 g9 x2 (x3 + (1 : Int32)) x4 H locs ls hP hD hS (lv_sub hl [1, 2, 0, 3] rfl) hf
        · have hf := it_t hc hf
          refine lv_aload_n hx hb dX8_bay_53 rfl (lv_at hl 0 rfl) ?_
          refine lv_dup hx hb dX8_bay_54 rfl ?_
          refine zget hx hb hts hown hK hP hin_8 0 rfl rfl 0 (by decide) mw_590 (v := .int (c0_0 0)) rfl dX8_bay_55 ?_
          refine lv_iconst (v := (1 : Int32)) hx hb dX8_bay_58 (by decide) ?_
          refine lv_iadd hx hb dX8_bay_59 ?_
          refine zput hx hb hts hown hK hP hD hS hin_8 tyX8 tyX8_ok nmX8 0 rfl rfl 0 (by decide) mw_590 rfl (v := .int ((c0_0 0) + (1 : Int32))) rfl rfl (Nat.le_of_ble_eq_true rfl) (wn := (zW_8 cy h0 (ups (ups w0 0 (ups c0_0 0 ((c0_0 0) + (1 : Int32)))) 1 c0_1))) rfl dX8_bay_60 (fun H locs hP hD hS => ?_)
          refine lv_goto (tgt := 85) hx hb dX8_bay_63 (by decide) ?_
          exact k85 s35 hs35 (ups c0_0 0 ((c0_0 0) + (1 : Int32))) c0_1 x2 x3 x4 H locs ls hP hD hS (lv_sub hl [0, 1, 2, 3] rfl) hf
  obtain ⟨ls, hl, he⟩ := zent (m := m) (n := 5) (L := [(0, .ref (h0 0))]) ha (Nat.le_of_ble_eq_true rfl) rfl
  refine W.eq he ?_
  unfold fX8_bay at hf
  have kE : ∀ (H : Heap) (locs : List Loc), va_P (dC, dI) vwCl (zW_8 cy h0 (ups (ups w0 0 (w0 0)) 1 (w0 1))) H → va_D A (zW_8 cy h0 (ups (ups w0 0 (w0 0)) 1 (w0 1))) → va_S A s.heap H locs → W p l e ({ frames := 2, cells := 0, slots := 0, locals := 44 } : Room) s m args below meth c H locs 0 0 (MQ below (va_Qi (fun (q : Int32) (v : (Nat → Int32) × (Nat → Int32)) => (q, v) = z) (fun v => aWR (dC, dI) vwCl [(cy, .int)] A (zW_8 cy h0 (ups (ups w0 0 v.1) 1 v.2))) A) args s 0 0 A) (F0 m 0 ls []) := by
    intro H locs hP hD hS
    refine lv_aload_n hx hb dX8_bay_0 rfl (lv_at hl 0 rfl) ?_
    obtain ⟨r2, hq1, hf⟩ := ob1_d hf
    refine zroV (q := (RX8, TX8, 37)) (As := []) (rest := []) (r := r2) ⟨hx, hb, hml, hown, hts⟩ (kX8_fault l dC dI cy h0 (ups (ups w0 0 (w0 0)) 1 (w0 1)) r2 hq1) mw_675 mw_676 mw_899 mw_9 mw_677 hdX8_fault rfl rfl ⟨Nat.le_of_ble_eq_true rfl, Nat.le_of_ble_eq_true rfl⟩ hP hK hG hS 0 rfl rfl [0, 1, 2, 3, 4, 5, 6, 7, 8, 9, 10, 11, 12, 13] rfl rfl hl.1 rfl (Nat.le_of_ble_eq_true rfl) dX8_bay_1 ⟨Nat.zero_le _, Nat.zero_le _⟩ ?_
    refine lv_istore_n (lv' := [(1, .int r2), (0, .ref (h0 0))]) hx hb dX8_bay_4 rfl hl (by decide) rfl (fun ls hl => ?_)
    refine lv_aload_n hx hb dX8_bay_5 rfl (lv_at hl 1 rfl) ?_
    refine zget hx hb hts hown hK hP hin_8 0 rfl rfl 3 (by decide) mw_593 (v := .int (w0 0 3)) rfl dX8_bay_6 ?_
    refine lv_istore_n (lv' := [(2, .int (w0 0 3)), (1, .int r2), (0, .ref (h0 0))]) hx hb dX8_bay_9 rfl hl (by decide) rfl (fun ls hl => ?_)
    refine lv_aload_n hx hb dX8_bay_10 rfl (lv_at hl 2 rfl) ?_
    refine lv_iconst (v := (0 : Int32)) hx hb dX8_bay_11 (by decide) ?_
    refine zput hx hb hts hown hK hP hD hS hin_8 tyX8 tyX8_ok nmX8 0 rfl rfl 3 (by decide) mw_593 rfl (v := .int (0 : Int32)) rfl rfl (Nat.le_of_ble_eq_true rfl) (wn := (zW_8 cy h0 (ups (ups w0 0 (ups (w0 0) 3 (0 : Int32))) 1 (w0 1)))) rfl dX8_bay_12 (fun H locs hP hD hS => ?_)
    refine lv_iload_n hx hb dX8_bay_15 rfl (lv_at hl 1 rfl) ?_
    refine lv_if_lt (tgt := 25) hx hb dX8_bay_16 (by decide) (fun hc => ?_) (fun hc => ?_)
    · have hf := it_t hc hf
      refine lv_aload_n hx hb dX8_bay_25 rfl (lv_at hl 2 rfl) ?_
      refine lv_iconst (v := (1 : Int32)) hx hb dX8_bay_26 (by decide) ?_
      refine zput hx hb hts hown hK hP hD hS hin_8 tyX8 tyX8_ok nmX8 0 rfl rfl 0 (by decide) mw_590 rfl (v := .int (1 : Int32)) rfl rfl (Nat.le_of_ble_eq_true rfl) (wn := (zW_8 cy h0 (ups (ups w0 0 (ups (ups (w0 0) 3 (0 : Int32)) 0 (1 : Int32))) 1 (w0 1)))) rfl dX8_bay_27 (fun H locs hP hD hS => ?_)
      refine lv_iconst (v := (0 : Int32)) hx hb dX8_bay_30 (by decide) ?_
      refine lv_istore_n (lv' := [(3, .int (0 : Int32)), (2, .int (w0 0 3)), (1, .int r2), (0, .ref (h0 0))]) hx hb dX8_bay_31 rfl hl (by decide) rfl (fun ls hl => ?_)
      refine lv_iconst (v := (0 : Int32)) hx hb dX8_bay_32 (by decide) ?_
      refine lv_istore (lv' := [(4, .int (0 : Int32)), (3, .int (0 : Int32)), (2, .int (w0 0 3)), (1, .int r2), (0, .ref (h0 0))]) hx hb dX8_bay_33 hl (by decide) rfl (fun ls hl => ?_)
      exact k35 zFU (ups (ups (w0 0) 3 (0 : Int32)) 0 (1 : Int32)) (w0 1) (w0 0 3) (0 : Int32) (0 : Int32) H locs ls hP hD hS (lv_sub hl [4, 2, 1, 0] rfl) hf
    · have hf := it_f hc hf
      refine lv_sipush (v := (-1000 : Int32)) hx hb dX8_bay_19 (by decide) ?_
      refine lv_iload_n hx hb dX8_bay_22 rfl (lv_at hl 1 rfl) ?_
      refine lv_isub hx hb dX8_bay_23 ?_
      exact zretI hx hb hr hlocks hP hK hD hS hf rfl dX8_bay_24
  exact kE s.heap [] hP hD hS
set_option maxHeartbeats 4000000 in
set_option maxRecDepth 100000 in
theorem kX8_cell (l : Launch) (dC : Nat → ClassId) (dI : Nat → Nat → Nat) (cy : ClassId) (h0 : Nat → Nat) (w0 : Nat → Nat → Int32) (x1 : Int32) (sz : Nat) (z : Int32 × (Nat → Int32)) (hf : fX8_cell w0 x1 = some z) : Met l yX8_cell (wsM yX8_cell cX8_cell 2 (some .int)) ({ frames := 1, cells := 0, slots := 0, locals := 21 } : Room) (va_Pc [.ref (h0 0), .int x1] (pWR (dC, dI) vwCl [(cy, .int)] (zW_8 cy h0 w0) sz)) (va_Qi (fun (q : Int32) (v : (Nat → Int32)) => (q, v) = z) (fun v => aWR (dC, dI) vwCl [(cy, .int)] (va_A (zW_8 cy h0 w0) sz) (zW_8 cy h0 (ups w0 9 v))) (va_A (zW_8 cy h0 w0) sz)) 0 0 (va_A (zW_8 cy h0 w0) sz) := by
  refine Met.ofW (cc := cX8_cell) (maxL := 2) (ret := (some .int)) (by decide) rfl ?_
  intro p e s m args below meth c s₁ B hml hv
  obtain ⟨ha, hsz, hP, hK, hD0, hG⟩ := hv
  have hx := B.exec
  have hb := B.bytes
  have hr := B.returns
  have hts : ∀ w ∈ wsA, w.before args s = true := fun w h => atoms_spec (ws := wsM yX8_cell cX8_cell 2 (some .int)) B.pre w (List.mem_cons_of_mem _ h)
  have hown : s.vm.findClass RX8 = some m.cls := findClass_of_methodNamed B.named
  have hlocks := B.notSynchronized
  subst hsz
  have hD := hD0.self (sz := s.heap.size)
  generalize hAe : va_A (zW_8 cy h0 w0) s.heap.size = A at hD hG ⊢
  have hA : ∀ q : Nat, s.heap.size ≤ q → A q := fun q h => by rw [← hAe]; exact Or.inr h
  have hS : va_S A s.heap s.heap [] := va_S.rf
  have hP : va_P (dC, dI) vwCl (zW_8 cy h0 (ups w0 9 (w0 9))) s.heap := hP
  have hD : va_D A (zW_8 cy h0 (ups w0 9 (w0 9))) := hD
  obtain ⟨ls, hl, he⟩ := zent (m := m) (n := 2) (L := [(0, .ref (h0 0)), (1, .int x1)]) ha (Nat.le_of_ble_eq_true rfl) rfl
  refine W.eq he ?_
  unfold fX8_cell at hf
  have kE : ∀ (H : Heap) (locs : List Loc), va_P (dC, dI) vwCl (zW_8 cy h0 (ups w0 9 (w0 9))) H → va_D A (zW_8 cy h0 (ups w0 9 (w0 9))) → va_S A s.heap H locs → W p l e ({ frames := 1, cells := 0, slots := 0, locals := 21 } : Room) s m args below meth c H locs 0 0 (MQ below (va_Qi (fun (q : Int32) (v : (Nat → Int32)) => (q, v) = z) (fun v => aWR (dC, dI) vwCl [(cy, .int)] A (zW_8 cy h0 (ups w0 9 v))) A) args s 0 0 A) (F0 m 0 ls []) := by
    intro H locs hP hD hS
    refine lv_aload_n hx hb dX8_cell_0 rfl (lv_at hl 0 rfl) ?_
    refine lv_iload_n hx hb dX8_cell_1 rfl (lv_at hl 1 rfl) ?_
    obtain ⟨r2, hq1, hf⟩ := ob1_d hf
    refine zroV (q := (RX8, TX8, 37)) (As := [.int x1]) (rest := []) (r := r2) ⟨hx, hb, hml, hown, hts⟩ (kX8_isCell l dC dI cy h0 (ups w0 9 (w0 9)) x1 r2 hq1) mw_685 mw_686 mw_900 mw_9 mw_687 hdX8_isCell rfl rfl ⟨Nat.le_of_ble_eq_true rfl, Nat.le_of_ble_eq_true rfl⟩ hP hK hG hS 0 rfl rfl [0, 1, 2, 3, 4, 5, 6, 7, 8, 9, 10, 11, 12, 13] rfl rfl hl.1 rfl (Nat.le_of_ble_eq_true rfl) dX8_cell_2 ⟨Nat.zero_le _, Nat.zero_le _⟩ ?_
    refine lv_if_eq (tgt := 17) hx hb dX8_cell_5 (by decide) (fun hc => ?_) (fun hc => ?_)
    · have hf := it_t hc hf
      refine lv_aload_n hx hb dX8_cell_17 rfl (lv_at hl 0 rfl) ?_
      refine lv_iconst (v := (-1 : Int32)) hx hb dX8_cell_18 (by decide) ?_
      obtain ⟨r4, u5, hq3, hf⟩ := ob2_d hf
      refine zwiV (q := (RX8, TX8, 37)) (As := [.int (-1 : Int32)]) (rest := []) (r := r4) (u := u5) (wn := (zW_8 cy h0 (ups w0 9 u5))) ⟨hx, hb, hml, hown, hts⟩ (kX8_no l dC dI cy h0 (ups w0 9 (w0 9)) (-1 : Int32) H.size (r4, u5) hq3) mw_668 mw_669 mw_898 mw_9 mw_670 hdX8_no rfl rfl ⟨Nat.le_of_ble_eq_true rfl, Nat.le_of_ble_eq_true rfl⟩ hP hK hG hS 0 rfl rfl hD hA [0, 1, 2, 3, 4, 5, 6, 7, 8, 9, 10, 11, 12, 13] [] [0, 1, 2, 3, 4, 5, 6, 7, 8, 9, 10, 11, 12, 13] rfl rfl rfl rfl (by decide) rfl rfl rfl hl.1 rfl (Nat.le_of_ble_eq_true rfl) dX8_cell_19 ⟨Nat.zero_le _, Nat.zero_le _⟩ (fun H locs hP hD hS => ?_)
      exact zretI hx hb hr hlocks hP hK hD hS hf rfl dX8_cell_22
    · have hf := it_f hc hf
      refine lv_aload_n hx hb dX8_cell_8 rfl (lv_at hl 0 rfl) ?_
      refine zget hx hb hts hown hK hP hin_8 0 rfl rfl 2 (by decide) mw_592 (v := .ref (h0 1)) rfl dX8_cell_9 ?_
      refine lv_iload_n hx hb dX8_cell_12 rfl (lv_at hl 1 rfl) ?_
      obtain ⟨hin6, hf⟩ := gd_d hf
      refine va_iald hx hb hK hP 1 0 rfl rfl hin6 dX8_cell_13 ?_
      refine lv_goto (tgt := 22) hx hb dX8_cell_14 (by decide) ?_
      exact zretI hx hb hr hlocks hP hK hD hS hf rfl dX8_cell_22
  exact kE s.heap [] hP hD hS
set_option maxHeartbeats 4000000 in
set_option maxRecDepth 100000 in
theorem kX8_set (l : Launch) (dC : Nat → ClassId) (dI : Nat → Nat → Nat) (cy : ClassId) (h0 : Nat → Nat) (w0 : Nat → Nat → Int32) (x1 : Int32) (x2 : Int32) (sz : Nat) (z : Int32 × (Nat → Int32) × (Nat → Int32)) (hf : fX8_set w0 x1 x2 = some z) : Met l yX8_set (wsM yX8_set cX8_set 6 (some .int)) ({ frames := 1, cells := 0, slots := 0, locals := 21 } : Room) (va_Pc [.ref (h0 0), .int x1, .int x2] (pWR (dC, dI) vwCl [(cy, .int)] (zW_8 cy h0 w0) sz)) (va_Qi (fun (q : Int32) (v : (Nat → Int32) × (Nat → Int32)) => (q, v) = z) (fun v => aWR (dC, dI) vwCl [(cy, .int)] (va_A (zW_8 cy h0 w0) sz) (zW_8 cy h0 (ups (ups w0 3 v.1) 9 v.2))) (va_A (zW_8 cy h0 w0) sz)) 0 0 (va_A (zW_8 cy h0 w0) sz) := by
  refine Met.ofW (cc := cX8_set) (maxL := 6) (ret := (some .int)) (by decide) rfl ?_
  intro p e s m args below meth c s₁ B hml hv
  obtain ⟨ha, hsz, hP, hK, hD0, hG⟩ := hv
  have hx := B.exec
  have hb := B.bytes
  have hr := B.returns
  have hts : ∀ w ∈ wsA, w.before args s = true := fun w h => atoms_spec (ws := wsM yX8_set cX8_set 6 (some .int)) B.pre w (List.mem_cons_of_mem _ h)
  have hown : s.vm.findClass RX8 = some m.cls := findClass_of_methodNamed B.named
  have hlocks := B.notSynchronized
  subst hsz
  have hD := hD0.self (sz := s.heap.size)
  generalize hAe : va_A (zW_8 cy h0 w0) s.heap.size = A at hD hG ⊢
  have hA : ∀ q : Nat, s.heap.size ≤ q → A q := fun q h => by rw [← hAe]; exact Or.inr h
  have hS : va_S A s.heap s.heap [] := va_S.rf
  have hP : va_P (dC, dI) vwCl (zW_8 cy h0 (ups (ups w0 3 (w0 3)) 9 (w0 9))) s.heap := hP
  have hD : va_D A (zW_8 cy h0 (ups (ups w0 3 (w0 3)) 9 (w0 9))) := hD
  have k10 : ∀ (c0_3 : (Nat → Int32)) (c0_9 : (Nat → Int32)) (H : Heap) (locs : List Loc) (ls : Array Slot), va_P (dC, dI) vwCl (zW_8 cy h0 (ups (ups w0 3 c0_3) 9 c0_9)) H → va_D A (zW_8 cy h0 (ups (ups w0 3 c0_3) 9 c0_9)) → va_S A s.heap H locs → lv_has ls 6 [(0, .ref (h0 0))] → (fX8_set_10 w0) c0_3 c0_9 = some z → W p l e ({ frames := 1, cells := 0, slots := 0, locals := 21 } : Room) s m args below meth c H locs 0 0 (MQ below (va_Qi (fun (q : Int32) (v : (Nat → Int32) × (Nat → Int32)) => (q, v) = z) (fun v => aWR (dC, dI) vwCl [(cy, .int)] A (zW_8 cy h0 (ups (ups w0 3 v.1) 9 v.2))) A) args s 0 0 A) (F0 m 10 ls []) := by
    intro c0_3 c0_9 H locs ls hP hD hS hl hf
    unfold fX8_set_10 at hf
    refine lv_aload_n hx hb dX8_set_10 rfl (lv_at hl 0 rfl) ?_
    refine lv_bipush (v := (-2 : Int32)) hx hb dX8_set_11 (by decide) ?_
    obtain ⟨r2, u3, hq1, hf⟩ := ob2_d hf
    refine zwiV (q := (RX8, TX8, 37)) (As := [.int (-2 : Int32)]) (rest := []) (r := r2) (u := u3) (wn := (zW_8 cy h0 (ups (ups w0 3 c0_3) 9 u3))) ⟨hx, hb, hml, hown, hts⟩ (kX8_no l dC dI cy h0 (ups (ups w0 3 c0_3) 9 c0_9) (-2 : Int32) H.size (r2, u3) hq1) mw_668 mw_669 mw_898 mw_9 mw_670 hdX8_no rfl rfl ⟨Nat.le_of_ble_eq_true rfl, Nat.le_of_ble_eq_true rfl⟩ hP hK hG hS 0 rfl rfl hD hA [0, 1, 2, 3, 4, 5, 6, 7, 8, 9, 10, 11, 12, 13] [] [0, 1, 2, 3, 4, 5, 6, 7, 8, 9, 10, 11, 12, 13] rfl rfl rfl rfl (by decide) rfl rfl rfl hl.1 rfl (Nat.le_of_ble_eq_true rfl) dX8_set_13 ⟨Nat.zero_le _, Nat.zero_le _⟩ (fun H locs hP hD hS => ?_)
    exact zretI hx hb hr hlocks hP hK hD hS hf rfl dX8_set_16
  have k65 : ∀ (c0_3 : (Nat → Int32)) (c0_9 : (Nat → Int32)) (x1 : Int32) (x2 : Int32) (x3 : Int32) (t0 : Int32) (H : Heap) (locs : List Loc) (ls : Array Slot), va_P (dC, dI) vwCl (zW_8 cy h0 (ups (ups w0 3 c0_3) 9 c0_9)) H → va_D A (zW_8 cy h0 (ups (ups w0 3 c0_3) 9 c0_9)) → va_S A s.heap H locs → lv_has ls 6 [(0, .ref (h0 0)), (1, .int x1), (2, .int x2), (3, .int x3)] → (fX8_set_65 w0) c0_3 c0_9 x1 x2 x3 t0 = some z → W p l e ({ frames := 1, cells := 0, slots := 0, locals := 21 } : Room) s m args below meth c H locs 0 0 (MQ below (va_Qi (fun (q : Int32) (v : (Nat → Int32) × (Nat → Int32)) => (q, v) = z) (fun v => aWR (dC, dI) vwCl [(cy, .int)] A (zW_8 cy h0 (ups (ups w0 3 v.1) 9 v.2))) A) args s 0 0 A) (F0 m 65 ls [.int t0]) := by
    intro c0_3 c0_9 x1 x2 x3 t0 H locs ls hP hD hS hl hf
    unfold fX8_set_65 at hf
    refine lv_istore (lv' := [(4, .int t0), (0, .ref (h0 0)), (1, .int x1), (2, .int x2), (3, .int x3)]) hx hb dX8_set_65 hl (by decide) rfl (fun ls hl => ?_)
    refine lv_iload_n hx hb dX8_set_67 rfl (lv_at hl 3 rfl) ?_
    refine lv_iload_n hx hb dX8_set_68 rfl (lv_at hl 4 rfl) ?_
    refine lv_icmp_ge (tgt := 79) hx hb dX8_set_69 (by decide) (fun hc => ?_) (fun hc => ?_)
    · have hf := it_t hc hf
      refine lv_iload_n hx hb dX8_set_79 rfl (lv_at hl 3 rfl) ?_
      refine lv_iload hx hb dX8_set_80 (lv_at hl 0 rfl) ?_
      refine lv_icmp_le (tgt := 92) hx hb dX8_set_82 (by decide) (fun hc => ?_) (fun hc => ?_)
      · have hf := it_t hc hf
        refine lv_aload_n hx hb dX8_set_92 rfl (lv_at hl 1 rfl) ?_
        refine zget hx hb hts hown hK hP hin_8 0 rfl rfl 5 (by decide) mw_595 (v := .ref (h0 3)) rfl dX8_set_93 ?_
        refine lv_iload_n hx hb dX8_set_96 rfl (lv_at hl 2 rfl) ?_
        obtain ⟨hin4, hf⟩ := gd_d hf
        refine va_iald hx hb hK hP 3 0 rfl rfl hin4 dX8_set_97 ?_
        refine lv_istore (lv' := [(5, .int (c0_3 (x1).toNatClampNeg)), (4, .int t0), (0, .ref (h0 0)), (1, .int x1), (2, .int x2), (3, .int x3)]) hx hb dX8_set_98 hl (by decide) rfl (fun ls hl => ?_)
        refine lv_aload_n hx hb dX8_set_100 rfl (lv_at hl 2 rfl) ?_
        refine zget hx hb hts hown hK hP hin_8 0 rfl rfl 5 (by decide) mw_595 (v := .ref (h0 3)) rfl dX8_set_101 ?_
        refine lv_iload_n hx hb dX8_set_104 rfl (lv_at hl 3 rfl) ?_
        refine lv_iload_n hx hb dX8_set_105 rfl (lv_at hl 4 rfl) ?_
        obtain ⟨hin5, hf⟩ := gd_d hf
        obtain ⟨g6, hg6, hf⟩ := nm_d hf
        refine zast hx hb hK hP hD hS 3 (wn := (zW_8 cy h0 (ups (ups w0 3 g6) 9 c0_9))) hg6 rfl rfl hin5 rfl dX8_set_106 (fun H locs hP hD hS => ?_)
        refine lv_iload hx hb dX8_set_107 (lv_at hl 0 rfl) ?_
        exact zretI hx hb hr hlocks hP hK hD hS hf rfl dX8_set_109
      · have hf := it_f hc hf
        refine lv_aload_n hx hb dX8_set_85 rfl (lv_at hl 1 rfl) ?_
        refine lv_bipush (v := (-6 : Int32)) hx hb dX8_set_86 (by decide) ?_
        obtain ⟨r8, u9, hq7, hf⟩ := ob2_d hf
        refine zwiV (q := (RX8, TX8, 37)) (As := [.int (-6 : Int32)]) (rest := []) (r := r8) (u := u9) (wn := (zW_8 cy h0 (ups (ups w0 3 c0_3) 9 u9))) ⟨hx, hb, hml, hown, hts⟩ (kX8_no l dC dI cy h0 (ups (ups w0 3 c0_3) 9 c0_9) (-6 : Int32) H.size (r8, u9) hq7) mw_668 mw_669 mw_898 mw_9 mw_670 hdX8_no rfl rfl ⟨Nat.le_of_ble_eq_true rfl, Nat.le_of_ble_eq_true rfl⟩ hP hK hG hS 0 rfl rfl hD hA [0, 1, 2, 3, 4, 5, 6, 7, 8, 9, 10, 11, 12, 13] [] [0, 1, 2, 3, 4, 5, 6, 7, 8, 9, 10, 11, 12, 13] rfl rfl rfl rfl (by decide) rfl rfl rfl hl.1 rfl (Nat.le_of_ble_eq_true rfl) dX8_set_88 ⟨Nat.zero_le _, Nat.zero_le _⟩ (fun H locs hP hD hS => ?_)
        exact zretI hx hb hr hlocks hP hK hD hS hf rfl dX8_set_91
    · have hf := it_f hc hf
      refine lv_aload_n hx hb dX8_set_72 rfl (lv_at hl 1 rfl) ?_
      refine lv_bipush (v := (-4 : Int32)) hx hb dX8_set_73 (by decide) ?_
      obtain ⟨r11, u12, hq10, hf⟩ := ob2_d hf
      refine zwiV (q := (RX8, TX8, 37)) (As := [.int (-4 : Int32)]) (rest := []) (r := r11) (u := u12) (wn := (zW_8 cy h0 (ups (ups w0 3 c0_3) 9 u12))) ⟨hx, hb, hml, hown, hts⟩ (kX8_no l dC dI cy h0 (ups (ups w0 3 c0_3) 9 c0_9) (-4 : Int32) H.size (r11, u12) hq10) mw_668 mw_669 mw_898 mw_9 mw_670 hdX8_no rfl rfl ⟨Nat.le_of_ble_eq_true rfl, Nat.le_of_ble_eq_true rfl⟩ hP hK hG hS 0 rfl rfl hD hA [0, 1, 2, 3, 4, 5, 6, 7, 8, 9, 10, 11, 12, 13] [] [0, 1, 2, 3, 4, 5, 6, 7, 8, 9, 10, 11, 12, 13] rfl rfl rfl rfl (by decide) rfl rfl rfl hl.1 rfl (Nat.le_of_ble_eq_true rfl) dX8_set_75 ⟨Nat.zero_le _, Nat.zero_le _⟩ (fun H locs hP hD hS => ?_)
      exact zretI hx hb hr hlocks hP hK hD hS hf rfl dX8_set_78
  have k32 : ∀ (c0_3 : (Nat → Int32)) (c0_9 : (Nat → Int32)) (x1 : Int32) (x2 : Int32) (t0 : Int32) (H : Heap) (locs : List Loc) (ls : Array Slot), va_P (dC, dI) vwCl (zW_8 cy h0 (ups (ups w0 3 c0_3) 9 c0_9)) H → va_D A (zW_8 cy h0 (ups (ups w0 3 c0_3) 9 c0_9)) → va_S A s.heap H locs → lv_has ls 6 [(0, .ref (h0 0)), (1, .int x1), (2, .int x2)] → (fX8_set_32 w0) c0_3 c0_9 x1 x2 t0 = some z → W p l e ({ frames := 1, cells := 0, slots := 0, locals := 21 } : Room) s m args below meth c H locs 0 0 (MQ below (va_Qi (fun (q : Int32) (v : (Nat → Int32) × (Nat → Int32)) => (q, v) = z) (fun v => aWR (dC, dI) vwCl [(cy, .int)] A (zW_8 cy h0 (ups (ups w0 3 v.1) 9 v.2))) A) args s 0 0 A) (F0 m 32 ls [.int t0]) := by
    intro c0_3 c0_9 x1 x2 t0 H locs ls hP hD hS hl hf
    unfold fX8_set_32 at hf
    refine lv_istore_n (lv' := [(3, .int t0), (0, .ref (h0 0)), (1, .int x1), (2, .int x2)]) hx hb dX8_set_32 rfl hl (by decide) rfl (fun ls hl => ?_)
    refine lv_iload_n hx hb dX8_set_33 rfl (lv_at hl 2 rfl) ?_
    refine lv_iconst (v := (3 : Int32)) hx hb dX8_set_34 (by decide) ?_
    refine lv_icmp_ne (tgt := 43) hx hb dX8_set_35 (by decide) (fun hc => ?_) (fun hc => ?_)
    · have hf := it_f hc hf
      refine lv_iload_n hx hb dX8_set_43 rfl (lv_at hl 2 rfl) ?_
      refine lv_iconst (v := (4 : Int32)) hx hb dX8_set_44 (by decide) ?_
      refine lv_icmp_ne (tgt := 52) hx hb dX8_set_45 (by decide) (fun hc => ?_) (fun hc => ?_)
      · have hf := it_f hc hf
        refine lv_iload_n hx hb dX8_set_52 rfl (lv_at hl 2 rfl) ?_
        refine lv_bipush (v := (6 : Int32)) hx hb dX8_set_53 (by decide) ?_
        refine lv_icmp_ne (tgt := 63) hx hb dX8_set_55 (by decide) (fun hc => ?_) (fun hc => ?_)
        · have hf := it_f hc hf
          refine lv_bipush (v := (9 : Int32)) hx hb dX8_set_63 (by decide) ?_
          exact k65 c0_3 c0_9 x1 x2 t0 (9 : Int32) H locs ls hP hD hS (lv_sub hl [1, 2, 3, 0] rfl) hf
        · have hf := it_t hc hf
          refine lv_bipush (v := (99 : Int32)) hx hb dX8_set_58 (by decide) ?_
          refine lv_goto (tgt := 65) hx hb dX8_set_60 (by decide) ?_
          exact k65 c0_3 c0_9 x1 x2 t0 (99 : Int32) H locs ls hP hD hS (lv_sub hl [1, 2, 3, 0] rfl) hf
      · have hf := it_t hc hf
        refine lv_iconst (v := (3 : Int32)) hx hb dX8_set_48 (by decide) ?_
        refine lv_goto (tgt := 65) hx hb dX8_set_49 (by decide) ?_
        exact k65 c0_3 c0_9 x1 x2 t0 (3 : Int32) H locs ls hP hD hS (lv_sub hl [1, 2, 3, 0] rfl) hf
    · have hf := it_t hc hf
      refine lv_bipush (v := (60 : Int32)) hx hb dX8_set_38 (by decide) ?_
      refine lv_goto (tgt := 65) hx hb dX8_set_40 (by decide) ?_
      exact k65 c0_3 c0_9 x1 x2 t0 (60 : Int32) H locs ls hP hD hS (lv_sub hl [1, 2, 3, 0] rfl) hf
  have k27 : ∀ (c0_3 : (Nat → Int32)) (c0_9 : (Nat → Int32)) (x1 : Int32) (x2 : Int32) (H : Heap) (locs : List Loc) (ls : Array Slot), va_P (dC, dI) vwCl (zW_8 cy h0 (ups (ups w0 3 c0_3) 9 c0_9)) H → va_D A (zW_8 cy h0 (ups (ups w0 3 c0_3) 9 c0_9)) → va_S A s.heap H locs → lv_has ls 6 [(0, .ref (h0 0)), (1, .int x1), (2, .int x2)] → (fX8_set_27 w0) c0_3 c0_9 x1 x2 = some z → W p l e ({ frames := 1, cells := 0, slots := 0, locals := 21 } : Room) s m args below meth c H locs 0 0 (MQ below (va_Qi (fun (q : Int32) (v : (Nat → Int32) × (Nat → Int32)) => (q, v) = z) (fun v => aWR (dC, dI) vwCl [(cy, .int)] A (zW_8 cy h0 (ups (ups w0 3 v.1) 9 v.2))) A) args s 0 0 A) (F0 m 27 ls []) := by
    intro c0_3 c0_9 x1 x2 H locs ls hP hD hS hl hf
    unfold fX8_set_27 at hf
    refine lv_iconst (v := (1 : Int32)) hx hb dX8_set_27 (by decide) ?_
    refine lv_goto (tgt := 32) hx hb dX8_set_28 (by decide) ?_
    exact k32 c0_3 c0_9 x1 x2 (1 : Int32) H locs ls hP hD hS (lv_sub hl [0, 1, 2] rfl) hf
  obtain ⟨ls, hl, he⟩ := zent (m := m) (n := 6) (L := [(0, .ref (h0 0)), (1, .int x1), (2, .int x2)]) ha (Nat.le_of_ble_eq_true rfl) rfl
  refine W.eq he ?_
  unfold fX8_set at hf
  have kE : ∀ (H : Heap) (locs : List Loc), va_P (dC, dI) vwCl (zW_8 cy h0 (ups (ups w0 3 (w0 3)) 9 (w0 9))) H → va_D A (zW_8 cy h0 (ups (ups w0 3 (w0 3)) 9 (w0 9))) → va_S A s.heap H locs → W p l e ({ frames := 1, cells := 0, slots := 0, locals := 21 } : Room) s m args below meth c H locs 0 0 (MQ below (va_Qi (fun (q : Int32) (v : (Nat → Int32) × (Nat → Int32)) => (q, v) = z) (fun v => aWR (dC, dI) vwCl [(cy, .int)] A (zW_8 cy h0 (ups (ups w0 3 v.1) 9 v.2))) A) args s 0 0 A) (F0 m 0 ls []) := by
    intro H locs hP hD hS
    refine lv_iload_n hx hb dX8_set_0 rfl (lv_at hl 1 rfl) ?_
    refine lv_if_lt (tgt := 10) hx hb dX8_set_1 (by decide) (fun hc => ?_) (fun hc => ?_)
    · have hf := it_t hc hf
      exact k10 (w0 3) (w0 9) H locs ls hP hD hS (lv_sub hl [0] rfl) hf
    · have hf := it_f hc hf
      refine lv_iload_n hx hb dX8_set_4 rfl (lv_at hl 1 rfl) ?_
      refine lv_bipush (v := (6 : Int32)) hx hb dX8_set_5 (by decide) ?_
      refine lv_icmp_le (tgt := 17) hx hb dX8_set_7 (by decide) (fun hc => ?_) (fun hc => ?_)
      · have hf := it_t hc hf
        refine lv_iload_n hx hb dX8_set_17 rfl (lv_at hl 1 rfl) ?_
        refine lv_iconst (v := (1 : Int32)) hx hb dX8_set_18 (by decide) ?_
        refine lv_icmp_eq (tgt := 27) hx hb dX8_set_19 (by decide) (fun hc => ?_) (fun hc => ?_)
        · have hf := it_t hc hf
          exact k27 (w0 3) (w0 9) x1 x2 H locs ls hP hD hS (lv_sub hl [0, 1, 2] rfl) hf
        · have hf := it_f hc hf
          refine lv_iload_n hx hb dX8_set_22 rfl (lv_at hl 1 rfl) ?_
          refine lv_iconst (v := (4 : Int32)) hx hb dX8_set_23 (by decide) ?_
          refine lv_icmp_ne (tgt := 31) hx hb dX8_set_24 (by decide) (fun hc => ?_) (fun hc => ?_)
          · have hf := it_f hc hf
            refine lv_iconst (v := (0 : Int32)) hx hb dX8_set_31 (by decide) ?_
            exact k32 (w0 3) (w0 9) x1 x2 (0 : Int32) H locs ls hP hD hS (lv_sub hl [0, 1, 2] rfl) hf
          · have hf := it_t hc hf
            exact k27 (w0 3) (w0 9) x1 x2 H locs ls hP hD hS (lv_sub hl [0, 1, 2] rfl) hf
      · have hf := it_f hc hf
        exact k10 (w0 3) (w0 9) H locs ls hP hD hS (lv_sub hl [0] rfl) hf
  exact kE s.heap [] hP hD hS
set_option maxHeartbeats 4000000 in
set_option maxRecDepth 100000 in
theorem kX8_wind (l : Launch) (dC : Nat → ClassId) (dI : Nat → Nat → Nat) (cy : ClassId) (h0 : Nat → Nat) (w0 : Nat → Nat → Int32) (x1 : Int32) (x2 : Int32) (sz : Nat) (z : Int32 × (Nat → Int32) × (Nat → Int32) × (Nat → Int32) × (Nat → Int32)) (hf : fX8_wind w0 x1 x2 = some z) : Met l yX8_wind (wsM yX8_wind cX8_wind 3 (some .int)) ({ frames := 1, cells := 0, slots := 0, locals := 21 } : Room) (va_Pc [.ref (h0 0), .int x1, .int x2] (pWR (dC, dI) vwCl [(cy, .int)] (zW_8 cy h0 w0) sz)) (va_Qi (fun (q : Int32) (v : (Nat → Int32) × (Nat → Int32) × (Nat → Int32) × (Nat → Int32)) => (q, v) = z) (fun v => aWR (dC, dI) vwCl [(cy, .int)] (va_A (zW_8 cy h0 w0) sz) (zW_8 cy h0 (ups (ups (ups (ups w0 0 v.1) 4 v.2.1) 5 v.2.2.1) 9 v.2.2.2))) (va_A (zW_8 cy h0 w0) sz)) 0 0 (va_A (zW_8 cy h0 w0) sz) := by
  refine Met.ofW (cc := cX8_wind) (maxL := 3) (ret := (some .int)) (by decide) rfl ?_
  intro p e s m args below meth c s₁ B hml hv
  obtain ⟨ha, hsz, hP, hK, hD0, hG⟩ := hv
  have hx := B.exec
  have hb := B.bytes
  have hr := B.returns
  have hts : ∀ w ∈ wsA, w.before args s = true := fun w h => atoms_spec (ws := wsM yX8_wind cX8_wind 3 (some .int)) B.pre w (List.mem_cons_of_mem _ h)
  have hown : s.vm.findClass RX8 = some m.cls := findClass_of_methodNamed B.named
  have hlocks := B.notSynchronized
  subst hsz
  have hD := hD0.self (sz := s.heap.size)
  generalize hAe : va_A (zW_8 cy h0 w0) s.heap.size = A at hD hG ⊢
  have hA : ∀ q : Nat, s.heap.size ≤ q → A q := fun q h => by rw [← hAe]; exact Or.inr h
  have hS : va_S A s.heap s.heap [] := va_S.rf
  have hP : va_P (dC, dI) vwCl (zW_8 cy h0 (ups (ups (ups (ups w0 0 (w0 0)) 4 (w0 4)) 5 (w0 5)) 9 (w0 9))) s.heap := hP
  have hD : va_D A (zW_8 cy h0 (ups (ups (ups (ups w0 0 (w0 0)) 4 (w0 4)) 5 (w0 5)) 9 (w0 9))) := hD
  have k40 : ∀ (c0_0 : (Nat → Int32)) (c0_4 : (Nat → Int32)) (c0_5 : (Nat → Int32)) (c0_9 : (Nat → Int32)) (H : Heap) (locs : List Loc) (ls : Array Slot), va_P (dC, dI) vwCl (zW_8 cy h0 (ups (ups (ups (ups w0 0 c0_0) 4 c0_4) 5 c0_5) 9 c0_9)) H → va_D A (zW_8 cy h0 (ups (ups (ups (ups w0 0 c0_0) 4 c0_4) 5 c0_5) 9 c0_9)) → va_S A s.heap H locs → lv_has ls 3 [(0, .ref (h0 0))] → (fX8_wind_40 w0) c0_0 c0_4 c0_5 c0_9 = some z → W p l e ({ frames := 1, cells := 0, slots := 0, locals := 21 } : Room) s m args below meth c H locs 0 0 (MQ below (va_Qi (fun (q : Int32) (v : (Nat → Int32) × (Nat → Int32) × (Nat → Int32) × (Nat → Int32)) => (q, v) = z) (fun v => aWR (dC, dI) vwCl [(cy, .int)] A (zW_8 cy h0 (ups (ups (ups (ups w0 0 v.1) 4 v.2.1) 5 v.2.2.1) 9 v.2.2.2))) A) args s 0 0 A) (F0 m 40 ls []) := by
    intro c0_0 c0_4 c0_5 c0_9 H locs ls hP hD hS hl hf
    unfold fX8_wind_40 at hf
    refine lv_aload_n hx hb dX8_wind_40 rfl (lv_at hl 0 rfl) ?_
    refine lv_bipush (v := (-6 : Int32)) hx hb dX8_wind_41 (by decide) ?_
    obtain ⟨r4, u5, hq3, hf⟩ := ob2_d hf
    refine zwiV (q := (RX8, TX8, 37)) (As := [.int (-6 : Int32)]) (rest := []) (r := r4) (u := u5) (wn := (zW_8 cy h0 (ups (ups (ups (ups w0 0 c0_0) 4 c0_4) 5 c0_5) 9 u5))) ⟨hx, hb, hml, hown, hts⟩ (kX8_no l dC dI cy h0 (ups (ups (ups (ups w0 0 c0_0) 4 c0_4) 5 c0_5) 9 c0_9) (-6 : Int32) H.size (r4, u5) hq3) mw_668 mw_669 mw_898 mw_9 mw_670 hdX8_no rfl rfl ⟨Nat.le_of_ble_eq_true rfl, Nat.le_of_ble_eq_true rfl⟩ hP hK hG hS 0 rfl rfl hD hA [0, 1, 2, 3, 4, 5, 6, 7, 8, 9, 10, 11, 12, 13] [] [0, 1, 2, 3, 4, 5, 6, 7, 8, 9, 10, 11, 12, 13] rfl rfl rfl rfl (by decide) rfl rfl rfl hl.1 rfl (Nat.le_of_ble_eq_true rfl) dX8_wind_43 ⟨Nat.zero_le _, Nat.zero_le _⟩ (fun H locs hP hD hS => ?_)
    exact zretI hx hb hr hlocks hP hK hD hS hf rfl dX8_wind_46
  obtain ⟨ls, hl, he⟩ := zent (m := m) (n := 3) (L := [(0, .ref (h0 0)), (1, .int x1), (2, .int x2)]) ha (Nat.le_of_ble_eq_true rfl) rfl
  refine W.eq he ?_
  unfold fX8_wind at hf
  have kE : ∀ (H : Heap) (locs : List Loc), va_P (dC, dI) vwCl (zW_8 cy h0 (ups (ups (ups (ups w0 0 (w0 0)) 4 (w0 4)) 5 (w0 5)) 9 (w0 9))) H → va_D A (zW_8 cy h0 (ups (ups (ups (ups w0 0 (w0 0)) 4 (w0 4)) 5 (w0 5)) 9 (w0 9))) → va_S A s.heap H locs → W p l e ({ frames := 1, cells := 0, slots := 0, locals := 21 } : Room) s m args below meth c H locs 0 0 (MQ below (va_Qi (fun (q : Int32) (v : (Nat → Int32) × (Nat → Int32) × (Nat → Int32) × (Nat → Int32)) => (q, v) = z) (fun v => aWR (dC, dI) vwCl [(cy, .int)] A (zW_8 cy h0 (ups (ups (ups (ups w0 0 v.1) 4 v.2.1) 5 v.2.2.1) 9 v.2.2.2))) A) args s 0 0 A) (F0 m 0 ls []) := by
    intro H locs hP hD hS
    refine lv_iload_n hx hb dX8_wind_0 rfl (lv_at hl 2 rfl) ?_
    obtain ⟨r2, hq1, hf⟩ := ob1_d hf
    refine zroS (As := [.int x2]) (rest := []) (r := r2) ⟨hx, hb, hml, hown, hts⟩ (kX8_isDirection l dC dI cy x2 r2 hq1) mw_696 mw_697 mw_9 mw_698 hdX8_isDirection rfl rfl ⟨Nat.le_of_ble_eq_true rfl, Nat.le_of_ble_eq_true rfl⟩ hP hK hG hS [] rfl rfl hl.1 rfl (Nat.le_of_ble_eq_true rfl) dX8_wind_1 ⟨Nat.zero_le _, Nat.zero_le _⟩ ?_
    refine lv_if_ne (tgt := 13) hx hb dX8_wind_4 (by decide) (fun hc => ?_) (fun hc => ?_)
    · have hf := it_f hc hf
      refine lv_iload_n hx hb dX8_wind_13 rfl (lv_at hl 1 rfl) ?_
      refine lv_if_ge (tgt := 24) hx hb dX8_wind_14 (by decide) (fun hc => ?_) (fun hc => ?_)
      · have hf := it_t hc hf
        refine lv_iload_n hx hb dX8_wind_24 rfl (lv_at hl 1 rfl) ?_
        refine lv_sipush (v := (999 : Int32)) hx hb dX8_wind_25 (by decide) ?_
        refine lv_icmp_gt (tgt := 40) hx hb dX8_wind_28 (by decide) (fun hc => ?_) (fun hc => ?_)
        · have hf := it_t hc hf
          exact k40 (w0 0) (w0 4) (w0 5) (w0 9) H locs ls hP hD hS (lv_sub hl [0] rfl) hf
        · have hf := it_f hc hf
          refine lv_aload_n hx hb dX8_wind_31 rfl (lv_at hl 0 rfl) ?_
          refine zget hx hb hts hown hK hP hin_8 0 rfl rfl 6 (by decide) mw_596 (v := .int (w0 0 6)) rfl dX8_wind_32 ?_
          refine lv_bipush (v := (8 : Int32)) hx hb dX8_wind_35 (by decide) ?_
          refine lv_icmp_ne (tgt := 47) hx hb dX8_wind_37 (by decide) (fun hc => ?_) (fun hc => ?_)
          · have hf := it_f hc hf
            refine lv_aload_n hx hb dX8_wind_47 rfl (lv_at hl 0 rfl) ?_
            refine zget hx hb hts hown hK hP hin_8 0 rfl rfl 7 (by decide) mw_597 (v := .ref (h0 4)) rfl dX8_wind_48 ?_
            refine lv_aload_n hx hb dX8_wind_51 rfl (lv_at hl 0 rfl) ?_
            refine zget hx hb hts hown hK hP hin_8 0 rfl rfl 6 (by decide) mw_596 (v := .int (w0 0 6)) rfl dX8_wind_52 ?_
            refine lv_iload_n hx hb dX8_wind_55 rfl (lv_at hl 1 rfl) ?_
            obtain ⟨hin6, hf⟩ := gd_d hf
            obtain ⟨g7, hg7, hf⟩ := nm_d hf
            refine zast hx hb hK hP hD hS 4 (wn := (zW_8 cy h0 (ups (ups (ups (ups w0 0 (w0 0)) 4 g7) 5 (w0 5)) 9 (w0 9)))) hg7 rfl rfl hin6 rfl dX8_wind_56 (fun H locs hP hD hS => ?_)
            refine lv_aload_n hx hb dX8_wind_57 rfl (lv_at hl 0 rfl) ?_
            refine zget hx hb hts hown hK hP hin_8 0 rfl rfl 8 (by decide) mw_598 (v := .ref (h0 5)) rfl dX8_wind_58 ?_
            refine lv_aload_n hx hb dX8_wind_61 rfl (lv_at hl 0 rfl) ?_
            refine zget hx hb hts hown hK hP hin_8 0 rfl rfl 6 (by decide) mw_596 (v := .int (w0 0 6)) rfl dX8_wind_62 ?_
            refine lv_iload_n hx hb dX8_wind_65 rfl (lv_at hl 2 rfl) ?_
            obtain ⟨hin8, hf⟩ := gd_d hf
            obtain ⟨g9, hg9, hf⟩ := nm_d hf
            refine zast hx hb hK hP hD hS 5 (wn := (zW_8 cy h0 (ups (ups (ups (ups w0 0 (w0 0)) 4 g7) 5 g9) 9 (w0 9)))) hg9 rfl rfl hin8 rfl dX8_wind_66 (fun H locs hP hD hS => ?_)
            refine lv_aload_n hx hb dX8_wind_67 rfl (lv_at hl 0 rfl) ?_
            refine lv_dup hx hb dX8_wind_68 rfl ?_
            refine zget hx hb hts hown hK hP hin_8 0 rfl rfl 6 (by decide) mw_596 (v := .int (w0 0 6)) rfl dX8_wind_69 ?_
            refine lv_iconst (v := (1 : Int32)) hx hb dX8_wind_72 (by decide) ?_
            refine lv_iadd hx hb dX8_wind_73 ?_
            refine lv_dup_x1 hx hb dX8_wind_74 rfl rfl ?_
            refine zput hx hb hts hown hK hP hD hS hin_8 tyX8 tyX8_ok nmX8 0 rfl rfl 6 (by decide) mw_596 rfl (v := .int ((w0 0 6) + (1 : Int32))) rfl rfl (Nat.le_of_ble_eq_true rfl) (wn := (zW_8 cy h0 (ups (ups (ups (ups w0 0 (ups (w0 0) 6 ((w0 0 6) + (1 : Int32)))) 4 g7) 5 g9) 9 (w0 9)))) rfl dX8_wind_75 (fun H locs hP hD hS => ?_)
            exact zretI hx hb hr hlocks hP hK hD hS hf rfl dX8_wind_78
          · have hf := it_t hc hf
            exact k40 (w0 0) (w0 4) (w0 5) (w0 9) H locs ls hP hD hS (lv_sub hl [0] rfl) hf
      · have hf := it_f hc hf
        refine lv_aload_n hx hb dX8_wind_17 rfl (lv_at hl 0 rfl) ?_
        refine lv_bipush (v := (-4 : Int32)) hx hb dX8_wind_18 (by decide) ?_
        obtain ⟨r11, u12, hq10, hf⟩ := ob2_d hf
        refine zwiV (q := (RX8, TX8, 37)) (As := [.int (-4 : Int32)]) (rest := []) (r := r11) (u := u12) (wn := (zW_8 cy h0 (ups (ups (ups (ups w0 0 (w0 0)) 4 (w0 4)) 5 (w0 5)) 9 u12))) ⟨hx, hb, hml, hown, hts⟩ (kX8_no l dC dI cy h0 (ups (ups (ups (ups w0 0 (w0 0)) 4 (w0 4)) 5 (w0 5)) 9 (w0 9)) (-4 : Int32) H.size (r11, u12) hq10) mw_668 mw_669 mw_898 mw_9 mw_670 hdX8_no rfl rfl ⟨Nat.le_of_ble_eq_true rfl, Nat.le_of_ble_eq_true rfl⟩ hP hK hG hS 0 rfl rfl hD hA [0, 1, 2, 3, 4, 5, 6, 7, 8, 9, 10, 11, 12, 13] [] [0, 1, 2, 3, 4, 5, 6, 7, 8, 9, 10, 11, 12, 13] rfl rfl rfl rfl (by decide) rfl rfl rfl hl.1 rfl (Nat.le_of_ble_eq_true rfl) dX8_wind_20 ⟨Nat.zero_le _, Nat.zero_le _⟩ (fun H locs hP hD hS => ?_)
        exact zretI hx hb hr hlocks hP hK hD hS hf rfl dX8_wind_23
    · have hf := it_t hc hf
      refine lv_aload_n hx hb dX8_wind_7 rfl (lv_at hl 0 rfl) ?_
      refine lv_iconst (v := (-1 : Int32)) hx hb dX8_wind_8 (by decide) ?_
      obtain ⟨r14, u15, hq13, hf⟩ := ob2_d hf
      refine zwiV (q := (RX8, TX8, 37)) (As := [.int (-1 : Int32)]) (rest := []) (r := r14) (u := u15) (wn := (zW_8 cy h0 (ups (ups (ups (ups w0 0 (w0 0)) 4 (w0 4)) 5 (w0 5)) 9 u15))) ⟨hx, hb, hml, hown, hts⟩ (kX8_no l dC dI cy h0 (ups (ups (ups (ups w0 0 (w0 0)) 4 (w0 4)) 5 (w0 5)) 9 (w0 9)) (-1 : Int32) H.size (r14, u15) hq13) mw_668 mw_669 mw_898 mw_9 mw_670 hdX8_no rfl rfl ⟨Nat.le_of_ble_eq_true rfl, Nat.le_of_ble_eq_true rfl⟩ hP hK hG hS 0 rfl rfl hD hA [0, 1, 2, 3, 4, 5, 6, 7, 8, 9, 10, 11, 12, 13] [] [0, 1, 2, 3, 4, 5, 6, 7, 8, 9, 10, 11, 12, 13] rfl rfl rfl rfl (by decide) rfl rfl rfl hl.1 rfl (Nat.le_of_ble_eq_true rfl) dX8_wind_9 ⟨Nat.zero_le _, Nat.zero_le _⟩ (fun H locs hP hD hS => ?_)
      exact zretI hx hb hr hlocks hP hK hD hS hf rfl dX8_wind_12
  exact kE s.heap [] hP hD hS
set_option maxHeartbeats 4000000 in
set_option maxRecDepth 100000 in
theorem kX8_tide (l : Launch) (dC : Nat → ClassId) (dI : Nat → Nat → Nat) (cy : ClassId) (h0 : Nat → Nat) (w0 : Nat → Nat → Int32) (x1 : Int32) (x2 : Int32) (sz : Nat) (z : Int32 × (Nat → Int32) × (Nat → Int32) × (Nat → Int32) × (Nat → Int32)) (hf : fX8_tide w0 x1 x2 = some z) : Met l yX8_tide (wsM yX8_tide cX8_tide 3 (some .int)) ({ frames := 1, cells := 0, slots := 0, locals := 21 } : Room) (va_Pc [.ref (h0 0), .int x1, .int x2] (pWR (dC, dI) vwCl [(cy, .int)] (zW_8 cy h0 w0) sz)) (va_Qi (fun (q : Int32) (v : (Nat → Int32) × (Nat → Int32) × (Nat → Int32) × (Nat → Int32)) => (q, v) = z) (fun v => aWR (dC, dI) vwCl [(cy, .int)] (va_A (zW_8 cy h0 w0) sz) (zW_8 cy h0 (ups (ups (ups (ups w0 0 v.1) 6 v.2.1) 7 v.2.2.1) 9 v.2.2.2))) (va_A (zW_8 cy h0 w0) sz)) 0 0 (va_A (zW_8 cy h0 w0) sz) := by
  refine Met.ofW (cc := cX8_tide) (maxL := 3) (ret := (some .int)) (by decide) rfl ?_
  intro p e s m args below meth c s₁ B hml hv
  obtain ⟨ha, hsz, hP, hK, hD0, hG⟩ := hv
  have hx := B.exec
  have hb := B.bytes
  have hr := B.returns
  have hts : ∀ w ∈ wsA, w.before args s = true := fun w h => atoms_spec (ws := wsM yX8_tide cX8_tide 3 (some .int)) B.pre w (List.mem_cons_of_mem _ h)
  have hown : s.vm.findClass RX8 = some m.cls := findClass_of_methodNamed B.named
  have hlocks := B.notSynchronized
  subst hsz
  have hD := hD0.self (sz := s.heap.size)
  generalize hAe : va_A (zW_8 cy h0 w0) s.heap.size = A at hD hG ⊢
  have hA : ∀ q : Nat, s.heap.size ≤ q → A q := fun q h => by rw [← hAe]; exact Or.inr h
  have hS : va_S A s.heap s.heap [] := va_S.rf
  have hP : va_P (dC, dI) vwCl (zW_8 cy h0 (ups (ups (ups (ups w0 0 (w0 0)) 6 (w0 6)) 7 (w0 7)) 9 (w0 9))) s.heap := hP
  have hD : va_D A (zW_8 cy h0 (ups (ups (ups (ups w0 0 (w0 0)) 6 (w0 6)) 7 (w0 7)) 9 (w0 9))) := hD
  have k8 : ∀ (c0_0 : (Nat → Int32)) (c0_6 : (Nat → Int32)) (c0_7 : (Nat → Int32)) (c0_9 : (Nat → Int32)) (H : Heap) (locs : List Loc) (ls : Array Slot), va_P (dC, dI) vwCl (zW_8 cy h0 (ups (ups (ups (ups w0 0 c0_0) 6 c0_6) 7 c0_7) 9 c0_9)) H → va_D A (zW_8 cy h0 (ups (ups (ups (ups w0 0 c0_0) 6 c0_6) 7 c0_7) 9 c0_9)) → va_S A s.heap H locs → lv_has ls 3 [(0, .ref (h0 0))] → (fX8_tide_8 w0) c0_0 c0_6 c0_7 c0_9 = some z → W p l e ({ frames := 1, cells := 0, slots := 0, locals := 21 } : Room) s m args below meth c H locs 0 0 (MQ below (va_Qi (fun (q : Int32) (v : (Nat → Int32) × (Nat → Int32) × (Nat → Int32) × (Nat → Int32)) => (q, v) = z) (fun v => aWR (dC, dI) vwCl [(cy, .int)] A (zW_8 cy h0 (ups (ups (ups (ups w0 0 v.1) 6 v.2.1) 7 v.2.2.1) 9 v.2.2.2))) A) args s 0 0 A) (F0 m 8 ls []) := by
    intro c0_0 c0_6 c0_7 c0_9 H locs ls hP hD hS hl hf
    unfold fX8_tide_8 at hf
    refine lv_aload_n hx hb dX8_tide_8 rfl (lv_at hl 0 rfl) ?_
    refine lv_bipush (v := (-4 : Int32)) hx hb dX8_tide_9 (by decide) ?_
    obtain ⟨r2, u3, hq1, hf⟩ := ob2_d hf
    refine zwiV (q := (RX8, TX8, 37)) (As := [.int (-4 : Int32)]) (rest := []) (r := r2) (u := u3) (wn := (zW_8 cy h0 (ups (ups (ups (ups w0 0 c0_0) 6 c0_6) 7 c0_7) 9 u3))) ⟨hx, hb, hml, hown, hts⟩ (kX8_no l dC dI cy h0 (ups (ups (ups (ups w0 0 c0_0) 6 c0_6) 7 c0_7) 9 c0_9) (-4 : Int32) H.size (r2, u3) hq1) mw_668 mw_669 mw_898 mw_9 mw_670 hdX8_no rfl rfl ⟨Nat.le_of_ble_eq_true rfl, Nat.le_of_ble_eq_true rfl⟩ hP hK hG hS 0 rfl rfl hD hA [0, 1, 2, 3, 4, 5, 6, 7, 8, 9, 10, 11, 12, 13] [] [0, 1, 2, 3, 4, 5, 6, 7, 8, 9, 10, 11, 12, 13] rfl rfl rfl rfl (by decide) rfl rfl rfl hl.1 rfl (Nat.le_of_ble_eq_true rfl) dX8_tide_11 ⟨Nat.zero_le _, Nat.zero_le _⟩ (fun H locs hP hD hS => ?_)
    exact zretI hx hb hr hlocks hP hK hD hS hf rfl dX8_tide_14
  have k36 : ∀ (c0_0 : (Nat → Int32)) (c0_6 : (Nat → Int32)) (c0_7 : (Nat → Int32)) (c0_9 : (Nat → Int32)) (H : Heap) (locs : List Loc) (ls : Array Slot), va_P (dC, dI) vwCl (zW_8 cy h0 (ups (ups (ups (ups w0 0 c0_0) 6 c0_6) 7 c0_7) 9 c0_9)) H → va_D A (zW_8 cy h0 (ups (ups (ups (ups w0 0 c0_0) 6 c0_6) 7 c0_7) 9 c0_9)) → va_S A s.heap H locs → lv_has ls 3 [(0, .ref (h0 0))] → (fX8_tide_36 w0) c0_0 c0_6 c0_7 c0_9 = some z → W p l e ({ frames := 1, cells := 0, slots := 0, locals := 21 } : Room) s m args below meth c H locs 0 0 (MQ below (va_Qi (fun (q : Int32) (v : (Nat → Int32) × (Nat → Int32) × (Nat → Int32) × (Nat → Int32)) => (q, v) = z) (fun v => aWR (dC, dI) vwCl [(cy, .int)] A (zW_8 cy h0 (ups (ups (ups (ups w0 0 v.1) 6 v.2.1) 7 v.2.2.1) 9 v.2.2.2))) A) args s 0 0 A) (F0 m 36 ls []) := by
    intro c0_0 c0_6 c0_7 c0_9 H locs ls hP hD hS hl hf
    unfold fX8_tide_36 at hf
    refine lv_aload_n hx hb dX8_tide_36 rfl (lv_at hl 0 rfl) ?_
    refine lv_bipush (v := (-6 : Int32)) hx hb dX8_tide_37 (by decide) ?_
    obtain ⟨r5, u6, hq4, hf⟩ := ob2_d hf
    refine zwiV (q := (RX8, TX8, 37)) (As := [.int (-6 : Int32)]) (rest := []) (r := r5) (u := u6) (wn := (zW_8 cy h0 (ups (ups (ups (ups w0 0 c0_0) 6 c0_6) 7 c0_7) 9 u6))) ⟨hx, hb, hml, hown, hts⟩ (kX8_no l dC dI cy h0 (ups (ups (ups (ups w0 0 c0_0) 6 c0_6) 7 c0_7) 9 c0_9) (-6 : Int32) H.size (r5, u6) hq4) mw_668 mw_669 mw_898 mw_9 mw_670 hdX8_no rfl rfl ⟨Nat.le_of_ble_eq_true rfl, Nat.le_of_ble_eq_true rfl⟩ hP hK hG hS 0 rfl rfl hD hA [0, 1, 2, 3, 4, 5, 6, 7, 8, 9, 10, 11, 12, 13] [] [0, 1, 2, 3, 4, 5, 6, 7, 8, 9, 10, 11, 12, 13] rfl rfl rfl rfl (by decide) rfl rfl rfl hl.1 rfl (Nat.le_of_ble_eq_true rfl) dX8_tide_39 ⟨Nat.zero_le _, Nat.zero_le _⟩ (fun H locs hP hD hS => ?_)
    exact zretI hx hb hr hlocks hP hK hD hS hf rfl dX8_tide_42
  obtain ⟨ls, hl, he⟩ := zent (m := m) (n := 3) (L := [(0, .ref (h0 0)), (1, .int x1), (2, .int x2)]) ha (Nat.le_of_ble_eq_true rfl) rfl
  refine W.eq he ?_
  unfold fX8_tide at hf
  have kE : ∀ (H : Heap) (locs : List Loc), va_P (dC, dI) vwCl (zW_8 cy h0 (ups (ups (ups (ups w0 0 (w0 0)) 6 (w0 6)) 7 (w0 7)) 9 (w0 9))) H → va_D A (zW_8 cy h0 (ups (ups (ups (ups w0 0 (w0 0)) 6 (w0 6)) 7 (w0 7)) 9 (w0 9))) → va_S A s.heap H locs → W p l e ({ frames := 1, cells := 0, slots := 0, locals := 21 } : Room) s m args below meth c H locs 0 0 (MQ below (va_Qi (fun (q : Int32) (v : (Nat → Int32) × (Nat → Int32) × (Nat → Int32) × (Nat → Int32)) => (q, v) = z) (fun v => aWR (dC, dI) vwCl [(cy, .int)] A (zW_8 cy h0 (ups (ups (ups (ups w0 0 v.1) 6 v.2.1) 7 v.2.2.1) 9 v.2.2.2))) A) args s 0 0 A) (F0 m 0 ls []) := by
    intro H locs hP hD hS
    refine lv_iload_n hx hb dX8_tide_0 rfl (lv_at hl 1 rfl) ?_
    refine lv_if_lt (tgt := 8) hx hb dX8_tide_1 (by decide) (fun hc => ?_) (fun hc => ?_)
    · have hf := it_t hc hf
      exact k8 (w0 0) (w0 6) (w0 7) (w0 9) H locs ls hP hD hS (lv_sub hl [0] rfl) hf
    · have hf := it_f hc hf
      refine lv_iload_n hx hb dX8_tide_4 rfl (lv_at hl 2 rfl) ?_
      refine lv_if_ge (tgt := 15) hx hb dX8_tide_5 (by decide) (fun hc => ?_) (fun hc => ?_)
      · have hf := it_t hc hf
        refine lv_iload_n hx hb dX8_tide_15 rfl (lv_at hl 1 rfl) ?_
        refine lv_sipush (v := (999 : Int32)) hx hb dX8_tide_16 (by decide) ?_
        refine lv_icmp_gt (tgt := 36) hx hb dX8_tide_19 (by decide) (fun hc => ?_) (fun hc => ?_)
        · have hf := it_t hc hf
          exact k36 (w0 0) (w0 6) (w0 7) (w0 9) H locs ls hP hD hS (lv_sub hl [0] rfl) hf
        · have hf := it_f hc hf
          refine lv_iload_n hx hb dX8_tide_22 rfl (lv_at hl 2 rfl) ?_
          refine lv_iconst (v := (5 : Int32)) hx hb dX8_tide_23 (by decide) ?_
          refine lv_icmp_gt (tgt := 36) hx hb dX8_tide_24 (by decide) (fun hc => ?_) (fun hc => ?_)
          · have hf := it_t hc hf
            exact k36 (w0 0) (w0 6) (w0 7) (w0 9) H locs ls hP hD hS (lv_sub hl [0] rfl) hf
          · have hf := it_f hc hf
            refine lv_aload_n hx hb dX8_tide_27 rfl (lv_at hl 0 rfl) ?_
            refine zget hx hb hts hown hK hP hin_8 0 rfl rfl 9 (by decide) mw_599 (v := .int (w0 0 9)) rfl dX8_tide_28 ?_
            refine lv_bipush (v := (8 : Int32)) hx hb dX8_tide_31 (by decide) ?_
            refine lv_icmp_ne (tgt := 43) hx hb dX8_tide_33 (by decide) (fun hc => ?_) (fun hc => ?_)
            · have hf := it_f hc hf
              refine lv_aload_n hx hb dX8_tide_43 rfl (lv_at hl 0 rfl) ?_
              refine zget hx hb hts hown hK hP hin_8 0 rfl rfl 10 (by decide) mw_600 (v := .ref (h0 6)) rfl dX8_tide_44 ?_
              refine lv_aload_n hx hb dX8_tide_47 rfl (lv_at hl 0 rfl) ?_
              refine zget hx hb hts hown hK hP hin_8 0 rfl rfl 9 (by decide) mw_599 (v := .int (w0 0 9)) rfl dX8_tide_48 ?_
              refine lv_iload_n hx hb dX8_tide_51 rfl (lv_at hl 1 rfl) ?_
              obtain ⟨hin7, hf⟩ := gd_d hf
              obtain ⟨g8, hg8, hf⟩ := nm_d hf
              refine zast hx hb hK hP hD hS 6 (wn := (zW_8 cy h0 (ups (ups (ups (ups w0 0 (w0 0)) 6 g8) 7 (w0 7)) 9 (w0 9)))) hg8 rfl rfl hin7 rfl dX8_tide_52 (fun H locs hP hD hS => ?_)
              refine lv_aload_n hx hb dX8_tide_53 rfl (lv_at hl 0 rfl) ?_
              refine zget hx hb hts hown hK hP hin_8 0 rfl rfl 11 (by decide) mw_601 (v := .ref (h0 7)) rfl dX8_tide_54 ?_
              refine lv_aload_n hx hb dX8_tide_57 rfl (lv_at hl 0 rfl) ?_
              refine zget hx hb hts hown hK hP hin_8 0 rfl rfl 9 (by decide) mw_599 (v := .int (w0 0 9)) rfl dX8_tide_58 ?_
              refine lv_iload_n hx hb dX8_tide_61 rfl (lv_at hl 2 rfl) ?_
              obtain ⟨hin9, hf⟩ := gd_d hf
              obtain ⟨g10, hg10, hf⟩ := nm_d hf
              refine zast hx hb hK hP hD hS 7 (wn := (zW_8 cy h0 (ups (ups (ups (ups w0 0 (w0 0)) 6 g8) 7 g10) 9 (w0 9)))) hg10 rfl rfl hin9 rfl dX8_tide_62 (fun H locs hP hD hS => ?_)
              refine lv_aload_n hx hb dX8_tide_63 rfl (lv_at hl 0 rfl) ?_
              refine lv_dup hx hb dX8_tide_64 rfl ?_
              refine zget hx hb hts hown hK hP hin_8 0 rfl rfl 9 (by decide) mw_599 (v := .int (w0 0 9)) rfl dX8_tide_65 ?_
              refine lv_iconst (v := (1 : Int32)) hx hb dX8_tide_68 (by decide) ?_
              refine lv_iadd hx hb dX8_tide_69 ?_
              refine lv_dup_x1 hx hb dX8_tide_70 rfl rfl ?_
              refine zput hx hb hts hown hK hP hD hS hin_8 tyX8 tyX8_ok nmX8 0 rfl rfl 9 (by decide) mw_599 rfl (v := .int ((w0 0 9) + (1 : Int32))) rfl rfl (Nat.le_of_ble_eq_true rfl) (wn := (zW_8 cy h0 (ups (ups (ups (ups w0 0 (ups (w0 0) 9 ((w0 0 9) + (1 : Int32)))) 6 g8) 7 g10) 9 (w0 9)))) rfl dX8_tide_71 (fun H locs hP hD hS => ?_)
              exact zretI hx hb hr hlocks hP hK hD hS hf rfl dX8_tide_74
            · have hf := it_t hc hf
              exact k36 (w0 0) (w0 6) (w0 7) (w0 9) H locs ls hP hD hS (lv_sub hl [0] rfl) hf
      · have hf := it_f hc hf
        exact k8 (w0 0) (w0 6) (w0 7) (w0 9) H locs ls hP hD hS (lv_sub hl [0] rfl) hf
  exact kE s.heap [] hP hD hS
set_option maxHeartbeats 4000000 in
set_option maxRecDepth 100000 in
theorem kX8_wind_ (l : Launch) (dC : Nat → ClassId) (dI : Nat → Nat → Nat) (cy : ClassId) (h0 : Nat → Nat) (w0 : Nat → Nat → Int32) (x1 : Int32) (z : Int32) (hf : fX8_wind_ w0 x1 = some z) : Met l yX8_wind_ (wsM yX8_wind_ cX8_wind_ 5 (some .int)) ({ frames := 0, cells := 0, slots := 0, locals := 0 } : Room) (va_Pc [.ref (h0 0), .int x1] (pRO (dC, dI) vwCl [(cy, .int)] (zW_8 cy h0 w0))) (vp_Si (fun q => q = z)) 0 0 (fun _ => False) := by
  refine Met.ofW (cc := cX8_wind_) (maxL := 5) (ret := (some .int)) (by decide) rfl ?_
  intro p e s m args below meth c s₁ B hml hv
  obtain ⟨ha, hP, hK, hG⟩ := hv
  have hx := B.exec
  have hb := B.bytes
  have hr := B.returns
  have hts : ∀ w ∈ wsA, w.before args s = true := fun w h => atoms_spec (ws := wsM yX8_wind_ cX8_wind_ 5 (some .int)) B.pre w (List.mem_cons_of_mem _ h)
  have hown : s.vm.findClass RX8 = some m.cls := findClass_of_methodNamed B.named
  have hlocks := B.notSynchronized
  have hS : va_S (fun _ => False) s.heap s.heap [] := va_S.rf
  have k74 : ∀ (s27 : Int32 → Int32 → Int32 → Int32 → Option (Int32)) (hs27 : ∀ (x1 : Int32) (x2 : Int32) (x3 : Int32) (x4 : Int32) (ls : Array Slot), lv_has ls 5 [(0, .ref (h0 0)), (1, .int x1), (2, .int x2), (3, .int x3), (4, .int x4)] → s27 x1 x2 x3 x4 = some z → W p l e ({ frames := 0, cells := 0, slots := 0, locals := 0 } : Room) s m args below meth c s.heap [] 0 0 (MQ below (vp_Si (fun q => q = z)) args s 0 0 (fun _ => False)) (F0 m 27 ls [])), ∀ (x1 : Int32) (x2 : Int32) (x3 : Int32) (x4 : Int32) (ls : Array Slot), lv_has ls 5 [(0, .ref (h0 0)), (1, .int x1), (2, .int x2), (3, .int x3), (4, .int x4)] → (fX8_wind__74 w0 s27) x1 x2 x3 x4 = some z → W p l e ({ frames := 0, cells := 0, slots := 0, locals := 0 } : Room) s m args below meth c s.heap [] 0 0 (MQ below (vp_Si (fun q => q = z)) args s 0 0 (fun _ => False)) (F0 m 74 ls []) := by
    intro s27 hs27
    intro x1 x2 x3 x4 ls hl hf
    unfold fX8_wind__74 at hf
    refine lv_zinc (lv' := [(4, .int (x4 + (1 : Int32))), (0, .ref (h0 0)), (1, .int x1), (2, .int x2), (3, .int x3)]) hx hb dX8_wind__74 hl (k := 4) rfl (v := (1 : Int32)) (by decide) (by decide) rfl (fun ls hl => ?_)
    refine lv_goto (tgt := 27) hx hb dX8_wind__77 (by decide) ?_
    exact hs27 x1 x2 x3 (x4 + (1 : Int32)) ls (lv_sub hl [1, 2, 3, 4, 0] rfl) hf
  have k27 : ∀ n : Nat, ∀ (x1 : Int32) (x2 : Int32) (x3 : Int32) (x4 : Int32) (ls : Array Slot), lv_has ls 5 [(0, .ref (h0 0)), (1, .int x1), (2, .int x2), (3, .int x3), (4, .int x4)] → (zl4 (fX8_wind__27 w0) n) x1 x2 x3 x4 = some z → W p l e ({ frames := 0, cells := 0, slots := 0, locals := 0 } : Room) s m args below meth c s.heap [] 0 0 (MQ below (vp_Si (fun q => q = z)) args s 0 0 (fun _ => False)) (F0 m 27 ls []) := by
    intro n
    induction n with
    | zero =>
      intro x1 x2 x3 x4 ls hl hf
      exact z_no hf
    | succ n hs27 =>
      intro x1 x2 x3 x4 ls hl hf
      have hf : fX8_wind__27 w0 (zl4 (fX8_wind__27 w0) n) x1 x2 x3 x4 = some z := hf
      generalize zl4 (fX8_wind__27 w0) n = s27 at hs27 hf
      unfold fX8_wind__27 at hf
      refine lv_iload hx hb dX8_wind__27 (lv_at hl 4 rfl) ?_
      refine lv_aload_n hx hb dX8_wind__29 rfl (lv_at hl 0 rfl) ?_
      refine zget hx hb hts hown hK hP hin_8 0 rfl rfl 6 (by decide) mw_596 (v := .int (w0 0 6)) rfl dX8_wind__30 ?_
      refine lv_icmp_ge (tgt := 80) hx hb dX8_wind__33 (by decide) (fun hc => ?_) (fun hc => ?_)
      · have hf := it_t hc hf
        refine lv_iload_n hx hb dX8_wind__80 rfl (lv_at hl 3 rfl) ?_
        refine lv_aload_n hx hb dX8_wind__81 rfl (lv_at hl 0 rfl) ?_
        refine zget hx hb hts hown hK hP hin_8 0 rfl rfl 25 (by decide) mw_615 (v := .int (w0 0 25)) rfl dX8_wind__82 ?_
        refine lv_iadd hx hb dX8_wind__85 ?_
        refine lv_bipush (v := (8 : Int32)) hx hb dX8_wind__86 (by decide) ?_
        refine lv_zrem hx hb dX8_wind__88 (by decide) ?_
        exact zretR hx hb hr hlocks hf dX8_wind__89
      · have hf := it_f hc hf
        refine lv_aload_n hx hb dX8_wind__36 rfl (lv_at hl 0 rfl) ?_
        refine zget hx hb hts hown hK hP hin_8 0 rfl rfl 7 (by decide) mw_597 (v := .ref (h0 4)) rfl dX8_wind__37 ?_
        refine lv_iload hx hb dX8_wind__40 (lv_at hl 4 rfl) ?_
        obtain ⟨hin1, hf⟩ := gd_d hf
        refine va_iald hx hb hK hP 4 0 rfl rfl hin1 dX8_wind__42 ?_
        refine lv_iload_n hx hb dX8_wind__43 rfl (lv_at hl 1 rfl) ?_
        refine lv_icmp_gt (tgt := 74) hx hb dX8_wind__44 (by decide) (fun hc => ?_) (fun hc => ?_)
        · have hf := it_t hc hf
          exact k74 s27 hs27 x1 x2 x3 x4 ls (lv_sub hl [0, 1, 2, 3, 4] rfl) hf
        · have hf := it_f hc hf
          refine lv_aload_n hx hb dX8_wind__47 rfl (lv_at hl 0 rfl) ?_
          refine zget hx hb hts hown hK hP hin_8 0 rfl rfl 7 (by decide) mw_597 (v := .ref (h0 4)) rfl dX8_wind__48 ?_
          refine lv_iload hx hb dX8_wind__51 (lv_at hl 4 rfl) ?_
          obtain ⟨hin2, hf⟩ := gd_d hf
          refine va_iald hx hb hK hP 4 0 rfl rfl hin2 dX8_wind__53 ?_
          refine lv_iload_n hx hb dX8_wind__54 rfl (lv_at hl 2 rfl) ?_
          refine lv_icmp_lt (tgt := 74) hx hb dX8_wind__55 (by decide) (fun hc => ?_) (fun hc => ?_)
          · have hf := it_t hc hf
            exact k74 s27 hs27 x1 x2 x3 x4 ls (lv_sub hl [0, 1, 2, 3, 4] rfl) hf
          · have hf := it_f hc hf
            refine lv_aload_n hx hb dX8_wind__58 rfl (lv_at hl 0 rfl) ?_
            refine zget hx hb hts hown hK hP hin_8 0 rfl rfl 7 (by decide) mw_597 (v := .ref (h0 4)) rfl dX8_wind__59 ?_
            refine lv_iload hx hb dX8_wind__62 (lv_at hl 4 rfl) ?_
            obtain ⟨hin3, hf⟩ := gd_d hf
            refine va_iald hx hb hK hP 4 0 rfl rfl hin3 dX8_wind__64 ?_
            refine lv_istore_n (lv' := [(2, .int ((w0 4) (x4).toNatClampNeg)), (0, .ref (h0 0)), (1, .int x1), (3, .int x3), (4, .int x4)]) hx hb dX8_wind__65 rfl hl (by decide) rfl (fun ls hl => ?_)
            refine lv_aload_n hx hb dX8_wind__66 rfl (lv_at hl 1 rfl) ?_
            refine zget hx hb hts hown hK hP hin_8 0 rfl rfl 8 (by decide) mw_598 (v := .ref (h0 5)) rfl dX8_wind__67 ?_
            refine lv_iload hx hb dX8_wind__70 (lv_at hl 4 rfl) ?_
            obtain ⟨hin4, hf⟩ := gd_d hf
            refine va_iald hx hb hK hP 5 0 rfl rfl hin4 dX8_wind__72 ?_
            refine lv_istore_n (lv' := [(3, .int ((w0 5) (x4).toNatClampNeg)), (2, .int ((w0 4) (x4).toNatClampNeg)), (0, .ref (h0 0)), (1, .int x1), (4, .int x4)]) hx hb dX8_wind__73 rfl hl (by decide) rfl (fun ls hl => ?_)
            exact k74 s27 hs27 x1 ((w0 4) (x4).toNatClampNeg) ((w0 5) (x4).toNatClampNeg) x4 ls (lv_sub hl [2, 3, 1, 0, 4] rfl) hf
  have k20 : ∀ (x1 : Int32) (ls : Array Slot), lv_has ls 5 [(0, .ref (h0 0)), (1, .int x1)] → (fX8_wind__20 w0) x1 = some z → W p l e ({ frames := 0, cells := 0, slots := 0, locals := 0 } : Room) s m args below meth c s.heap [] 0 0 (MQ below (vp_Si (fun q => q = z)) args s 0 0 (fun _ => False)) (F0 m 20 ls []) := by
    intro x1 ls hl hf
    unfold fX8_wind__20 at hf
    refine lv_iconst (v := (-1 : Int32)) hx hb dX8_wind__20 (by decide) ?_
    refine lv_istore_n (lv' := [(2, .int (-1 : Int32)), (0, .ref (h0 0)), (1, .int x1)]) hx hb dX8_wind__21 rfl hl (by decide) rfl (fun ls hl => ?_)
    refine lv_iconst (v := (0 : Int32)) hx hb dX8_wind__22 (by decide) ?_
    refine lv_istore_n (lv' := [(3, .int (0 : Int32)), (2, .int (-1 : Int32)), (0, .ref (h0 0)), (1, .int x1)]) hx hb dX8_wind__23 rfl hl (by decide) rfl (fun ls hl => ?_)
    refine lv_iconst (v := (0 : Int32)) hx hb dX8_wind__24 (by decide) ?_
    refine lv_istore (lv' := [(4, .int (0 : Int32)), (3, .int (0 : Int32)), (2, .int (-1 : Int32)), (0, .ref (h0 0)), (1, .int x1)]) hx hb dX8_wind__25 hl (by decide) rfl (fun ls hl => ?_)
    exact k27 zFU x1 (-1 : Int32) (0 : Int32) (0 : Int32) ls (lv_sub hl [3, 4, 2, 1, 0] rfl) hf
  obtain ⟨ls, hl, he⟩ := zent (m := m) (n := 5) (L := [(0, .ref (h0 0)), (1, .int x1)]) ha (Nat.le_of_ble_eq_true rfl) rfl
  refine W.eq he ?_
  unfold fX8_wind_ at hf
  have kE : W p l e ({ frames := 0, cells := 0, slots := 0, locals := 0 } : Room) s m args below meth c s.heap [] 0 0 (MQ below (vp_Si (fun q => q = z)) args s 0 0 (fun _ => False)) (F0 m 0 ls []) := by
    refine lv_aload_n hx hb dX8_wind__0 rfl (lv_at hl 0 rfl) ?_
    refine zget hx hb hts hown hK hP hin_8 0 rfl rfl 26 (by decide) mw_616 (v := .int (w0 0 26)) rfl dX8_wind__1 ?_
    refine lv_if_lt (tgt := 20) hx hb dX8_wind__4 (by decide) (fun hc => ?_) (fun hc => ?_)
    · have hf := it_t hc hf
      exact k20 x1 ls (lv_sub hl [0, 1] rfl) hf
    · have hf := it_f hc hf
      refine lv_iload_n hx hb dX8_wind__7 rfl (lv_at hl 1 rfl) ?_
      refine lv_aload_n hx hb dX8_wind__8 rfl (lv_at hl 0 rfl) ?_
      refine zget hx hb hts hown hK hP hin_8 0 rfl rfl 26 (by decide) mw_616 (v := .int (w0 0 26)) rfl dX8_wind__9 ?_
      refine lv_icmp_lt (tgt := 20) hx hb dX8_wind__12 (by decide) (fun hc => ?_) (fun hc => ?_)
      · have hf := it_t hc hf
        exact k20 x1 ls (lv_sub hl [0, 1] rfl) hf
      · have hf := it_f hc hf
        refine lv_aload_n hx hb dX8_wind__15 rfl (lv_at hl 0 rfl) ?_
        refine zget hx hb hts hown hK hP hin_8 0 rfl rfl 27 (by decide) mw_617 (v := .int (w0 0 27)) rfl dX8_wind__16 ?_
        exact zretR hx hb hr hlocks hf dX8_wind__19
  exact kE
set_option maxHeartbeats 4000000 in
set_option maxRecDepth 100000 in
theorem kX8_tide_ (l : Launch) (dC : Nat → ClassId) (dI : Nat → Nat → Nat) (cy : ClassId) (h0 : Nat → Nat) (w0 : Nat → Nat → Int32) (x1 : Int32) (z : Int32) (hf : fX8_tide_ w0 x1 = some z) : Met l yX8_tide_ (wsM yX8_tide_ cX8_tide_ 5 (some .int)) ({ frames := 0, cells := 0, slots := 0, locals := 0 } : Room) (va_Pc [.ref (h0 0), .int x1] (pRO (dC, dI) vwCl [(cy, .int)] (zW_8 cy h0 w0))) (vp_Si (fun q => q = z)) 0 0 (fun _ => False) := by
  refine Met.ofW (cc := cX8_tide_) (maxL := 5) (ret := (some .int)) (by decide) rfl ?_
  intro p e s m args below meth c s₁ B hml hv
  obtain ⟨ha, hP, hK, hG⟩ := hv
  have hx := B.exec
  have hb := B.bytes
  have hr := B.returns
  have hts : ∀ w ∈ wsA, w.before args s = true := fun w h => atoms_spec (ws := wsM yX8_tide_ cX8_tide_ 5 (some .int)) B.pre w (List.mem_cons_of_mem _ h)
  have hown : s.vm.findClass RX8 = some m.cls := findClass_of_methodNamed B.named
  have hlocks := B.notSynchronized
  have hS : va_S (fun _ => False) s.heap s.heap [] := va_S.rf
  have k54 : ∀ (s7 : Int32 → Int32 → Int32 → Int32 → Option (Int32)) (hs7 : ∀ (x1 : Int32) (x2 : Int32) (x3 : Int32) (x4 : Int32) (ls : Array Slot), lv_has ls 5 [(0, .ref (h0 0)), (1, .int x1), (2, .int x2), (3, .int x3), (4, .int x4)] → s7 x1 x2 x3 x4 = some z → W p l e ({ frames := 0, cells := 0, slots := 0, locals := 0 } : Room) s m args below meth c s.heap [] 0 0 (MQ below (vp_Si (fun q => q = z)) args s 0 0 (fun _ => False)) (F0 m 7 ls [])), ∀ (x1 : Int32) (x2 : Int32) (x3 : Int32) (x4 : Int32) (ls : Array Slot), lv_has ls 5 [(0, .ref (h0 0)), (1, .int x1), (2, .int x2), (3, .int x3), (4, .int x4)] → (fX8_tide__54 w0 s7) x1 x2 x3 x4 = some z → W p l e ({ frames := 0, cells := 0, slots := 0, locals := 0 } : Room) s m args below meth c s.heap [] 0 0 (MQ below (vp_Si (fun q => q = z)) args s 0 0 (fun _ => False)) (F0 m 54 ls []) := by
    intro s7 hs7
    intro x1 x2 x3 x4 ls hl hf
    unfold fX8_tide__54 at hf
    refine lv_zinc (lv' := [(4, .int (x4 + (1 : Int32))), (0, .ref (h0 0)), (1, .int x1), (2, .int x2), (3, .int x3)]) hx hb dX8_tide__54 hl (k := 4) rfl (v := (1 : Int32)) (by decide) (by decide) rfl (fun ls hl => ?_)
    refine lv_goto (tgt := 7) hx hb dX8_tide__57 (by decide) ?_
    exact hs7 x1 x2 x3 (x4 + (1 : Int32)) ls (lv_sub hl [1, 2, 3, 4, 0] rfl) hf
  have k7 : ∀ n : Nat, ∀ (x1 : Int32) (x2 : Int32) (x3 : Int32) (x4 : Int32) (ls : Array Slot), lv_has ls 5 [(0, .ref (h0 0)), (1, .int x1), (2, .int x2), (3, .int x3), (4, .int x4)] → (zl4 (fX8_tide__7 w0) n) x1 x2 x3 x4 = some z → W p l e ({ frames := 0, cells := 0, slots := 0, locals := 0 } : Room) s m args below meth c s.heap [] 0 0 (MQ below (vp_Si (fun q => q = z)) args s 0 0 (fun _ => False)) (F0 m 7 ls []) := by
    intro n
    induction n with
    | zero =>
      intro x1 x2 x3 x4 ls hl hf
      exact z_no hf
    | succ n hs7 =>
      intro x1 x2 x3 x4 ls hl hf
      have hf : fX8_tide__7 w0 (zl4 (fX8_tide__7 w0) n) x1 x2 x3 x4 = some z := hf
      generalize zl4 (fX8_tide__7 w0) n = s7 at hs7 hf
      unfold fX8_tide__7 at hf
      refine lv_iload hx hb dX8_tide__7 (lv_at hl 4 rfl) ?_
      refine lv_aload_n hx hb dX8_tide__9 rfl (lv_at hl 0 rfl) ?_
      refine zget hx hb hts hown hK hP hin_8 0 rfl rfl 9 (by decide) mw_599 (v := .int (w0 0 9)) rfl dX8_tide__10 ?_
      refine lv_icmp_ge (tgt := 60) hx hb dX8_tide__13 (by decide) (fun hc => ?_) (fun hc => ?_)
      · have hf := it_t hc hf
        refine lv_iload_n hx hb dX8_tide__60 rfl (lv_at hl 3 rfl) ?_
        exact zretR hx hb hr hlocks hf dX8_tide__61
      · have hf := it_f hc hf
        refine lv_aload_n hx hb dX8_tide__16 rfl (lv_at hl 0 rfl) ?_
        refine zget hx hb hts hown hK hP hin_8 0 rfl rfl 10 (by decide) mw_600 (v := .ref (h0 6)) rfl dX8_tide__17 ?_
        refine lv_iload hx hb dX8_tide__20 (lv_at hl 4 rfl) ?_
        obtain ⟨hin1, hf⟩ := gd_d hf
        refine va_iald hx hb hK hP 6 0 rfl rfl hin1 dX8_tide__22 ?_
        refine lv_iload_n hx hb dX8_tide__23 rfl (lv_at hl 1 rfl) ?_
        refine lv_icmp_gt (tgt := 54) hx hb dX8_tide__24 (by decide) (fun hc => ?_) (fun hc => ?_)
        · have hf := it_t hc hf
          exact k54 s7 hs7 x1 x2 x3 x4 ls (lv_sub hl [0, 1, 2, 3, 4] rfl) hf
        · have hf := it_f hc hf
          refine lv_aload_n hx hb dX8_tide__27 rfl (lv_at hl 0 rfl) ?_
          refine zget hx hb hts hown hK hP hin_8 0 rfl rfl 10 (by decide) mw_600 (v := .ref (h0 6)) rfl dX8_tide__28 ?_
          refine lv_iload hx hb dX8_tide__31 (lv_at hl 4 rfl) ?_
          obtain ⟨hin2, hf⟩ := gd_d hf
          refine va_iald hx hb hK hP 6 0 rfl rfl hin2 dX8_tide__33 ?_
          refine lv_iload_n hx hb dX8_tide__34 rfl (lv_at hl 2 rfl) ?_
          refine lv_icmp_lt (tgt := 54) hx hb dX8_tide__35 (by decide) (fun hc => ?_) (fun hc => ?_)
          · have hf := it_t hc hf
            exact k54 s7 hs7 x1 x2 x3 x4 ls (lv_sub hl [0, 1, 2, 3, 4] rfl) hf
          · have hf := it_f hc hf
            refine lv_aload_n hx hb dX8_tide__38 rfl (lv_at hl 0 rfl) ?_
            refine zget hx hb hts hown hK hP hin_8 0 rfl rfl 10 (by decide) mw_600 (v := .ref (h0 6)) rfl dX8_tide__39 ?_
            refine lv_iload hx hb dX8_tide__42 (lv_at hl 4 rfl) ?_
            obtain ⟨hin3, hf⟩ := gd_d hf
            refine va_iald hx hb hK hP 6 0 rfl rfl hin3 dX8_tide__44 ?_
            refine lv_istore_n (lv' := [(2, .int ((w0 6) (x4).toNatClampNeg)), (0, .ref (h0 0)), (1, .int x1), (3, .int x3), (4, .int x4)]) hx hb dX8_tide__45 rfl hl (by decide) rfl (fun ls hl => ?_)
            refine lv_aload_n hx hb dX8_tide__46 rfl (lv_at hl 1 rfl) ?_
            refine zget hx hb hts hown hK hP hin_8 0 rfl rfl 11 (by decide) mw_601 (v := .ref (h0 7)) rfl dX8_tide__47 ?_
            refine lv_iload hx hb dX8_tide__50 (lv_at hl 4 rfl) ?_
            obtain ⟨hin4, hf⟩ := gd_d hf
            refine va_iald hx hb hK hP 7 0 rfl rfl hin4 dX8_tide__52 ?_
            refine lv_istore_n (lv' := [(3, .int ((w0 7) (x4).toNatClampNeg)), (2, .int ((w0 6) (x4).toNatClampNeg)), (0, .ref (h0 0)), (1, .int x1), (4, .int x4)]) hx hb dX8_tide__53 rfl hl (by decide) rfl (fun ls hl => ?_)
            exact k54 s7 hs7 x1 ((w0 6) (x4).toNatClampNeg) ((w0 7) (x4).toNatClampNeg) x4 ls (lv_sub hl [2, 3, 1, 0, 4] rfl) hf
  obtain ⟨ls, hl, he⟩ := zent (m := m) (n := 5) (L := [(0, .ref (h0 0)), (1, .int x1)]) ha (Nat.le_of_ble_eq_true rfl) rfl
  refine W.eq he ?_
  unfold fX8_tide_ at hf
  have kE : W p l e ({ frames := 0, cells := 0, slots := 0, locals := 0 } : Room) s m args below meth c s.heap [] 0 0 (MQ below (vp_Si (fun q => q = z)) args s 0 0 (fun _ => False)) (F0 m 0 ls []) := by
    refine lv_iconst (v := (-1 : Int32)) hx hb dX8_tide__0 (by decide) ?_
    refine lv_istore_n (lv' := [(2, .int (-1 : Int32)), (0, .ref (h0 0)), (1, .int x1)]) hx hb dX8_tide__1 rfl hl (by decide) rfl (fun ls hl => ?_)
    refine lv_iconst (v := (0 : Int32)) hx hb dX8_tide__2 (by decide) ?_
    refine lv_istore_n (lv' := [(3, .int (0 : Int32)), (2, .int (-1 : Int32)), (0, .ref (h0 0)), (1, .int x1)]) hx hb dX8_tide__3 rfl hl (by decide) rfl (fun ls hl => ?_)
    refine lv_iconst (v := (0 : Int32)) hx hb dX8_tide__4 (by decide) ?_
    refine lv_istore (lv' := [(4, .int (0 : Int32)), (3, .int (0 : Int32)), (2, .int (-1 : Int32)), (0, .ref (h0 0)), (1, .int x1)]) hx hb dX8_tide__5 hl (by decide) rfl (fun ls hl => ?_)
    exact k7 zFU x1 (-1 : Int32) (0 : Int32) (0 : Int32) ls (lv_sub hl [3, 4, 2, 1, 0] rfl) hf
  exact kE
set_option maxHeartbeats 4000000 in
set_option maxRecDepth 100000 in
theorem kX8_apart (l : Launch) (dC : Nat → ClassId) (dI : Nat → Nat → Nat) (cy : ClassId) (x0 : Int32) (x1 : Int32) (z : Int32) (hf : fX8_apart x0 x1 = some z) : Met l yX8_apart (wsM yX8_apart cX8_apart 3 (some .int)) ({ frames := 0, cells := 0, slots := 0, locals := 0 } : Room) (va_Pc [.int x0, .int x1] (pRO (dC, dI) vwCl [(cy, .int)] ([] : va_W))) (vp_Si (fun q => q = z)) 0 0 (fun _ => False) := by
  refine Met.ofW (cc := cX8_apart) (maxL := 3) (ret := (some .int)) (by decide) rfl ?_
  intro p e s m args below meth c s₁ B hml hv
  obtain ⟨ha, hP, hK, hG⟩ := hv
  have hx := B.exec
  have hb := B.bytes
  have hr := B.returns
  have hts : ∀ w ∈ wsA, w.before args s = true := fun w h => atoms_spec (ws := wsM yX8_apart cX8_apart 3 (some .int)) B.pre w (List.mem_cons_of_mem _ h)
  have hown : s.vm.findClass RX8 = some m.cls := findClass_of_methodNamed B.named
  have hlocks := B.notSynchronized
  have hS : va_S (fun _ => False) s.heap s.heap [] := va_S.rf
  have k14 : ∀ (t0 : Int32) (ls : Array Slot), lv_has ls 3 [] → (fX8_apart_14) t0 = some z → W p l e ({ frames := 0, cells := 0, slots := 0, locals := 0 } : Room) s m args below meth c s.heap [] 0 0 (MQ below (vp_Si (fun q => q = z)) args s 0 0 (fun _ => False)) (F0 m 14 ls [.int t0]) := by
    intro t0 ls hl hf
    unfold fX8_apart_14 at hf
    refine lv_istore_n (lv' := [(2, .int t0)]) hx hb dX8_apart_14 rfl hl (by decide) rfl (fun ls hl => ?_)
    refine lv_iload_n hx hb dX8_apart_15 rfl (lv_at hl 0 rfl) ?_
    refine lv_iconst (v := (4 : Int32)) hx hb dX8_apart_16 (by decide) ?_
    refine lv_icmp_le (tgt := 27) hx hb dX8_apart_17 (by decide) (fun hc => ?_) (fun hc => ?_)
    · have hf := it_t hc hf
      refine lv_iload_n hx hb dX8_apart_27 rfl (lv_at hl 0 rfl) ?_
      exact zretR hx hb hr hlocks hf dX8_apart_28
    · have hf := it_f hc hf
      refine lv_bipush (v := (8 : Int32)) hx hb dX8_apart_20 (by decide) ?_
      refine lv_iload_n hx hb dX8_apart_22 rfl (lv_at hl 0 rfl) ?_
      refine lv_isub hx hb dX8_apart_23 ?_
      refine lv_goto (tgt := 28) hx hb dX8_apart_24 (by decide) ?_
      exact zretR hx hb hr hlocks hf dX8_apart_28
  obtain ⟨ls, hl, he⟩ := zent (m := m) (n := 3) (L := [(0, .int x0), (1, .int x1)]) ha (Nat.le_of_ble_eq_true rfl) rfl
  refine W.eq he ?_
  unfold fX8_apart at hf
  have kE : W p l e ({ frames := 0, cells := 0, slots := 0, locals := 0 } : Room) s m args below meth c s.heap [] 0 0 (MQ below (vp_Si (fun q => q = z)) args s 0 0 (fun _ => False)) (F0 m 0 ls []) := by
    refine lv_iload_n hx hb dX8_apart_0 rfl (lv_at hl 0 rfl) ?_
    refine lv_iload_n hx hb dX8_apart_1 rfl (lv_at hl 1 rfl) ?_
    refine lv_icmp_le (tgt := 11) hx hb dX8_apart_2 (by decide) (fun hc => ?_) (fun hc => ?_)
    · have hf := it_t hc hf
      refine lv_iload_n hx hb dX8_apart_11 rfl (lv_at hl 1 rfl) ?_
      refine lv_iload_n hx hb dX8_apart_12 rfl (lv_at hl 0 rfl) ?_
      refine lv_isub hx hb dX8_apart_13 ?_
      exact k14 (x1 - x0) ls (lv_sub hl [] rfl) hf
    · have hf := it_f hc hf
      refine lv_iload_n hx hb dX8_apart_5 rfl (lv_at hl 0 rfl) ?_
      refine lv_iload_n hx hb dX8_apart_6 rfl (lv_at hl 1 rfl) ?_
      refine lv_isub hx hb dX8_apart_7 ?_
      refine lv_goto (tgt := 14) hx hb dX8_apart_8 (by decide) ?_
      exact k14 (x0 - x1) ls (lv_sub hl [] rfl) hf
  exact kE
set_option maxHeartbeats 4000000 in
set_option maxRecDepth 100000 in
theorem kX8_isSea (l : Launch) (dC : Nat → ClassId) (dI : Nat → Nat → Nat) (cy : ClassId) (h0 : Nat → Nat) (w0 : Nat → Nat → Int32) (x1 : Int32) (z : Int32) (hf : fX8_isSea w0 x1 = some z) : Met l yX8_isSea (wsM yX8_isSea cX8_isSea 2 (some .boolean)) ({ frames := 0, cells := 0, slots := 0, locals := 0 } : Room) (va_Pc [.ref (h0 0), .int x1] (pRO (dC, dI) vwCl [(cy, .int)] (zW_8 cy h0 w0))) (vp_Si (fun q => q = z)) 0 0 (fun _ => False) := by
  refine Met.ofW (cc := cX8_isSea) (maxL := 2) (ret := (some .boolean)) (by decide) rfl ?_
  intro p e s m args below meth c s₁ B hml hv
  obtain ⟨ha, hP, hK, hG⟩ := hv
  have hx := B.exec
  have hb := B.bytes
  have hr := B.returns
  have hts : ∀ w ∈ wsA, w.before args s = true := fun w h => atoms_spec (ws := wsM yX8_isSea cX8_isSea 2 (some .boolean)) B.pre w (List.mem_cons_of_mem _ h)
  have hown : s.vm.findClass RX8 = some m.cls := findClass_of_methodNamed B.named
  have hlocks := B.notSynchronized
  have hS : va_S (fun _ => False) s.heap s.heap [] := va_S.rf
  obtain ⟨ls, hl, he⟩ := zent (m := m) (n := 2) (L := [(0, .ref (h0 0)), (1, .int x1)]) ha (Nat.le_of_ble_eq_true rfl) rfl
  refine W.eq he ?_
  unfold fX8_isSea at hf
  have kE : W p l e ({ frames := 0, cells := 0, slots := 0, locals := 0 } : Room) s m args below meth c s.heap [] 0 0 (MQ below (vp_Si (fun q => q = z)) args s 0 0 (fun _ => False)) (F0 m 0 ls []) := by
    refine lv_aload_n hx hb dX8_isSea_0 rfl (lv_at hl 0 rfl) ?_
    refine zget hx hb hts hown hK hP hin_8 0 rfl rfl 2 (by decide) mw_592 (v := .ref (h0 1)) rfl dX8_isSea_1 ?_
    refine lv_iload_n hx hb dX8_isSea_4 rfl (lv_at hl 1 rfl) ?_
    obtain ⟨hin1, hf⟩ := gd_d hf
    refine va_iald hx hb hK hP 1 0 rfl rfl hin1 dX8_isSea_5 ?_
    refine lv_if_le (tgt := 24) hx hb dX8_isSea_6 (by decide) (fun hc => ?_) (fun hc => ?_)
    · have hf := it_t hc hf
      refine lv_iconst (v := (0 : Int32)) hx hb dX8_isSea_24 (by decide) ?_
      exact zretRZ hx hb hr hlocks rfl hf dX8_isSea_25
    · have hf := it_f hc hf
      refine lv_aload_n hx hb dX8_isSea_9 rfl (lv_at hl 0 rfl) ?_
      refine zget hx hb hts hown hK hP hin_8 0 rfl rfl 2 (by decide) mw_592 (v := .ref (h0 1)) rfl dX8_isSea_10 ?_
      refine lv_iload_n hx hb dX8_isSea_13 rfl (lv_at hl 1 rfl) ?_
      obtain ⟨hin2, hf⟩ := gd_d hf
      refine va_iald hx hb hK hP 1 0 rfl rfl hin2 dX8_isSea_14 ?_
      refine lv_bipush (v := (30 : Int32)) hx hb dX8_isSea_15 (by decide) ?_
      refine lv_icmp_ge (tgt := 24) hx hb dX8_isSea_17 (by decide) (fun hc => ?_) (fun hc => ?_)
      · have hf := it_t hc hf
        refine lv_iconst (v := (0 : Int32)) hx hb dX8_isSea_24 (by decide) ?_
        exact zretRZ hx hb hr hlocks rfl hf dX8_isSea_25
      · have hf := it_f hc hf
        refine lv_iconst (v := (1 : Int32)) hx hb dX8_isSea_20 (by decide) ?_
        refine lv_goto (tgt := 25) hx hb dX8_isSea_21 (by decide) ?_
        exact zretRZ hx hb hr hlocks rfl hf dX8_isSea_25
  exact kE
set_option maxHeartbeats 4000000 in
set_option maxRecDepth 100000 in
theorem kX8_bears (l : Launch) (dC : Nat → ClassId) (dI : Nat → Nat → Nat) (cy : ClassId) (h0 : Nat → Nat) (w0 : Nat → Nat → Int32) (x1 : Int32) (z : Int32) (hf : fX8_bears w0 x1 = some z) : Met l yX8_bears (wsM yX8_bears cX8_bears 2 (some .boolean)) ({ frames := 1, cells := 0, slots := 0, locals := 21 } : Room) (va_Pc [.ref (h0 0), .int x1] (pRO (dC, dI) vwCl [(cy, .int)] (zW_8 cy h0 w0))) (vp_Si (fun q => q = z)) 0 0 (fun _ => False) := by
  refine Met.ofW (cc := cX8_bears) (maxL := 2) (ret := (some .boolean)) (by decide) rfl ?_
  intro p e s m args below meth c s₁ B hml hv
  obtain ⟨ha, hP, hK, hG⟩ := hv
  have hx := B.exec
  have hb := B.bytes
  have hr := B.returns
  have hts : ∀ w ∈ wsA, w.before args s = true := fun w h => atoms_spec (ws := wsM yX8_bears cX8_bears 2 (some .boolean)) B.pre w (List.mem_cons_of_mem _ h)
  have hown : s.vm.findClass RX8 = some m.cls := findClass_of_methodNamed B.named
  have hlocks := B.notSynchronized
  have hS : va_S (fun _ => False) s.heap s.heap [] := va_S.rf
  obtain ⟨ls, hl, he⟩ := zent (m := m) (n := 2) (L := [(0, .ref (h0 0)), (1, .int x1)]) ha (Nat.le_of_ble_eq_true rfl) rfl
  refine W.eq he ?_
  unfold fX8_bears at hf
  have kE : W p l e ({ frames := 1, cells := 0, slots := 0, locals := 21 } : Room) s m args below meth c s.heap [] 0 0 (MQ below (vp_Si (fun q => q = z)) args s 0 0 (fun _ => False)) (F0 m 0 ls []) := by
    refine lv_aload_n hx hb dX8_bears_0 rfl (lv_at hl 0 rfl) ?_
    refine lv_iload_n hx hb dX8_bears_1 rfl (lv_at hl 1 rfl) ?_
    obtain ⟨r2, hq1, hf⟩ := ob1_d hf
    refine zroV (q := (RX8, TX8, 37)) (As := [.int x1]) (rest := []) (r := r2) ⟨hx, hb, hml, hown, hts⟩ (kX8_isSea l dC dI cy h0 w0 x1 r2 hq1) mw_710 mw_711 mw_902 mw_9 mw_712 hdX8_isSea rfl rfl ⟨Nat.le_of_ble_eq_true rfl, Nat.le_of_ble_eq_true rfl⟩ hP hK hG hS 0 rfl rfl [0, 1, 2, 3, 4, 5, 6, 7, 8, 9, 10, 11, 12, 13] rfl rfl hl.1 rfl (Nat.le_of_ble_eq_true rfl) dX8_bears_2 ⟨Nat.zero_le _, Nat.zero_le _⟩ ?_
    refine lv_if_eq (tgt := 27) hx hb dX8_bears_5 (by decide) (fun hc => ?_) (fun hc => ?_)
    · have hf := it_t hc hf
      refine lv_iconst (v := (0 : Int32)) hx hb dX8_bears_27 (by decide) ?_
      exact zretRZ hx hb hr hlocks rfl hf dX8_bears_28
    · have hf := it_f hc hf
      refine lv_aload_n hx hb dX8_bears_8 rfl (lv_at hl 0 rfl) ?_
      refine zget hx hb hts hown hK hP hin_8 0 rfl rfl 2 (by decide) mw_592 (v := .ref (h0 1)) rfl dX8_bears_9 ?_
      refine lv_iload_n hx hb dX8_bears_12 rfl (lv_at hl 1 rfl) ?_
      obtain ⟨hin3, hf⟩ := gd_d hf
      refine va_iald hx hb hK hP 1 0 rfl rfl hin3 dX8_bears_13 ?_
      refine lv_aload_n hx hb dX8_bears_14 rfl (lv_at hl 0 rfl) ?_
      refine zget hx hb hts hown hK hP hin_8 0 rfl rfl 5 (by decide) mw_595 (v := .ref (h0 3)) rfl dX8_bears_15 ?_
      refine lv_iconst (v := (1 : Int32)) hx hb dX8_bears_18 (by decide) ?_
      refine va_iald hx hb hK hP 3 0 rfl rfl (vin_lit (by decide)) dX8_bears_19 ?_
      refine lv_icmp_lt (tgt := 27) hx hb dX8_bears_20 (by decide) (fun hc => ?_) (fun hc => ?_)
      · have hf := it_t hc hf
        refine lv_iconst (v := (0 : Int32)) hx hb dX8_bears_27 (by decide) ?_
        exact zretRZ hx hb hr hlocks rfl hf dX8_bears_28
      · have hf := it_f hc hf
        refine lv_iconst (v := (1 : Int32)) hx hb dX8_bears_23 (by decide) ?_
        refine lv_goto (tgt := 28) hx hb dX8_bears_24 (by decide) ?_
        exact zretRZ hx hb hr hlocks rfl hf dX8_bears_28
  exact kE
set_option maxHeartbeats 4000000 in
set_option maxRecDepth 100000 in
theorem kX8_lay (l : Launch) (dC : Nat → ClassId) (dI : Nat → Nat → Nat) (cy : ClassId) (h0 : Nat → Nat) (w0 : Nat → Nat → Int32) (x1 : Int32) (sz : Nat) (z : (Nat → Int32)) (hf : fX8_lay w0 x1 = some z) : Met l yX8_lay (wsM yX8_lay cX8_lay 2 none) ({ frames := 1, cells := 0, slots := 0, locals := 24 } : Room) (va_Pc [.ref (h0 0), .int x1] (pWR (dC, dI) vwCl [(cy, .int)] (zW_8 cy h0 w0) sz)) (va_Qv (fun (v : (Nat → Int32)) => v = z) (fun v => aWR (dC, dI) vwCl [(cy, .int)] (va_A (zW_8 cy h0 w0) sz) (zW_8 cy h0 (ups w0 0 v))) (va_A (zW_8 cy h0 w0) sz)) 0 0 (va_A (zW_8 cy h0 w0) sz) := by
  refine Met.ofW (cc := cX8_lay) (maxL := 2) (ret := none) (by decide) rfl ?_
  intro p e s m args below meth c s₁ B hml hv
  obtain ⟨ha, hsz, hP, hK, hD0, hG⟩ := hv
  have hx := B.exec
  have hb := B.bytes
  have hr := B.returns
  have hts : ∀ w ∈ wsA, w.before args s = true := fun w h => atoms_spec (ws := wsM yX8_lay cX8_lay 2 none) B.pre w (List.mem_cons_of_mem _ h)
  have hown : s.vm.findClass RX8 = some m.cls := findClass_of_methodNamed B.named
  have hlocks := B.notSynchronized
  subst hsz
  have hD := hD0.self (sz := s.heap.size)
  generalize hAe : va_A (zW_8 cy h0 w0) s.heap.size = A at hD hG ⊢
  have hA : ∀ q : Nat, s.heap.size ≤ q → A q := fun q h => by rw [← hAe]; exact Or.inr h
  have hS : va_S A s.heap s.heap [] := va_S.rf
  have hP : va_P (dC, dI) vwCl (zW_8 cy h0 (ups w0 0 (w0 0))) s.heap := hP
  have hD : va_D A (zW_8 cy h0 (ups w0 0 (w0 0))) := hD
  obtain ⟨ls, hl, he⟩ := zent (m := m) (n := 2) (L := [(0, .ref (h0 0)), (1, .int x1)]) ha (Nat.le_of_ble_eq_true rfl) rfl
  refine W.eq he ?_
  unfold fX8_lay at hf
  have kE : ∀ (H : Heap) (locs : List Loc), va_P (dC, dI) vwCl (zW_8 cy h0 (ups w0 0 (w0 0))) H → va_D A (zW_8 cy h0 (ups w0 0 (w0 0))) → va_S A s.heap H locs → W p l e ({ frames := 1, cells := 0, slots := 0, locals := 24 } : Room) s m args below meth c H locs 0 0 (MQ below (va_Qv (fun (v : (Nat → Int32)) => v = z) (fun v => aWR (dC, dI) vwCl [(cy, .int)] A (zW_8 cy h0 (ups w0 0 v))) A) args s 0 0 A) (F0 m 0 ls []) := by
    intro H locs hP hD hS
    refine lv_aload_n hx hb dX8_lay_0 rfl (lv_at hl 0 rfl) ?_
    refine lv_iconst (v := (1 : Int32)) hx hb dX8_lay_1 (by decide) ?_
    refine zput hx hb hts hown hK hP hD hS hin_8 tyX8 tyX8_ok nmX8 0 rfl rfl 12 (by decide) mw_602 rfl (v := .int (1 : Int32)) rfl rfl (Nat.le_of_ble_eq_true rfl) (wn := (zW_8 cy h0 (ups w0 0 (ups (w0 0) 12 (1 : Int32))))) rfl dX8_lay_2 (fun H locs hP hD hS => ?_)
    refine lv_aload_n hx hb dX8_lay_5 rfl (lv_at hl 0 rfl) ?_
    refine lv_iload_n hx hb dX8_lay_6 rfl (lv_at hl 1 rfl) ?_
    refine zput hx hb hts hown hK hP hD hS hin_8 tyX8 tyX8_ok nmX8 0 rfl rfl 13 (by decide) mw_603 rfl (v := .int x1) rfl rfl (Nat.le_of_ble_eq_true rfl) (wn := (zW_8 cy h0 (ups w0 0 (ups (ups (w0 0) 12 (1 : Int32)) 13 x1)))) rfl dX8_lay_7 (fun H locs hP hD hS => ?_)
    refine lv_aload_n hx hb dX8_lay_10 rfl (lv_at hl 0 rfl) ?_
    refine lv_iconst (v := (0 : Int32)) hx hb dX8_lay_11 (by decide) ?_
    refine zput hx hb hts hown hK hP hD hS hin_8 tyX8 tyX8_ok nmX8 0 rfl rfl 21 (by decide) mw_611 rfl (v := .int (0 : Int32)) rfl rfl (Nat.le_of_ble_eq_true rfl) (wn := (zW_8 cy h0 (ups w0 0 (ups (ups (ups (w0 0) 12 (1 : Int32)) 13 x1) 21 (0 : Int32))))) rfl dX8_lay_12 (fun H locs hP hD hS => ?_)
    refine lv_aload_n hx hb dX8_lay_15 rfl (lv_at hl 0 rfl) ?_
    refine lv_iconst (v := (1 : Int32)) hx hb dX8_lay_16 (by decide) ?_
    refine zput hx hb hts hown hK hP hD hS hin_8 tyX8 tyX8_ok nmX8 0 rfl rfl 22 (by decide) mw_612 rfl (v := .int (1 : Int32)) rfl rfl (Nat.le_of_ble_eq_true rfl) (wn := (zW_8 cy h0 (ups w0 0 (ups (ups (ups (ups (w0 0) 12 (1 : Int32)) 13 x1) 21 (0 : Int32)) 22 (1 : Int32))))) rfl dX8_lay_17 (fun H locs hP hD hS => ?_)
    refine lv_aload_n hx hb dX8_lay_20 rfl (lv_at hl 0 rfl) ?_
    refine lv_iconst (v := (3 : Int32)) hx hb dX8_lay_21 (by decide) ?_
    refine zput hx hb hts hown hK hP hD hS hin_8 tyX8 tyX8_ok nmX8 0 rfl rfl 16 (by decide) mw_606 rfl (v := .int (3 : Int32)) rfl rfl (Nat.le_of_ble_eq_true rfl) (wn := (zW_8 cy h0 (ups w0 0 (ups (ups (ups (ups (ups (w0 0) 12 (1 : Int32)) 13 x1) 21 (0 : Int32)) 22 (1 : Int32)) 16 (3 : Int32))))) rfl dX8_lay_22 (fun H locs hP hD hS => ?_)
    refine lv_aload_n hx hb dX8_lay_25 rfl (lv_at hl 0 rfl) ?_
    refine lv_iconst (v := (2 : Int32)) hx hb dX8_lay_26 (by decide) ?_
    refine zput hx hb hts hown hK hP hD hS hin_8 tyX8 tyX8_ok nmX8 0 rfl rfl 17 (by decide) mw_607 rfl (v := .int (2 : Int32)) rfl rfl (Nat.le_of_ble_eq_true rfl) (wn := (zW_8 cy h0 (ups w0 0 (ups (ups (ups (ups (ups (ups (w0 0) 12 (1 : Int32)) 13 x1) 21 (0 : Int32)) 22 (1 : Int32)) 16 (3 : Int32)) 17 (2 : Int32))))) rfl dX8_lay_27 (fun H locs hP hD hS => ?_)
    refine lv_aload_n hx hb dX8_lay_30 rfl (lv_at hl 0 rfl) ?_
    refine lv_iconst (v := (0 : Int32)) hx hb dX8_lay_31 (by decide) ?_
    refine zput hx hb hts hown hK hP hD hS hin_8 tyX8 tyX8_ok nmX8 0 rfl rfl 18 (by decide) mw_608 rfl (v := .int (0 : Int32)) rfl rfl (Nat.le_of_ble_eq_true rfl) (wn := (zW_8 cy h0 (ups w0 0 (ups (ups (ups (ups (ups (ups (ups (w0 0) 12 (1 : Int32)) 13 x1) 21 (0 : Int32)) 22 (1 : Int32)) 16 (3 : Int32)) 17 (2 : Int32)) 18 (0 : Int32))))) rfl dX8_lay_32 (fun H locs hP hD hS => ?_)
    refine lv_aload_n hx hb dX8_lay_35 rfl (lv_at hl 0 rfl) ?_
    refine lv_iconst (v := (0 : Int32)) hx hb dX8_lay_36 (by decide) ?_
    refine zput hx hb hts hown hK hP hD hS hin_8 tyX8 tyX8_ok nmX8 0 rfl rfl 19 (by decide) mw_609 rfl (v := .int (0 : Int32)) rfl rfl (Nat.le_of_ble_eq_true rfl) (wn := (zW_8 cy h0 (ups w0 0 (ups (ups (ups (ups (ups (ups (ups (ups (w0 0) 12 (1 : Int32)) 13 x1) 21 (0 : Int32)) 22 (1 : Int32)) 16 (3 : Int32)) 17 (2 : Int32)) 18 (0 : Int32)) 19 (0 : Int32))))) rfl dX8_lay_37 (fun H locs hP hD hS => ?_)
    refine lv_aload_n hx hb dX8_lay_40 rfl (lv_at hl 0 rfl) ?_
    refine lv_iconst (v := (0 : Int32)) hx hb dX8_lay_41 (by decide) ?_
    refine zput hx hb hts hown hK hP hD hS hin_8 tyX8 tyX8_ok nmX8 0 rfl rfl 20 (by decide) mw_610 rfl (v := .int (0 : Int32)) rfl rfl (Nat.le_of_ble_eq_true rfl) (wn := (zW_8 cy h0 (ups w0 0 (ups (ups (ups (ups (ups (ups (ups (ups (ups (w0 0) 12 (1 : Int32)) 13 x1) 21 (0 : Int32)) 22 (1 : Int32)) 16 (3 : Int32)) 17 (2 : Int32)) 18 (0 : Int32)) 19 (0 : Int32)) 20 (0 : Int32))))) rfl dX8_lay_42 (fun H locs hP hD hS => ?_)
    refine lv_aload_n hx hb dX8_lay_45 rfl (lv_at hl 0 rfl) ?_
    refine lv_iconst (v := (1 : Int32)) hx hb dX8_lay_46 (by decide) ?_
    refine zput hx hb hts hown hK hP hD hS hin_8 tyX8 tyX8_ok nmX8 0 rfl rfl 15 (by decide) mw_605 rfl (v := .int (1 : Int32)) rfl rfl (Nat.le_of_ble_eq_true rfl) (wn := (zW_8 cy h0 (ups w0 0 (ups (ups (ups (ups (ups (ups (ups (ups (ups (ups (w0 0) 12 (1 : Int32)) 13 x1) 21 (0 : Int32)) 22 (1 : Int32)) 16 (3 : Int32)) 17 (2 : Int32)) 18 (0 : Int32)) 19 (0 : Int32)) 20 (0 : Int32)) 15 (1 : Int32))))) rfl dX8_lay_47 (fun H locs hP hD hS => ?_)
    refine lv_aload_n hx hb dX8_lay_50 rfl (lv_at hl 0 rfl) ?_
    refine lv_aload_n hx hb dX8_lay_51 rfl (lv_at hl 0 rfl) ?_
    refine lv_iconst (v := (0 : Int32)) hx hb dX8_lay_52 (by decide) ?_
    obtain ⟨r2, hq1, hf⟩ := ob1_d hf
    refine zroV (q := (RX8, TX8, 37)) (As := [.int (0 : Int32)]) (rest := [.ref (h0 0)]) (r := r2) ⟨hx, hb, hml, hown, hts⟩ (kX8_wind_ l dC dI cy h0 (ups w0 0 (ups (ups (ups (ups (ups (ups (ups (ups (ups (ups (w0 0) 12 (1 : Int32)) 13 x1) 21 (0 : Int32)) 22 (1 : Int32)) 16 (3 : Int32)) 17 (2 : Int32)) 18 (0 : Int32)) 19 (0 : Int32)) 20 (0 : Int32)) 15 (1 : Int32))) (0 : Int32) r2 hq1) mw_716 mw_717 mw_904 mw_9 mw_718 hdX8_wind_ rfl rfl ⟨Nat.le_of_ble_eq_true rfl, Nat.le_of_ble_eq_true rfl⟩ hP hK hG hS 0 rfl rfl [0, 1, 2, 3, 4, 5, 6, 7, 8, 9, 10, 11, 12, 13] rfl rfl hl.1 rfl (Nat.le_of_ble_eq_true rfl) dX8_lay_53 ⟨Nat.zero_le _, Nat.zero_le _⟩ ?_
    refine lv_iconst (v := (4 : Int32)) hx hb dX8_lay_56 (by decide) ?_
    refine lv_iadd hx hb dX8_lay_57 ?_
    refine lv_bipush (v := (8 : Int32)) hx hb dX8_lay_58 (by decide) ?_
    refine lv_zrem hx hb dX8_lay_60 (by decide) ?_
    refine zput hx hb hts hown hK hP hD hS hin_8 tyX8 tyX8_ok nmX8 0 rfl rfl 14 (by decide) mw_604 rfl (v := .int (zrem (r2 + (4 : Int32)) (8 : Int32))) rfl rfl (Nat.le_of_ble_eq_true rfl) (wn := (zW_8 cy h0 (ups w0 0 (ups (ups (ups (ups (ups (ups (ups (ups (ups (ups (ups (w0 0) 12 (1 : Int32)) 13 x1) 21 (0 : Int32)) 22 (1 : Int32)) 16 (3 : Int32)) 17 (2 : Int32)) 18 (0 : Int32)) 19 (0 : Int32)) 20 (0 : Int32)) 15 (1 : Int32)) 14 (zrem (r2 + (4 : Int32)) (8 : Int32)))))) rfl dX8_lay_61 (fun H locs hP hD hS => ?_)
    exact zretV hx hb hr hlocks hP hK hD hS hf rfl dX8_lay_64
  exact kE s.heap [] hP hD hS
set_option maxHeartbeats 4000000 in
set_option maxRecDepth 100000 in
theorem kX8_lays (l : Launch) (dC : Nat → ClassId) (dI : Nat → Nat → Nat) (cy : ClassId) (h0 : Nat → Nat) (w0 : Nat → Nat → Int32) (x1 : Int32) (sz : Nat) (z : Int32 × (Nat → Int32) × (Nat → Int32)) (hf : fX8_lays w0 x1 = some z) : Met l yX8_lays (wsM yX8_lays cX8_lays 2 (some .int)) ({ frames := 2, cells := 0, slots := 0, locals := 45 } : Room) (va_Pc [.ref (h0 0), .int x1] (pWR (dC, dI) vwCl [(cy, .int)] (zW_8 cy h0 w0) sz)) (va_Qi (fun (q : Int32) (v : (Nat → Int32) × (Nat → Int32)) => (q, v) = z) (fun v => aWR (dC, dI) vwCl [(cy, .int)] (va_A (zW_8 cy h0 w0) sz) (zW_8 cy h0 (ups (ups w0 0 v.1) 9 v.2))) (va_A (zW_8 cy h0 w0) sz)) 0 0 (va_A (zW_8 cy h0 w0) sz) := by
  refine Met.ofW (cc := cX8_lays) (maxL := 2) (ret := (some .int)) (by decide) rfl ?_
  intro p e s m args below meth c s₁ B hml hv
  obtain ⟨ha, hsz, hP, hK, hD0, hG⟩ := hv
  have hx := B.exec
  have hb := B.bytes
  have hr := B.returns
  have hts : ∀ w ∈ wsA, w.before args s = true := fun w h => atoms_spec (ws := wsM yX8_lays cX8_lays 2 (some .int)) B.pre w (List.mem_cons_of_mem _ h)
  have hown : s.vm.findClass RX8 = some m.cls := findClass_of_methodNamed B.named
  have hlocks := B.notSynchronized
  subst hsz
  have hD := hD0.self (sz := s.heap.size)
  generalize hAe : va_A (zW_8 cy h0 w0) s.heap.size = A at hD hG ⊢
  have hA : ∀ q : Nat, s.heap.size ≤ q → A q := fun q h => by rw [← hAe]; exact Or.inr h
  have hS : va_S A s.heap s.heap [] := va_S.rf
  have hP : va_P (dC, dI) vwCl (zW_8 cy h0 (ups (ups w0 0 (w0 0)) 9 (w0 9))) s.heap := hP
  have hD : va_D A (zW_8 cy h0 (ups (ups w0 0 (w0 0)) 9 (w0 9))) := hD
  obtain ⟨ls, hl, he⟩ := zent (m := m) (n := 2) (L := [(0, .ref (h0 0)), (1, .int x1)]) ha (Nat.le_of_ble_eq_true rfl) rfl
  refine W.eq he ?_
  unfold fX8_lays at hf
  have kE : ∀ (H : Heap) (locs : List Loc), va_P (dC, dI) vwCl (zW_8 cy h0 (ups (ups w0 0 (w0 0)) 9 (w0 9))) H → va_D A (zW_8 cy h0 (ups (ups w0 0 (w0 0)) 9 (w0 9))) → va_S A s.heap H locs → W p l e ({ frames := 2, cells := 0, slots := 0, locals := 45 } : Room) s m args below meth c H locs 0 0 (MQ below (va_Qi (fun (q : Int32) (v : (Nat → Int32) × (Nat → Int32)) => (q, v) = z) (fun v => aWR (dC, dI) vwCl [(cy, .int)] A (zW_8 cy h0 (ups (ups w0 0 v.1) 9 v.2))) A) args s 0 0 A) (F0 m 0 ls []) := by
    intro H locs hP hD hS
    refine lv_aload_n hx hb dX8_lays_0 rfl (lv_at hl 0 rfl) ?_
    refine lv_iload_n hx hb dX8_lays_1 rfl (lv_at hl 1 rfl) ?_
    obtain ⟨r2, hq1, hf⟩ := ob1_d hf
    refine zroV (q := (RX8, TX8, 37)) (As := [.int x1]) (rest := []) (r := r2) ⟨hx, hb, hml, hown, hts⟩ (kX8_isCell l dC dI cy h0 (ups (ups w0 0 (w0 0)) 9 (w0 9)) x1 r2 hq1) mw_685 mw_686 mw_900 mw_9 mw_687 hdX8_isCell rfl rfl ⟨Nat.le_of_ble_eq_true rfl, Nat.le_of_ble_eq_true rfl⟩ hP hK hG hS 0 rfl rfl [0, 1, 2, 3, 4, 5, 6, 7, 8, 9, 10, 11, 12, 13] rfl rfl hl.1 rfl (Nat.le_of_ble_eq_true rfl) dX8_lays_2 ⟨Nat.zero_le _, Nat.zero_le _⟩ ?_
    refine lv_if_ne (tgt := 14) hx hb dX8_lays_5 (by decide) (fun hc => ?_) (fun hc => ?_)
    · have hf := it_f hc hf
      refine lv_aload_n hx hb dX8_lays_14 rfl (lv_at hl 0 rfl) ?_
      refine lv_iload_n hx hb dX8_lays_15 rfl (lv_at hl 1 rfl) ?_
      obtain ⟨r4, hq3, hf⟩ := ob1_d hf
      refine zroV (q := (RX8, TX8, 37)) (As := [.int x1]) (rest := []) (r := r4) ⟨hx, hb, hml, hown, hts⟩ (kX8_bears l dC dI cy h0 (ups (ups w0 0 (w0 0)) 9 (w0 9)) x1 r4 hq3) mw_707 mw_708 mw_901 mw_9 mw_709 hdX8_bears rfl rfl ⟨Nat.le_of_ble_eq_true rfl, Nat.le_of_ble_eq_true rfl⟩ hP hK hG hS 0 rfl rfl [0, 1, 2, 3, 4, 5, 6, 7, 8, 9, 10, 11, 12, 13] rfl rfl hl.1 rfl (Nat.le_of_ble_eq_true rfl) dX8_lays_16 ⟨Nat.zero_le _, Nat.zero_le _⟩ ?_
      refine lv_if_ne (tgt := 29) hx hb dX8_lays_19 (by decide) (fun hc => ?_) (fun hc => ?_)
      · have hf := it_f hc hf
        refine lv_aload_n hx hb dX8_lays_29 rfl (lv_at hl 0 rfl) ?_
        refine lv_iload_n hx hb dX8_lays_30 rfl (lv_at hl 1 rfl) ?_
        obtain ⟨u6, hq5, hf⟩ := ob1_d hf
        refine zwvV (q := (RX8, TX8, 37)) (As := [.int x1]) (rest := []) (u := u6) (wn := (zW_8 cy h0 (ups (ups w0 0 u6) 9 (w0 9)))) ⟨hx, hb, hml, hown, hts⟩ (kX8_lay l dC dI cy h0 (ups (ups w0 0 (w0 0)) 9 (w0 9)) x1 H.size u6 hq5) mw_713 mw_714 mw_903 mw_9 mw_715 hdX8_lay rfl rfl ⟨Nat.le_of_ble_eq_true rfl, Nat.le_of_ble_eq_true rfl⟩ hP hK hG hS 0 rfl rfl hD hA [0, 1, 2, 3, 4, 5, 6, 7, 8, 9, 10, 11, 12, 13] [] [0, 1, 2, 3, 4, 5, 6, 7, 8, 9, 10, 11, 12, 13] rfl rfl rfl rfl (by decide) rfl rfl rfl hl.1 rfl (Nat.le_of_ble_eq_true rfl) dX8_lays_31 ⟨Nat.zero_le _, Nat.zero_le _⟩ (fun H locs hP hD hS => ?_)
        refine lv_aload_n hx hb dX8_lays_34 rfl (lv_at hl 0 rfl) ?_
        refine zget hx hb hts hown hK hP hin_8 0 rfl rfl 14 (by decide) mw_604 (v := .int (u6 14)) rfl dX8_lays_35 ?_
        exact zretI hx hb hr hlocks hP hK hD hS hf rfl dX8_lays_38
      · have hf := it_t hc hf
        refine lv_aload_n hx hb dX8_lays_22 rfl (lv_at hl 0 rfl) ?_
        refine lv_bipush (v := (-3 : Int32)) hx hb dX8_lays_23 (by decide) ?_
        obtain ⟨r8, u9, hq7, hf⟩ := ob2_d hf
        refine zwiV (q := (RX8, TX8, 37)) (As := [.int (-3 : Int32)]) (rest := []) (r := r8) (u := u9) (wn := (zW_8 cy h0 (ups (ups w0 0 (w0 0)) 9 u9))) ⟨hx, hb, hml, hown, hts⟩ (kX8_no l dC dI cy h0 (ups (ups w0 0 (w0 0)) 9 (w0 9)) (-3 : Int32) H.size (r8, u9) hq7) mw_668 mw_669 mw_898 mw_9 mw_670 hdX8_no rfl rfl ⟨Nat.le_of_ble_eq_true rfl, Nat.le_of_ble_eq_true rfl⟩ hP hK hG hS 0 rfl rfl hD hA [0, 1, 2, 3, 4, 5, 6, 7, 8, 9, 10, 11, 12, 13] [] [0, 1, 2, 3, 4, 5, 6, 7, 8, 9, 10, 11, 12, 13] rfl rfl rfl rfl (by decide) rfl rfl rfl hl.1 rfl (Nat.le_of_ble_eq_true rfl) dX8_lays_25 ⟨Nat.zero_le _, Nat.zero_le _⟩ (fun H locs hP hD hS => ?_)
        exact zretI hx hb hr hlocks hP hK hD hS hf rfl dX8_lays_28
    · have hf := it_t hc hf
      refine lv_aload_n hx hb dX8_lays_8 rfl (lv_at hl 0 rfl) ?_
      refine lv_iconst (v := (-1 : Int32)) hx hb dX8_lays_9 (by decide) ?_
      obtain ⟨r11, u12, hq10, hf⟩ := ob2_d hf
      refine zwiV (q := (RX8, TX8, 37)) (As := [.int (-1 : Int32)]) (rest := []) (r := r11) (u := u12) (wn := (zW_8 cy h0 (ups (ups w0 0 (w0 0)) 9 u12))) ⟨hx, hb, hml, hown, hts⟩ (kX8_no l dC dI cy h0 (ups (ups w0 0 (w0 0)) 9 (w0 9)) (-1 : Int32) H.size (r11, u12) hq10) mw_668 mw_669 mw_898 mw_9 mw_670 hdX8_no rfl rfl ⟨Nat.le_of_ble_eq_true rfl, Nat.le_of_ble_eq_true rfl⟩ hP hK hG hS 0 rfl rfl hD hA [0, 1, 2, 3, 4, 5, 6, 7, 8, 9, 10, 11, 12, 13] [] [0, 1, 2, 3, 4, 5, 6, 7, 8, 9, 10, 11, 12, 13] rfl rfl rfl rfl (by decide) rfl rfl rfl hl.1 rfl (Nat.le_of_ble_eq_true rfl) dX8_lays_10 ⟨Nat.zero_le _, Nat.zero_le _⟩ (fun H locs hP hD hS => ?_)
      exact zretI hx hb hr hlocks hP hK hD hS hf rfl dX8_lays_13
  exact kE s.heap [] hP hD hS
set_option maxHeartbeats 4000000 in
set_option maxRecDepth 100000 in
theorem kX8_ended (l : Launch) (dC : Nat → ClassId) (dI : Nat → Nat → Nat) (cy : ClassId) (h0 : Nat → Nat) (w0 : Nat → Nat → Int32) (z : Int32) (hf : fX8_ended w0 = some z) : Met l yX8_ended (wsM yX8_ended cX8_ended 1 (some .boolean)) ({ frames := 0, cells := 0, slots := 0, locals := 0 } : Room) (va_Pc [.ref (h0 0)] (pRO (dC, dI) vwCl [(cy, .int)] (zW_8 cy h0 w0))) (vp_Si (fun q => q = z)) 0 0 (fun _ => False) := by
  refine Met.ofW (cc := cX8_ended) (maxL := 1) (ret := (some .boolean)) (by decide) rfl ?_
  intro p e s m args below meth c s₁ B hml hv
  obtain ⟨ha, hP, hK, hG⟩ := hv
  have hx := B.exec
  have hb := B.bytes
  have hr := B.returns
  have hts : ∀ w ∈ wsA, w.before args s = true := fun w h => atoms_spec (ws := wsM yX8_ended cX8_ended 1 (some .boolean)) B.pre w (List.mem_cons_of_mem _ h)
  have hown : s.vm.findClass RX8 = some m.cls := findClass_of_methodNamed B.named
  have hlocks := B.notSynchronized
  have hS : va_S (fun _ => False) s.heap s.heap [] := va_S.rf
  obtain ⟨ls, hl, he⟩ := zent (m := m) (n := 1) (L := [(0, .ref (h0 0))]) ha (Nat.le_of_ble_eq_true rfl) rfl
  refine W.eq he ?_
  unfold fX8_ended at hf
  have kE : W p l e ({ frames := 0, cells := 0, slots := 0, locals := 0 } : Room) s m args below meth c s.heap [] 0 0 (MQ below (vp_Si (fun q => q = z)) args s 0 0 (fun _ => False)) (F0 m 0 ls []) := by
    refine lv_aload_n hx hb dX8_ended_0 rfl (lv_at hl 0 rfl) ?_
    refine zget hx hb hts hown hK hP hin_8 0 rfl rfl 22 (by decide) mw_612 (v := .int (w0 0 22)) rfl dX8_ended_1 ?_
    refine lv_iconst (v := (4 : Int32)) hx hb dX8_ended_4 (by decide) ?_
    refine lv_icmp_le (tgt := 12) hx hb dX8_ended_5 (by decide) (fun hc => ?_) (fun hc => ?_)
    · have hf := it_t hc hf
      refine lv_iconst (v := (0 : Int32)) hx hb dX8_ended_12 (by decide) ?_
      exact zretRZ hx hb hr hlocks rfl hf dX8_ended_13
    · have hf := it_f hc hf
      refine lv_iconst (v := (1 : Int32)) hx hb dX8_ended_8 (by decide) ?_
      refine lv_goto (tgt := 13) hx hb dX8_ended_9 (by decide) ?_
      exact zretRZ hx hb hr hlocks rfl hf dX8_ended_13
  exact kE
set_option maxHeartbeats 4000000 in
set_option maxRecDepth 100000 in
theorem kX8_lives (l : Launch) (dC : Nat → ClassId) (dI : Nat → Nat → Nat) (cy : ClassId) (h0 : Nat → Nat) (w0 : Nat → Nat → Int32) (z : Int32) (hf : fX8_lives w0 = some z) : Met l yX8_lives (wsM yX8_lives cX8_lives 2 (some .int)) ({ frames := 1, cells := 0, slots := 0, locals := 21 } : Room) (va_Pc [.ref (h0 0)] (pRO (dC, dI) vwCl [(cy, .int)] (zW_8 cy h0 w0))) (vp_Si (fun q => q = z)) 0 0 (fun _ => False) := by
  refine Met.ofW (cc := cX8_lives) (maxL := 2) (ret := (some .int)) (by decide) rfl ?_
  intro p e s m args below meth c s₁ B hml hv
  obtain ⟨ha, hP, hK, hG⟩ := hv
  have hx := B.exec
  have hb := B.bytes
  have hr := B.returns
  have hts : ∀ w ∈ wsA, w.before args s = true := fun w h => atoms_spec (ws := wsM yX8_lives cX8_lives 2 (some .int)) B.pre w (List.mem_cons_of_mem _ h)
  have hown : s.vm.findClass RX8 = some m.cls := findClass_of_methodNamed B.named
  have hlocks := B.notSynchronized
  have hS : va_S (fun _ => False) s.heap s.heap [] := va_S.rf
  have k61 : ∀ (t0 : Int32) (t1 : Int32) (t2 : Int32) (t3 : Int32) (ls : Array Slot), lv_has ls 2 [] → (fX8_lives_61 w0) t0 t1 t2 t3 = some z → W p l e ({ frames := 1, cells := 0, slots := 0, locals := 21 } : Room) s m args below meth c s.heap [] 0 0 (MQ below (vp_Si (fun q => q = z)) args s 0 0 (fun _ => False)) (F0 m 61 ls [.int t3, .int t2, .int t1, .int t0]) := by
    intro t0 t1 t2 t3 ls hl hf
    unfold fX8_lives_61 at hf
    refine lv_iadd hx hb dX8_lives_61 ?_
    refine lv_imul hx hb dX8_lives_62 ?_
    refine lv_bipush (v := (100 : Int32)) hx hb dX8_lives_63 (by decide) ?_
    refine lv_idiv hx hb dX8_lives_65 (by decide) ?_
    refine z_mmin hx hb hml hl.1 hts hown mw_729 (Nat.le_of_ble_eq_true rfl) (Nat.le_of_ble_eq_true rfl) (Nat.zero_le _) (Nat.zero_le _) dX8_lives_66 ?_
    exact zretR hx hb hr hlocks hf dX8_lives_69
  obtain ⟨ls, hl, he⟩ := zent (m := m) (n := 2) (L := [(0, .ref (h0 0))]) ha (Nat.le_of_ble_eq_true rfl) rfl
  refine W.eq he ?_
  unfold fX8_lives at hf
  have kE : W p l e ({ frames := 1, cells := 0, slots := 0, locals := 21 } : Room) s m args below meth c s.heap [] 0 0 (MQ below (vp_Si (fun q => q = z)) args s 0 0 (fun _ => False)) (F0 m 0 ls []) := by
    refine lv_aload_n hx hb dX8_lives_0 rfl (lv_at hl 0 rfl) ?_
    refine zget hx hb hts hown hK hP hin_8 0 rfl rfl 5 (by decide) mw_595 (v := .ref (h0 3)) rfl dX8_lives_1 ?_
    refine lv_iconst (v := (3 : Int32)) hx hb dX8_lives_4 (by decide) ?_
    refine va_iald hx hb hK hP 3 0 rfl rfl (vin_lit (by decide)) dX8_lives_5 ?_
    refine lv_istore_n (lv' := [(1, .int ((w0 3) ((3 : Int32)).toNatClampNeg)), (0, .ref (h0 0))]) hx hb dX8_lives_6 rfl hl (by decide) rfl (fun ls hl => ?_)
    refine lv_aload_n hx hb dX8_lives_7 rfl (lv_at hl 1 rfl) ?_
    refine zget hx hb hts hown hK hP hin_8 0 rfl rfl 22 (by decide) mw_612 (v := .int (w0 0 22)) rfl dX8_lives_8 ?_
    by_cases hsw5 : (w0 0 22) = (5 : Int32)
    · have hf := it_t hsw5 hf
      refine lv_tableIn (tgt := 36) (off := 25) hx hb dX8_lives_11 (by rw [hsw5]; decide) (by rw [hsw5]; decide) (by rw [hsw5]; rfl) (by decide) ?_
      refine lv_iload_n hx hb dX8_lives_36 rfl (lv_at hl 0 rfl) ?_
      refine lv_iload_n hx hb dX8_lives_37 rfl (lv_at hl 0 rfl) ?_
      refine lv_bipush (v := (20 : Int32)) hx hb dX8_lives_38 (by decide) ?_
      refine lv_bipush (v := (10 : Int32)) hx hb dX8_lives_40 (by decide) ?_
      refine lv_aload_n hx hb dX8_lives_42 rfl (lv_at hl 1 rfl) ?_
      refine zget hx hb hts hown hK hP hin_8 0 rfl rfl 23 (by decide) mw_613 (v := .int (w0 0 23)) rfl dX8_lives_43 ?_
      refine lv_imul hx hb dX8_lives_46 ?_
      refine lv_iadd hx hb dX8_lives_47 ?_
      refine lv_aload_n hx hb dX8_lives_48 rfl (lv_at hl 1 rfl) ?_
      refine zget hx hb hts hown hK hP hin_8 0 rfl rfl 24 (by decide) mw_614 (v := .int (w0 0 24)) rfl dX8_lives_49 ?_
      refine lv_if_eq (tgt := 59) hx hb dX8_lives_52 (by decide) (fun hc => ?_) (fun hc => ?_)
      · have hf := it_t hc hf
        refine lv_bipush (v := (30 : Int32)) hx hb dX8_lives_59 (by decide) ?_
        exact k61 ((w0 3) ((3 : Int32)).toNatClampNeg) ((w0 3) ((3 : Int32)).toNatClampNeg) ((20 : Int32) + ((10 : Int32) * (w0 0 23))) (30 : Int32) ls (lv_sub hl [] rfl) hf
      · have hf := it_f hc hf
        refine lv_iconst (v := (0 : Int32)) hx hb dX8_lives_55 (by decide) ?_
        refine lv_goto (tgt := 61) hx hb dX8_lives_56 (by decide) ?_
        exact k61 ((w0 3) ((3 : Int32)).toNatClampNeg) ((w0 3) ((3 : Int32)).toNatClampNeg) ((20 : Int32) + ((10 : Int32) * (w0 0 23))) (0 : Int32) ls (lv_sub hl [] rfl) hf
    · have hf := it_f hsw5 hf
      by_cases hsw6 : (w0 0 22) = (6 : Int32)
      · have hf := it_t hsw6 hf
        refine lv_tableIn (tgt := 70) (off := 59) hx hb dX8_lives_11 (by rw [hsw6]; decide) (by rw [hsw6]; decide) (by rw [hsw6]; rfl) (by decide) ?_
        refine lv_iload_n hx hb dX8_lives_70 rfl (lv_at hl 0 rfl) ?_
        refine lv_aload_n hx hb dX8_lives_71 rfl (lv_at hl 1 rfl) ?_
        refine zget hx hb hts hown hK hP hin_8 0 rfl rfl 24 (by decide) mw_614 (v := .int (w0 0 24)) rfl dX8_lives_72 ?_
        refine lv_if_eq (tgt := 83) hx hb dX8_lives_75 (by decide) (fun hc => ?_) (fun hc => ?_)
        · have hf := it_t hc hf
          refine lv_bipush (v := (40 : Int32)) hx hb dX8_lives_83 (by decide) ?_
          refine lv_imul hx hb dX8_lives_85 ?_
          refine lv_bipush (v := (100 : Int32)) hx hb dX8_lives_86 (by decide) ?_
          refine lv_idiv hx hb dX8_lives_88 (by decide) ?_
          exact zretR hx hb hr hlocks hf dX8_lives_89
        · have hf := it_f hc hf
          refine lv_bipush (v := (10 : Int32)) hx hb dX8_lives_78 (by decide) ?_
          refine lv_goto (tgt := 85) hx hb dX8_lives_80 (by decide) ?_
          refine lv_imul hx hb dX8_lives_85 ?_
          refine lv_bipush (v := (100 : Int32)) hx hb dX8_lives_86 (by decide) ?_
          refine lv_idiv hx hb dX8_lives_88 (by decide) ?_
          exact zretR hx hb hr hlocks hf dX8_lives_89
      · have hf := it_f hsw6 hf
        by_cases hsw7 : (w0 0 22) = (7 : Int32)
        · have hf := it_t hsw7 hf
          refine lv_tableIn (tgt := 90) (off := 79) hx hb dX8_lives_11 (by rw [hsw7]; decide) (by rw [hsw7]; decide) (by rw [hsw7]; rfl) (by decide) ?_
          refine lv_iconst (v := (0 : Int32)) hx hb dX8_lives_90 (by decide) ?_
          exact zretR hx hb hr hlocks hf dX8_lives_91
        · have hf := it_f hsw7 hf
          refine lv_tableOut (tgt := 92) hx hb dX8_lives_11 (tsw_out (fun n h1 h2 => ?_)) (by decide) ?_
          · rcases (show n = 5 ∨ n = 6 ∨ n = 7 by omega) with rfl | rfl | rfl
            · exact ti_ne hsw5 rfl
            · exact ti_ne hsw6 rfl
            · exact ti_ne hsw7 rfl
          · refine lv_iload_n hx hb dX8_lives_92 rfl (lv_at hl 0 rfl) ?_
            exact zretR hx hb hr hlocks hf dX8_lives_93
  exact kE
set_option maxHeartbeats 4000000 in
set_option maxRecDepth 100000 in
theorem kX8_now (l : Launch) (dC : Nat → ClassId) (dI : Nat → Nat → Nat) (cy : ClassId) (h0 : Nat → Nat) (w0 : Nat → Nat → Int32) (x1 : Int32) (sz : Nat) (z : Int32 × (Nat → Int32)) (hf : fX8_now w0 x1 = some z) : Met l yX8_now (wsM yX8_now cX8_now 2 (some .int)) ({ frames := 2, cells := 0, slots := 0, locals := 42 } : Room) (va_Pc [.ref (h0 0), .int x1] (pWR (dC, dI) vwCl [(cy, .int)] (zW_8 cy h0 w0) sz)) (va_Qi (fun (q : Int32) (v : (Nat → Int32)) => (q, v) = z) (fun v => aWR (dC, dI) vwCl [(cy, .int)] (va_A (zW_8 cy h0 w0) sz) (zW_8 cy h0 (ups w0 9 v))) (va_A (zW_8 cy h0 w0) sz)) 0 0 (va_A (zW_8 cy h0 w0) sz) := by
  refine Met.ofW (cc := cX8_now) (maxL := 2) (ret := (some .int)) (by decide) rfl ?_
  intro p e s m args below meth c s₁ B hml hv
  obtain ⟨ha, hsz, hP, hK, hD0, hG⟩ := hv
  have hx := B.exec
  have hb := B.bytes
  have hr := B.returns
  have hts : ∀ w ∈ wsA, w.before args s = true := fun w h => atoms_spec (ws := wsM yX8_now cX8_now 2 (some .int)) B.pre w (List.mem_cons_of_mem _ h)
  have hown : s.vm.findClass RX8 = some m.cls := findClass_of_methodNamed B.named
  have hlocks := B.notSynchronized
  subst hsz
  have hD := hD0.self (sz := s.heap.size)
  generalize hAe : va_A (zW_8 cy h0 w0) s.heap.size = A at hD hG ⊢
  have hA : ∀ q : Nat, s.heap.size ≤ q → A q := fun q h => by rw [← hAe]; exact Or.inr h
  have hS : va_S A s.heap s.heap [] := va_S.rf
  have hP : va_P (dC, dI) vwCl (zW_8 cy h0 (ups w0 9 (w0 9))) s.heap := hP
  have hD : va_D A (zW_8 cy h0 (ups w0 9 (w0 9))) := hD
  have k10 : ∀ (c0_9 : (Nat → Int32)) (H : Heap) (locs : List Loc) (ls : Array Slot), va_P (dC, dI) vwCl (zW_8 cy h0 (ups w0 9 c0_9)) H → va_D A (zW_8 cy h0 (ups w0 9 c0_9)) → va_S A s.heap H locs → lv_has ls 2 [(0, .ref (h0 0))] → (fX8_now_10 w0) c0_9 = some z → W p l e ({ frames := 2, cells := 0, slots := 0, locals := 42 } : Room) s m args below meth c H locs 0 0 (MQ below (va_Qi (fun (q : Int32) (v : (Nat → Int32)) => (q, v) = z) (fun v => aWR (dC, dI) vwCl [(cy, .int)] A (zW_8 cy h0 (ups w0 9 v))) A) args s 0 0 A) (F0 m 10 ls []) := by
    intro c0_9 H locs ls hP hD hS hl hf
    unfold fX8_now_10 at hf
    refine lv_aload_n hx hb dX8_now_10 rfl (lv_at hl 0 rfl) ?_
    refine lv_bipush (v := (-2 : Int32)) hx hb dX8_now_11 (by decide) ?_
    obtain ⟨r2, u3, hq1, hf⟩ := ob2_d hf
    refine zwiV (q := (RX8, TX8, 37)) (As := [.int (-2 : Int32)]) (rest := []) (r := r2) (u := u3) (wn := (zW_8 cy h0 (ups w0 9 u3))) ⟨hx, hb, hml, hown, hts⟩ (kX8_no l dC dI cy h0 (ups w0 9 c0_9) (-2 : Int32) H.size (r2, u3) hq1) mw_668 mw_669 mw_898 mw_9 mw_670 hdX8_no rfl rfl ⟨Nat.le_of_ble_eq_true rfl, Nat.le_of_ble_eq_true rfl⟩ hP hK hG hS 0 rfl rfl hD hA [0, 1, 2, 3, 4, 5, 6, 7, 8, 9, 10, 11, 12, 13] [] [0, 1, 2, 3, 4, 5, 6, 7, 8, 9, 10, 11, 12, 13] rfl rfl rfl rfl (by decide) rfl rfl rfl hl.1 rfl (Nat.le_of_ble_eq_true rfl) dX8_now_13 ⟨Nat.zero_le _, Nat.zero_le _⟩ (fun H locs hP hD hS => ?_)
    exact zretI hx hb hr hlocks hP hK hD hS hf rfl dX8_now_16
  obtain ⟨ls, hl, he⟩ := zent (m := m) (n := 2) (L := [(0, .ref (h0 0)), (1, .int x1)]) ha (Nat.le_of_ble_eq_true rfl) rfl
  refine W.eq he ?_
  unfold fX8_now at hf
  have kE : ∀ (H : Heap) (locs : List Loc), va_P (dC, dI) vwCl (zW_8 cy h0 (ups w0 9 (w0 9))) H → va_D A (zW_8 cy h0 (ups w0 9 (w0 9))) → va_S A s.heap H locs → W p l e ({ frames := 2, cells := 0, slots := 0, locals := 42 } : Room) s m args below meth c H locs 0 0 (MQ below (va_Qi (fun (q : Int32) (v : (Nat → Int32)) => (q, v) = z) (fun v => aWR (dC, dI) vwCl [(cy, .int)] A (zW_8 cy h0 (ups w0 9 v))) A) args s 0 0 A) (F0 m 0 ls []) := by
    intro H locs hP hD hS
    refine lv_iload_n hx hb dX8_now_0 rfl (lv_at hl 1 rfl) ?_
    refine lv_if_lt (tgt := 10) hx hb dX8_now_1 (by decide) (fun hc => ?_) (fun hc => ?_)
    · have hf := it_t hc hf
      exact k10 (w0 9) H locs ls hP hD hS (lv_sub hl [0] rfl) hf
    · have hf := it_f hc hf
      refine lv_iload_n hx hb dX8_now_4 rfl (lv_at hl 1 rfl) ?_
      refine lv_bipush (v := (13 : Int32)) hx hb dX8_now_5 (by decide) ?_
      refine lv_icmp_le (tgt := 17) hx hb dX8_now_7 (by decide) (fun hc => ?_) (fun hc => ?_)
      · have hf := it_t hc hf
        refine lv_aload_n hx hb dX8_now_17 rfl (lv_at hl 0 rfl) ?_
        refine zget hx hb hts hown hK hP hin_8 0 rfl rfl 12 (by decide) mw_602 (v := .int (w0 0 12)) rfl dX8_now_18 ?_
        refine lv_if_ne (tgt := 31) hx hb dX8_now_21 (by decide) (fun hc => ?_) (fun hc => ?_)
        · have hf := it_f hc hf
          refine lv_iload_n hx hb dX8_now_31 rfl (lv_at hl 1 rfl) ?_
          by_cases hsw0 : x1 = (0 : Int32)
          · have hf := it_t hsw0 hf
            refine lv_tableIn (tgt := 100) (off := 68) hx hb dX8_now_32 (by rw [hsw0]; decide) (by rw [hsw0]; decide) (by rw [hsw0]; rfl) (by decide) ?_
            refine lv_aload_n hx hb dX8_now_100 rfl (lv_at hl 0 rfl) ?_
            refine zget hx hb hts hown hK hP hin_8 0 rfl rfl 13 (by decide) mw_603 (v := .int (w0 0 13)) rfl dX8_now_101 ?_
            exact zretI hx hb hr hlocks hP hK hD hS hf rfl dX8_now_104
          · have hf := it_f hsw0 hf
            by_cases hsw1 : x1 = (1 : Int32)
            · have hf := it_t hsw1 hf
              refine lv_tableIn (tgt := 105) (off := 73) hx hb dX8_now_32 (by rw [hsw1]; decide) (by rw [hsw1]; decide) (by rw [hsw1]; rfl) (by decide) ?_
              refine lv_aload_n hx hb dX8_now_105 rfl (lv_at hl 0 rfl) ?_
              refine zget hx hb hts hown hK hP hin_8 0 rfl rfl 14 (by decide) mw_604 (v := .int (w0 0 14)) rfl dX8_now_106 ?_
              exact zretI hx hb hr hlocks hP hK hD hS hf rfl dX8_now_109
            · have hf := it_f hsw1 hf
              by_cases hsw2 : x1 = (2 : Int32)
              · have hf := it_t hsw2 hf
                refine lv_tableIn (tgt := 110) (off := 78) hx hb dX8_now_32 (by rw [hsw2]; decide) (by rw [hsw2]; decide) (by rw [hsw2]; rfl) (by decide) ?_
                refine lv_aload_n hx hb dX8_now_110 rfl (lv_at hl 0 rfl) ?_
                refine zget hx hb hts hown hK hP hin_8 0 rfl rfl 15 (by decide) mw_605 (v := .int (w0 0 15)) rfl dX8_now_111 ?_
                exact zretI hx hb hr hlocks hP hK hD hS hf rfl dX8_now_114
              · have hf := it_f hsw2 hf
                by_cases hsw3 : x1 = (3 : Int32)
                · have hf := it_t hsw3 hf
                  refine lv_tableIn (tgt := 115) (off := 83) hx hb dX8_now_32 (by rw [hsw3]; decide) (by rw [hsw3]; decide) (by rw [hsw3]; rfl) (by decide) ?_
                  refine lv_aload_n hx hb dX8_now_115 rfl (lv_at hl 0 rfl) ?_
                  refine zget hx hb hts hown hK hP hin_8 0 rfl rfl 16 (by decide) mw_606 (v := .int (w0 0 16)) rfl dX8_now_116 ?_
                  exact zretI hx hb hr hlocks hP hK hD hS hf rfl dX8_now_119
                · have hf := it_f hsw3 hf
                  by_cases hsw4 : x1 = (4 : Int32)
                  · have hf := it_t hsw4 hf
                    refine lv_tableIn (tgt := 120) (off := 88) hx hb dX8_now_32 (by rw [hsw4]; decide) (by rw [hsw4]; decide) (by rw [hsw4]; rfl) (by decide) ?_
                    refine lv_aload_n hx hb dX8_now_120 rfl (lv_at hl 0 rfl) ?_
                    refine zget hx hb hts hown hK hP hin_8 0 rfl rfl 17 (by decide) mw_607 (v := .int (w0 0 17)) rfl dX8_now_121 ?_
                    exact zretI hx hb hr hlocks hP hK hD hS hf rfl dX8_now_124
                  · have hf := it_f hsw4 hf
                    by_cases hsw5 : x1 = (5 : Int32)
                    · have hf := it_t hsw5 hf
                      refine lv_tableIn (tgt := 125) (off := 93) hx hb dX8_now_32 (by rw [hsw5]; decide) (by rw [hsw5]; decide) (by rw [hsw5]; rfl) (by decide) ?_
                      refine lv_aload_n hx hb dX8_now_125 rfl (lv_at hl 0 rfl) ?_
                      refine zget hx hb hts hown hK hP hin_8 0 rfl rfl 18 (by decide) mw_608 (v := .int (w0 0 18)) rfl dX8_now_126 ?_
                      exact zretI hx hb hr hlocks hP hK hD hS hf rfl dX8_now_129
                    · have hf := it_f hsw5 hf
                      by_cases hsw6 : x1 = (6 : Int32)
                      · have hf := it_t hsw6 hf
                        refine lv_tableIn (tgt := 130) (off := 98) hx hb dX8_now_32 (by rw [hsw6]; decide) (by rw [hsw6]; decide) (by rw [hsw6]; rfl) (by decide) ?_
                        refine lv_aload_n hx hb dX8_now_130 rfl (lv_at hl 0 rfl) ?_
                        refine zget hx hb hts hown hK hP hin_8 0 rfl rfl 19 (by decide) mw_609 (v := .int (w0 0 19)) rfl dX8_now_131 ?_
                        exact zretI hx hb hr hlocks hP hK hD hS hf rfl dX8_now_134
                      · have hf := it_f hsw6 hf
                        by_cases hsw7 : x1 = (7 : Int32)
                        · have hf := it_t hsw7 hf
                          refine lv_tableIn (tgt := 135) (off := 103) hx hb dX8_now_32 (by rw [hsw7]; decide) (by rw [hsw7]; decide) (by rw [hsw7]; rfl) (by decide) ?_
                          refine lv_aload_n hx hb dX8_now_135 rfl (lv_at hl 0 rfl) ?_
                          refine zget hx hb hts hown hK hP hin_8 0 rfl rfl 20 (by decide) mw_610 (v := .int (w0 0 20)) rfl dX8_now_136 ?_
                          exact zretI hx hb hr hlocks hP hK hD hS hf rfl dX8_now_139
                        · have hf := it_f hsw7 hf
                          by_cases hsw8 : x1 = (8 : Int32)
                          · have hf := it_t hsw8 hf
                            refine lv_tableIn (tgt := 140) (off := 108) hx hb dX8_now_32 (by rw [hsw8]; decide) (by rw [hsw8]; decide) (by rw [hsw8]; rfl) (by decide) ?_
                            refine lv_aload_n hx hb dX8_now_140 rfl (lv_at hl 0 rfl) ?_
                            refine zget hx hb hts hown hK hP hin_8 0 rfl rfl 21 (by decide) mw_611 (v := .int (w0 0 21)) rfl dX8_now_141 ?_
                            exact zretI hx hb hr hlocks hP hK hD hS hf rfl dX8_now_144
                          · have hf := it_f hsw8 hf
                            by_cases hsw9 : x1 = (9 : Int32)
                            · have hf := it_t hsw9 hf
                              refine lv_tableIn (tgt := 145) (off := 113) hx hb dX8_now_32 (by rw [hsw9]; decide) (by rw [hsw9]; decide) (by rw [hsw9]; rfl) (by decide) ?_
                              refine lv_aload_n hx hb dX8_now_145 rfl (lv_at hl 0 rfl) ?_
                              refine zget hx hb hts hown hK hP hin_8 0 rfl rfl 22 (by decide) mw_612 (v := .int (w0 0 22)) rfl dX8_now_146 ?_
                              exact zretI hx hb hr hlocks hP hK hD hS hf rfl dX8_now_149
                            · have hf := it_f hsw9 hf
                              by_cases hsw10 : x1 = (10 : Int32)
                              · have hf := it_t hsw10 hf
                                refine lv_tableIn (tgt := 150) (off := 118) hx hb dX8_now_32 (by rw [hsw10]; decide) (by rw [hsw10]; decide) (by rw [hsw10]; rfl) (by decide) ?_
                                refine lv_aload_n hx hb dX8_now_150 rfl (lv_at hl 0 rfl) ?_
                                refine lv_aload_n hx hb dX8_now_151 rfl (lv_at hl 0 rfl) ?_
                                refine zget hx hb hts hown hK hP hin_8 0 rfl rfl 21 (by decide) mw_611 (v := .int (w0 0 21)) rfl dX8_now_152 ?_
                                obtain ⟨r5, hq4, hf⟩ := ob1_d hf
                                refine zroV (q := (RX8, TX8, 37)) (As := [.int (w0 0 21)]) (rest := []) (r := r5) ⟨hx, hb, hml, hown, hts⟩ (kX8_wind_ l dC dI cy h0 (ups w0 9 (w0 9)) (w0 0 21) r5 hq4) mw_716 mw_717 mw_904 mw_9 mw_718 hdX8_wind_ rfl rfl ⟨Nat.le_of_ble_eq_true rfl, Nat.le_of_ble_eq_true rfl⟩ hP hK hG hS 0 rfl rfl [0, 1, 2, 3, 4, 5, 6, 7, 8, 9, 10, 11, 12, 13] rfl rfl hl.1 rfl (Nat.le_of_ble_eq_true rfl) dX8_now_155 ⟨Nat.zero_le _, Nat.zero_le _⟩ ?_
                                exact zretI hx hb hr hlocks hP hK hD hS hf rfl dX8_now_158
                              · have hf := it_f hsw10 hf
                                by_cases hsw11 : x1 = (11 : Int32)
                                · have hf := it_t hsw11 hf
                                  refine lv_tableIn (tgt := 159) (off := 127) hx hb dX8_now_32 (by rw [hsw11]; decide) (by rw [hsw11]; decide) (by rw [hsw11]; rfl) (by decide) ?_
                                  refine lv_aload_n hx hb dX8_now_159 rfl (lv_at hl 0 rfl) ?_
                                  refine lv_aload_n hx hb dX8_now_160 rfl (lv_at hl 0 rfl) ?_
                                  refine zget hx hb hts hown hK hP hin_8 0 rfl rfl 21 (by decide) mw_611 (v := .int (w0 0 21)) rfl dX8_now_161 ?_
                                  obtain ⟨r7, hq6, hf⟩ := ob1_d hf
                                  refine zroV (q := (RX8, TX8, 37)) (As := [.int (w0 0 21)]) (rest := []) (r := r7) ⟨hx, hb, hml, hown, hts⟩ (kX8_tide_ l dC dI cy h0 (ups w0 9 (w0 9)) (w0 0 21) r7 hq6) mw_723 mw_724 mw_905 mw_9 mw_725 hdX8_tide_ rfl rfl ⟨Nat.le_of_ble_eq_true rfl, Nat.le_of_ble_eq_true rfl⟩ hP hK hG hS 0 rfl rfl [0, 1, 2, 3, 4, 5, 6, 7, 8, 9, 10, 11, 12, 13] rfl rfl hl.1 rfl (Nat.le_of_ble_eq_true rfl) dX8_now_164 ⟨Nat.zero_le _, Nat.zero_le _⟩ ?_
                                  exact zretI hx hb hr hlocks hP hK hD hS hf rfl dX8_now_167
                                · have hf := it_f hsw11 hf
                                  by_cases hsw12 : x1 = (12 : Int32)
                                  · have hf := it_t hsw12 hf
                                    refine lv_tableIn (tgt := 168) (off := 136) hx hb dX8_now_32 (by rw [hsw12]; decide) (by rw [hsw12]; decide) (by rw [hsw12]; rfl) (by decide) ?_
                                    refine lv_aload_n hx hb dX8_now_168 rfl (lv_at hl 0 rfl) ?_
                                    refine zget hx hb hts hown hK hP hin_8 0 rfl rfl 5 (by decide) mw_595 (v := .ref (h0 3)) rfl dX8_now_169 ?_
                                    refine lv_iconst (v := (5 : Int32)) hx hb dX8_now_172 (by decide) ?_
                                    refine va_iald hx hb hK hP 3 0 rfl rfl (vin_lit (by decide)) dX8_now_173 ?_
                                    exact zretI hx hb hr hlocks hP hK hD hS hf rfl dX8_now_174
                                  · have hf := it_f hsw12 hf
                                    refine lv_tableOut (tgt := 175) hx hb dX8_now_32 (tsw_out (fun n h1 h2 => ?_)) (by decide) ?_
                                    · rcases (show n = 0 ∨ n = 1 ∨ n = 2 ∨ n = 3 ∨ n = 4 ∨ n = 5 ∨ n = 6 ∨ n = 7 ∨ n = 8 ∨ n = 9 ∨ n = 10 ∨ n = 11 ∨ n = 12 by omega) with rfl | rfl | rfl | rfl | rfl | rfl | rfl | rfl | rfl | rfl | rfl | rfl | rfl
                                      · exact ti_ne hsw0 rfl
                                      · exact ti_ne hsw1 rfl
                                      · exact ti_ne hsw2 rfl
                                      · exact ti_ne hsw3 rfl
                                      · exact ti_ne hsw4 rfl
                                      · exact ti_ne hsw5 rfl
                                      · exact ti_ne hsw6 rfl
                                      · exact ti_ne hsw7 rfl
                                      · exact ti_ne hsw8 rfl
                                      · exact ti_ne hsw9 rfl
                                      · exact ti_ne hsw10 rfl
                                      · exact ti_ne hsw11 rfl
                                      · exact ti_ne hsw12 rfl
                                    · refine lv_aload_n hx hb dX8_now_175 rfl (lv_at hl 0 rfl) ?_
                                      obtain ⟨r9, hq8, hf⟩ := ob1_d hf
                                      refine zroV (q := (RX8, TX8, 37)) (As := []) (rest := []) (r := r9) ⟨hx, hb, hml, hown, hts⟩ (kX8_lives l dC dI cy h0 (ups w0 9 (w0 9)) r9 hq8) mw_726 mw_727 mw_906 mw_9 mw_728 hdX8_lives rfl rfl ⟨Nat.le_of_ble_eq_true rfl, Nat.le_of_ble_eq_true rfl⟩ hP hK hG hS 0 rfl rfl [0, 1, 2, 3, 4, 5, 6, 7, 8, 9, 10, 11, 12, 13] rfl rfl hl.1 rfl (Nat.le_of_ble_eq_true rfl) dX8_now_176 ⟨Nat.zero_le _, Nat.zero_le _⟩ ?_
                                      exact zretI hx hb hr hlocks hP hK hD hS hf rfl dX8_now_179
        · have hf := it_t hc hf
          refine lv_aload_n hx hb dX8_now_24 rfl (lv_at hl 0 rfl) ?_
          refine lv_bipush (v := (-3 : Int32)) hx hb dX8_now_25 (by decide) ?_
          obtain ⟨r11, u12, hq10, hf⟩ := ob2_d hf
          refine zwiV (q := (RX8, TX8, 37)) (As := [.int (-3 : Int32)]) (rest := []) (r := r11) (u := u12) (wn := (zW_8 cy h0 (ups w0 9 u12))) ⟨hx, hb, hml, hown, hts⟩ (kX8_no l dC dI cy h0 (ups w0 9 (w0 9)) (-3 : Int32) H.size (r11, u12) hq10) mw_668 mw_669 mw_898 mw_9 mw_670 hdX8_no rfl rfl ⟨Nat.le_of_ble_eq_true rfl, Nat.le_of_ble_eq_true rfl⟩ hP hK hG hS 0 rfl rfl hD hA [0, 1, 2, 3, 4, 5, 6, 7, 8, 9, 10, 11, 12, 13] [] [0, 1, 2, 3, 4, 5, 6, 7, 8, 9, 10, 11, 12, 13] rfl rfl rfl rfl (by decide) rfl rfl rfl hl.1 rfl (Nat.le_of_ble_eq_true rfl) dX8_now_27 ⟨Nat.zero_le _, Nat.zero_le _⟩ (fun H locs hP hD hS => ?_)
          exact zretI hx hb hr hlocks hP hK hD hS hf rfl dX8_now_30
      · have hf := it_f hc hf
        exact k10 (w0 9) H locs ls hP hD hS (lv_sub hl [0] rfl) hf
  exact kE s.heap [] hP hD hS
set_option maxHeartbeats 4000000 in
set_option maxRecDepth 100000 in
theorem kX8_beside (l : Launch) (dC : Nat → ClassId) (dI : Nat → Nat → Nat) (cy : ClassId) (h0 : Nat → Nat) (w0 : Nat → Nat → Int32) (x1 : Int32) (x2 : Int32) (z : Int32) (hf : fX8_beside w0 x1 x2 = some z) : Met l yX8_beside (wsM yX8_beside cX8_beside 5 (some .int)) ({ frames := 0, cells := 0, slots := 0, locals := 0 } : Room) (va_Pc [.ref (h0 0), .int x1, .int x2] (pRO (dC, dI) vwCl [(cy, .int)] (zW_8 cy h0 w0))) (vp_Si (fun q => q = z)) 0 0 (fun _ => False) := by
  refine Met.ofW (cc := cX8_beside) (maxL := 5) (ret := (some .int)) (by decide) rfl ?_
  intro p e s m args below meth c s₁ B hml hv
  obtain ⟨ha, hP, hK, hG⟩ := hv
  have hx := B.exec
  have hb := B.bytes
  have hr := B.returns
  have hts : ∀ w ∈ wsA, w.before args s = true := fun w h => atoms_spec (ws := wsM yX8_beside cX8_beside 5 (some .int)) B.pre w (List.mem_cons_of_mem _ h)
  have hown : s.vm.findClass RX8 = some m.cls := findClass_of_methodNamed B.named
  have hlocks := B.notSynchronized
  have hS : va_S (fun _ => False) s.heap s.heap [] := va_S.rf
  have k68 : ∀ (x3 : Int32) (t0 : Int32) (t1 : Int32) (ls : Array Slot), lv_has ls 5 [(0, .ref (h0 0)), (3, .int x3)] → (fX8_beside_68 w0) x3 t0 t1 = some z → W p l e ({ frames := 0, cells := 0, slots := 0, locals := 0 } : Room) s m args below meth c s.heap [] 0 0 (MQ below (vp_Si (fun q => q = z)) args s 0 0 (fun _ => False)) (F0 m 68 ls [.int t1, .int t0]) := by
    intro x3 t0 t1 ls hl hf
    unfold fX8_beside_68 at hf
    refine lv_iadd hx hb dX8_beside_68 ?_
    refine lv_istore (lv' := [(4, .int (t0 + t1)), (0, .ref (h0 0)), (3, .int x3)]) hx hb dX8_beside_69 hl (by decide) rfl (fun ls hl => ?_)
    refine lv_iload_n hx hb dX8_beside_71 rfl (lv_at hl 2 rfl) ?_
    refine lv_if_lt (tgt := 97) hx hb dX8_beside_72 (by decide) (fun hc => ?_) (fun hc => ?_)
    · have hf := it_t hc hf
      refine lv_bipush (v := (-9 : Int32)) hx hb dX8_beside_97 (by decide) ?_
      refine lv_goto (tgt := 111) hx hb dX8_beside_99 (by decide) ?_
      exact zretR hx hb hr hlocks hf dX8_beside_111
    · have hf := it_f hc hf
      refine lv_iload_n hx hb dX8_beside_75 rfl (lv_at hl 2 rfl) ?_
      refine lv_aload_n hx hb dX8_beside_76 rfl (lv_at hl 1 rfl) ?_
      refine zget hx hb hts hown hK hP hin_8 0 rfl rfl 0 (by decide) mw_590 (v := .int (w0 0 0)) rfl dX8_beside_77 ?_
      refine lv_icmp_ge (tgt := 97) hx hb dX8_beside_80 (by decide) (fun hc => ?_) (fun hc => ?_)
      · have hf := it_t hc hf
        refine lv_bipush (v := (-9 : Int32)) hx hb dX8_beside_97 (by decide) ?_
        refine lv_goto (tgt := 111) hx hb dX8_beside_99 (by decide) ?_
        exact zretR hx hb hr hlocks hf dX8_beside_111
      · have hf := it_f hc hf
        refine lv_iload hx hb dX8_beside_83 (lv_at hl 0 rfl) ?_
        refine lv_if_lt (tgt := 97) hx hb dX8_beside_85 (by decide) (fun hc => ?_) (fun hc => ?_)
        · have hf := it_t hc hf
          refine lv_bipush (v := (-9 : Int32)) hx hb dX8_beside_97 (by decide) ?_
          refine lv_goto (tgt := 111) hx hb dX8_beside_99 (by decide) ?_
          exact zretR hx hb hr hlocks hf dX8_beside_111
        · have hf := it_f hc hf
          refine lv_iload hx hb dX8_beside_88 (lv_at hl 0 rfl) ?_
          refine lv_aload_n hx hb dX8_beside_90 rfl (lv_at hl 1 rfl) ?_
          refine zget hx hb hts hown hK hP hin_8 0 rfl rfl 1 (by decide) mw_591 (v := .int (w0 0 1)) rfl dX8_beside_91 ?_
          refine lv_icmp_lt (tgt := 102) hx hb dX8_beside_94 (by decide) (fun hc => ?_) (fun hc => ?_)
          · have hf := it_t hc hf
            refine lv_iload_n hx hb dX8_beside_102 rfl (lv_at hl 2 rfl) ?_
            refine lv_aload_n hx hb dX8_beside_103 rfl (lv_at hl 1 rfl) ?_
            refine zget hx hb hts hown hK hP hin_8 0 rfl rfl 1 (by decide) mw_591 (v := .int (w0 0 1)) rfl dX8_beside_104 ?_
            refine lv_imul hx hb dX8_beside_107 ?_
            refine lv_iload hx hb dX8_beside_108 (lv_at hl 0 rfl) ?_
            refine lv_iadd hx hb dX8_beside_110 ?_
            exact zretR hx hb hr hlocks hf dX8_beside_111
          · have hf := it_f hc hf
            refine lv_bipush (v := (-9 : Int32)) hx hb dX8_beside_97 (by decide) ?_
            refine lv_goto (tgt := 111) hx hb dX8_beside_99 (by decide) ?_
            exact zretR hx hb hr hlocks hf dX8_beside_111
  have k58 : ∀ (x2 : Int32) (x3 : Int32) (t0 : Int32) (ls : Array Slot), lv_has ls 5 [(0, .ref (h0 0)), (2, .int x2), (3, .int x3)] → (fX8_beside_58 w0) x2 x3 t0 = some z → W p l e ({ frames := 0, cells := 0, slots := 0, locals := 0 } : Room) s m args below meth c s.heap [] 0 0 (MQ below (vp_Si (fun q => q = z)) args s 0 0 (fun _ => False)) (F0 m 58 ls [.int t0]) := by
    intro x2 x3 t0 ls hl hf
    unfold fX8_beside_58 at hf
    refine lv_iload_n hx hb dX8_beside_58 rfl (lv_at hl 1 rfl) ?_
    refine lv_iconst (v := (4 : Int32)) hx hb dX8_beside_59 (by decide) ?_
    refine lv_icmp_le (tgt := 67) hx hb dX8_beside_60 (by decide) (fun hc => ?_) (fun hc => ?_)
    · have hf := it_t hc hf
      refine lv_iconst (v := (0 : Int32)) hx hb dX8_beside_67 (by decide) ?_
      exact k68 x3 t0 (0 : Int32) ls (lv_sub hl [0, 2] rfl) hf
    · have hf := it_f hc hf
      refine lv_iconst (v := (-1 : Int32)) hx hb dX8_beside_63 (by decide) ?_
      refine lv_goto (tgt := 68) hx hb dX8_beside_64 (by decide) ?_
      exact k68 x3 t0 (-1 : Int32) ls (lv_sub hl [0, 2] rfl) hf
  have k37 : ∀ (x1 : Int32) (x2 : Int32) (t0 : Int32) (t1 : Int32) (ls : Array Slot), lv_has ls 5 [(0, .ref (h0 0)), (1, .int x1), (2, .int x2)] → (fX8_beside_37 w0) x1 x2 t0 t1 = some z → W p l e ({ frames := 0, cells := 0, slots := 0, locals := 0 } : Room) s m args below meth c s.heap [] 0 0 (MQ below (vp_Si (fun q => q = z)) args s 0 0 (fun _ => False)) (F0 m 37 ls [.int t1, .int t0]) := by
    intro x1 x2 t0 t1 ls hl hf
    unfold fX8_beside_37 at hf
    refine lv_iadd hx hb dX8_beside_37 ?_
    refine lv_istore_n (lv' := [(3, .int (t0 + t1)), (0, .ref (h0 0)), (1, .int x1), (2, .int x2)]) hx hb dX8_beside_38 rfl hl (by decide) rfl (fun ls hl => ?_)
    refine lv_iload_n hx hb dX8_beside_39 rfl (lv_at hl 2 rfl) ?_
    refine lv_aload_n hx hb dX8_beside_40 rfl (lv_at hl 1 rfl) ?_
    refine zget hx hb hts hown hK hP hin_8 0 rfl rfl 1 (by decide) mw_591 (v := .int (w0 0 1)) rfl dX8_beside_41 ?_
    obtain ⟨hne2, hf⟩ := dv_d hf
    refine lv_zrem hx hb dX8_beside_44 hne2 ?_
    refine lv_iload_n hx hb dX8_beside_45 rfl (lv_at hl 3 rfl) ?_
    refine lv_if_le (tgt := 58) hx hb dX8_beside_46 (by decide) (fun hc => ?_) (fun hc => ?_)
    · have hf := it_t hc hf
      exact k58 x2 (t0 + t1) (zrem x1 (w0 0 1)) ls (lv_sub hl [1, 3, 0] rfl) hf
    · have hf := it_f hc hf
      refine lv_iload_n hx hb dX8_beside_49 rfl (lv_at hl 3 rfl) ?_
      refine lv_iconst (v := (4 : Int32)) hx hb dX8_beside_50 (by decide) ?_
      refine lv_icmp_ge (tgt := 58) hx hb dX8_beside_51 (by decide) (fun hc => ?_) (fun hc => ?_)
      · have hf := it_t hc hf
        exact k58 x2 (t0 + t1) (zrem x1 (w0 0 1)) ls (lv_sub hl [1, 3, 0] rfl) hf
      · have hf := it_f hc hf
        refine lv_iconst (v := (1 : Int32)) hx hb dX8_beside_54 (by decide) ?_
        refine lv_goto (tgt := 68) hx hb dX8_beside_55 (by decide) ?_
        exact k68 (t0 + t1) (zrem x1 (w0 0 1)) (1 : Int32) ls (lv_sub hl [1, 0] rfl) hf
  have k17 : ∀ (x1 : Int32) (x2 : Int32) (t0 : Int32) (ls : Array Slot), lv_has ls 5 [(0, .ref (h0 0)), (1, .int x1), (2, .int x2)] → (fX8_beside_17 w0) x1 x2 t0 = some z → W p l e ({ frames := 0, cells := 0, slots := 0, locals := 0 } : Room) s m args below meth c s.heap [] 0 0 (MQ below (vp_Si (fun q => q = z)) args s 0 0 (fun _ => False)) (F0 m 17 ls [.int t0]) := by
    intro x1 x2 t0 ls hl hf
    unfold fX8_beside_17 at hf
    refine lv_iconst (v := (-1 : Int32)) hx hb dX8_beside_17 (by decide) ?_
    refine lv_goto (tgt := 37) hx hb dX8_beside_18 (by decide) ?_
    exact k37 x1 x2 t0 (-1 : Int32) ls (lv_sub hl [0, 1, 2] rfl) hf
  have k36 : ∀ (x1 : Int32) (x2 : Int32) (t0 : Int32) (ls : Array Slot), lv_has ls 5 [(0, .ref (h0 0)), (1, .int x1), (2, .int x2)] → (fX8_beside_36 w0) x1 x2 t0 = some z → W p l e ({ frames := 0, cells := 0, slots := 0, locals := 0 } : Room) s m args below meth c s.heap [] 0 0 (MQ below (vp_Si (fun q => q = z)) args s 0 0 (fun _ => False)) (F0 m 36 ls [.int t0]) := by
    intro x1 x2 t0 ls hl hf
    unfold fX8_beside_36 at hf
    refine lv_iconst (v := (0 : Int32)) hx hb dX8_beside_36 (by decide) ?_
    exact k37 x1 x2 t0 (0 : Int32) ls (lv_sub hl [0, 1, 2] rfl) hf
  obtain ⟨ls, hl, he⟩ := zent (m := m) (n := 5) (L := [(0, .ref (h0 0)), (1, .int x1), (2, .int x2)]) ha (Nat.le_of_ble_eq_true rfl) rfl
  refine W.eq he ?_
  unfold fX8_beside at hf
  have kE : W p l e ({ frames := 0, cells := 0, slots := 0, locals := 0 } : Room) s m args below meth c s.heap [] 0 0 (MQ below (vp_Si (fun q => q = z)) args s 0 0 (fun _ => False)) (F0 m 0 ls []) := by
    refine lv_iload_n hx hb dX8_beside_0 rfl (lv_at hl 1 rfl) ?_
    refine lv_aload_n hx hb dX8_beside_1 rfl (lv_at hl 0 rfl) ?_
    refine zget hx hb hts hown hK hP hin_8 0 rfl rfl 1 (by decide) mw_591 (v := .int (w0 0 1)) rfl dX8_beside_2 ?_
    obtain ⟨hne1, hf⟩ := dv_d hf
    refine lv_idiv hx hb dX8_beside_5 hne1 ?_
    refine lv_iload_n hx hb dX8_beside_6 rfl (lv_at hl 2 rfl) ?_
    refine lv_bipush (v := (7 : Int32)) hx hb dX8_beside_7 (by decide) ?_
    refine lv_icmp_eq (tgt := 17) hx hb dX8_beside_9 (by decide) (fun hc => ?_) (fun hc => ?_)
    · have hf := it_t hc hf
      exact k17 x1 x2 (x1 / (w0 0 1)) ls (lv_sub hl [0, 1, 2] rfl) hf
    · have hf := it_f hc hf
      refine lv_iload_n hx hb dX8_beside_12 rfl (lv_at hl 2 rfl) ?_
      refine lv_iconst (v := (2 : Int32)) hx hb dX8_beside_13 (by decide) ?_
      refine lv_icmp_ge (tgt := 21) hx hb dX8_beside_14 (by decide) (fun hc => ?_) (fun hc => ?_)
      · have hf := it_t hc hf
        refine lv_iload_n hx hb dX8_beside_21 rfl (lv_at hl 2 rfl) ?_
        refine lv_iconst (v := (2 : Int32)) hx hb dX8_beside_22 (by decide) ?_
        refine lv_icmp_le (tgt := 36) hx hb dX8_beside_23 (by decide) (fun hc => ?_) (fun hc => ?_)
        · have hf := it_t hc hf
          exact k36 x1 x2 (x1 / (w0 0 1)) ls (lv_sub hl [0, 1, 2] rfl) hf
        · have hf := it_f hc hf
          refine lv_iload_n hx hb dX8_beside_26 rfl (lv_at hl 2 rfl) ?_
          refine lv_bipush (v := (6 : Int32)) hx hb dX8_beside_27 (by decide) ?_
          refine lv_icmp_ge (tgt := 36) hx hb dX8_beside_29 (by decide) (fun hc => ?_) (fun hc => ?_)
          · have hf := it_t hc hf
            exact k36 x1 x2 (x1 / (w0 0 1)) ls (lv_sub hl [0, 1, 2] rfl) hf
          · have hf := it_f hc hf
            refine lv_iconst (v := (1 : Int32)) hx hb dX8_beside_32 (by decide) ?_
            refine lv_goto (tgt := 37) hx hb dX8_beside_33 (by decide) ?_
            exact k37 x1 x2 (x1 / (w0 0 1)) (1 : Int32) ls (lv_sub hl [0, 1, 2] rfl) hf
      · have hf := it_f hc hf
        exact k17 x1 x2 (x1 / (w0 0 1)) ls (lv_sub hl [0, 1, 2] rfl) hf
  exact kE
set_option maxHeartbeats 4000000 in
set_option maxRecDepth 100000 in
theorem kX8_end (l : Launch) (dC : Nat → ClassId) (dI : Nat → Nat → Nat) (cy : ClassId) (h0 : Nat → Nat) (w0 : Nat → Nat → Int32) (x1 : Int32) (sz : Nat) (z : (Nat → Int32)) (hf : fX8_end w0 x1 = some z) : Met l yX8_end (wsM yX8_end cX8_end 2 none) ({ frames := 1, cells := 0, slots := 0, locals := 24 } : Room) (va_Pc [.ref (h0 0), .int x1] (pWR (dC, dI) vwCl [(cy, .int)] (zW_8 cy h0 w0) sz)) (va_Qv (fun (v : (Nat → Int32)) => v = z) (fun v => aWR (dC, dI) vwCl [(cy, .int)] (va_A (zW_8 cy h0 w0) sz) (zW_8 cy h0 (ups w0 0 v))) (va_A (zW_8 cy h0 w0) sz)) 0 0 (va_A (zW_8 cy h0 w0) sz) := by
  refine Met.ofW (cc := cX8_end) (maxL := 2) (ret := none) (by decide) rfl ?_
  intro p e s m args below meth c s₁ B hml hv
  obtain ⟨ha, hsz, hP, hK, hD0, hG⟩ := hv
  have hx := B.exec
  have hb := B.bytes
  have hr := B.returns
  have hts : ∀ w ∈ wsA, w.before args s = true := fun w h => atoms_spec (ws := wsM yX8_end cX8_end 2 none) B.pre w (List.mem_cons_of_mem _ h)
  have hown : s.vm.findClass RX8 = some m.cls := findClass_of_methodNamed B.named
  have hlocks := B.notSynchronized
  subst hsz
  have hD := hD0.self (sz := s.heap.size)
  generalize hAe : va_A (zW_8 cy h0 w0) s.heap.size = A at hD hG ⊢
  have hA : ∀ q : Nat, s.heap.size ≤ q → A q := fun q h => by rw [← hAe]; exact Or.inr h
  have hS : va_S A s.heap s.heap [] := va_S.rf
  have hP : va_P (dC, dI) vwCl (zW_8 cy h0 (ups w0 0 (w0 0))) s.heap := hP
  have hD : va_D A (zW_8 cy h0 (ups w0 0 (w0 0))) := hD
  have k37 : ∀ (c0_0 : (Nat → Int32)) (t1 : Int32) (H : Heap) (locs : List Loc) (ls : Array Slot), va_P (dC, dI) vwCl (zW_8 cy h0 (ups w0 0 c0_0)) H → va_D A (zW_8 cy h0 (ups w0 0 c0_0)) → va_S A s.heap H locs → lv_has ls 2 [] → (fX8_end_37 w0) c0_0 t1 = some z → W p l e ({ frames := 1, cells := 0, slots := 0, locals := 24 } : Room) s m args below meth c H locs 0 0 (MQ below (va_Qv (fun (v : (Nat → Int32)) => v = z) (fun v => aWR (dC, dI) vwCl [(cy, .int)] A (zW_8 cy h0 (ups w0 0 v))) A) args s 0 0 A) (F0 m 37 ls [.int t1, .ref (h0 0)]) := by
    intro c0_0 t1 H locs ls hP hD hS hl hf
    unfold fX8_end_37 at hf
    obtain ⟨hz3, hf⟩ := gz_d hf
    refine zput hx hb hts hown hK hP hD hS hin_8 tyX8 tyX8_ok nmX8 0 rfl rfl 24 (by decide) mw_614 rfl (v := .int t1) (gz_n hz3) (gz_f hz3) (Nat.le_of_ble_eq_true rfl) (wn := (zW_8 cy h0 (ups w0 0 (ups c0_0 24 t1)))) rfl dX8_end_37 (fun H locs hP hD hS => ?_)
    exact zretV hx hb hr hlocks hP hK hD hS hf rfl dX8_end_40
  obtain ⟨ls, hl, he⟩ := zent (m := m) (n := 2) (L := [(0, .ref (h0 0)), (1, .int x1)]) ha (Nat.le_of_ble_eq_true rfl) rfl
  refine W.eq he ?_
  unfold fX8_end at hf
  have kE : ∀ (H : Heap) (locs : List Loc), va_P (dC, dI) vwCl (zW_8 cy h0 (ups w0 0 (w0 0))) H → va_D A (zW_8 cy h0 (ups w0 0 (w0 0))) → va_S A s.heap H locs → W p l e ({ frames := 1, cells := 0, slots := 0, locals := 24 } : Room) s m args below meth c H locs 0 0 (MQ below (va_Qv (fun (v : (Nat → Int32)) => v = z) (fun v => aWR (dC, dI) vwCl [(cy, .int)] A (zW_8 cy h0 (ups w0 0 v))) A) args s 0 0 A) (F0 m 0 ls []) := by
    intro H locs hP hD hS
    refine lv_aload_n hx hb dX8_end_0 rfl (lv_at hl 0 rfl) ?_
    refine lv_iload_n hx hb dX8_end_1 rfl (lv_at hl 1 rfl) ?_
    refine zput hx hb hts hown hK hP hD hS hin_8 tyX8 tyX8_ok nmX8 0 rfl rfl 22 (by decide) mw_612 rfl (v := .int x1) rfl rfl (Nat.le_of_ble_eq_true rfl) (wn := (zW_8 cy h0 (ups w0 0 (ups (w0 0) 22 x1)))) rfl dX8_end_2 (fun H locs hP hD hS => ?_)
    refine lv_aload_n hx hb dX8_end_5 rfl (lv_at hl 0 rfl) ?_
    refine lv_aload_n hx hb dX8_end_6 rfl (lv_at hl 0 rfl) ?_
    refine lv_aload_n hx hb dX8_end_7 rfl (lv_at hl 0 rfl) ?_
    refine zget hx hb hts hown hK hP hin_8 0 rfl rfl 21 (by decide) mw_611 (v := .int (w0 0 21)) rfl dX8_end_8 ?_
    obtain ⟨r2, hq1, hf⟩ := ob1_d hf
    refine zroV (q := (RX8, TX8, 37)) (As := [.int (w0 0 21)]) (rest := [.ref (h0 0)]) (r := r2) ⟨hx, hb, hml, hown, hts⟩ (kX8_tide_ l dC dI cy h0 (ups w0 0 (ups (w0 0) 22 x1)) (w0 0 21) r2 hq1) mw_723 mw_724 mw_905 mw_9 mw_725 hdX8_tide_ rfl rfl ⟨Nat.le_of_ble_eq_true rfl, Nat.le_of_ble_eq_true rfl⟩ hP hK hG hS 0 rfl rfl [0, 1, 2, 3, 4, 5, 6, 7, 8, 9, 10, 11, 12, 13] rfl rfl hl.1 rfl (Nat.le_of_ble_eq_true rfl) dX8_end_11 ⟨Nat.zero_le _, Nat.zero_le _⟩ ?_
    refine zput hx hb hts hown hK hP hD hS hin_8 tyX8 tyX8_ok nmX8 0 rfl rfl 23 (by decide) mw_613 rfl (v := .int r2) rfl rfl (Nat.le_of_ble_eq_true rfl) (wn := (zW_8 cy h0 (ups w0 0 (ups (ups (w0 0) 22 x1) 23 r2)))) rfl dX8_end_14 (fun H locs hP hD hS => ?_)
    refine lv_aload_n hx hb dX8_end_17 rfl (lv_at hl 0 rfl) ?_
    refine lv_aload_n hx hb dX8_end_18 rfl (lv_at hl 0 rfl) ?_
    refine zget hx hb hts hown hK hP hin_8 0 rfl rfl 21 (by decide) mw_611 (v := .int (w0 0 21)) rfl dX8_end_19 ?_
    refine lv_aload_n hx hb dX8_end_22 rfl (lv_at hl 0 rfl) ?_
    refine zget hx hb hts hown hK hP hin_8 0 rfl rfl 5 (by decide) mw_595 (v := .ref (h0 3)) rfl dX8_end_23 ?_
    refine lv_bipush (v := (6 : Int32)) hx hb dX8_end_26 (by decide) ?_
    refine va_iald hx hb hK hP 3 0 rfl rfl (vin_lit (by decide)) dX8_end_28 ?_
    refine lv_icmp_lt (tgt := 36) hx hb dX8_end_29 (by decide) (fun hc => ?_) (fun hc => ?_)
    · have hf := it_t hc hf
      refine lv_iconst (v := (0 : Int32)) hx hb dX8_end_36 (by decide) ?_
      exact k37 (ups (ups (w0 0) 22 x1) 23 r2) (0 : Int32) H locs ls hP hD hS (lv_sub hl [] rfl) hf
    · have hf := it_f hc hf
      refine lv_iconst (v := (1 : Int32)) hx hb dX8_end_32 (by decide) ?_
      refine lv_goto (tgt := 37) hx hb dX8_end_33 (by decide) ?_
      exact k37 (ups (ups (w0 0) 22 x1) 23 r2) (1 : Int32) H locs ls hP hD hS (lv_sub hl [] rfl) hf
  exact kE s.heap [] hP hD hS
set_option maxHeartbeats 4000000 in
set_option maxRecDepth 100000 in
theorem kX8_into (l : Launch) (dC : Nat → ClassId) (dI : Nat → Nat → Nat) (cy : ClassId) (h0 : Nat → Nat) (w0 : Nat → Nat → Int32) (x1 : Int32) (sz : Nat) (z : (Nat → Int32)) (hf : fX8_into w0 x1 = some z) : Met l yX8_into (wsM yX8_into cX8_into 2 none) ({ frames := 2, cells := 0, slots := 0, locals := 45 } : Room) (va_Pc [.ref (h0 0), .int x1] (pWR (dC, dI) vwCl [(cy, .int)] (zW_8 cy h0 w0) sz)) (va_Qv (fun (v : (Nat → Int32)) => v = z) (fun v => aWR (dC, dI) vwCl [(cy, .int)] (va_A (zW_8 cy h0 w0) sz) (zW_8 cy h0 (ups w0 0 v))) (va_A (zW_8 cy h0 w0) sz)) 0 0 (va_A (zW_8 cy h0 w0) sz) := by
  refine Met.ofW (cc := cX8_into) (maxL := 2) (ret := none) (by decide) rfl ?_
  intro p e s m args below meth c s₁ B hml hv
  obtain ⟨ha, hsz, hP, hK, hD0, hG⟩ := hv
  have hx := B.exec
  have hb := B.bytes
  have hr := B.returns
  have hts : ∀ w ∈ wsA, w.before args s = true := fun w h => atoms_spec (ws := wsM yX8_into cX8_into 2 none) B.pre w (List.mem_cons_of_mem _ h)
  have hown : s.vm.findClass RX8 = some m.cls := findClass_of_methodNamed B.named
  have hlocks := B.notSynchronized
  subst hsz
  have hD := hD0.self (sz := s.heap.size)
  generalize hAe : va_A (zW_8 cy h0 w0) s.heap.size = A at hD hG ⊢
  have hA : ∀ q : Nat, s.heap.size ≤ q → A q := fun q h => by rw [← hAe]; exact Or.inr h
  have hS : va_S A s.heap s.heap [] := va_S.rf
  have hP : va_P (dC, dI) vwCl (zW_8 cy h0 (ups w0 0 (w0 0))) s.heap := hP
  have hD : va_D A (zW_8 cy h0 (ups w0 0 (w0 0))) := hD
  obtain ⟨ls, hl, he⟩ := zent (m := m) (n := 2) (L := [(0, .ref (h0 0)), (1, .int x1)]) ha (Nat.le_of_ble_eq_true rfl) rfl
  refine W.eq he ?_
  unfold fX8_into at hf
  have kE : ∀ (H : Heap) (locs : List Loc), va_P (dC, dI) vwCl (zW_8 cy h0 (ups w0 0 (w0 0))) H → va_D A (zW_8 cy h0 (ups w0 0 (w0 0))) → va_S A s.heap H locs → W p l e ({ frames := 2, cells := 0, slots := 0, locals := 45 } : Room) s m args below meth c H locs 0 0 (MQ below (va_Qv (fun (v : (Nat → Int32)) => v = z) (fun v => aWR (dC, dI) vwCl [(cy, .int)] A (zW_8 cy h0 (ups w0 0 v))) A) args s 0 0 A) (F0 m 0 ls []) := by
    intro H locs hP hD hS
    refine lv_aload_n hx hb dX8_into_0 rfl (lv_at hl 0 rfl) ?_
    refine lv_aload_n hx hb dX8_into_1 rfl (lv_at hl 0 rfl) ?_
    refine lv_aload_n hx hb dX8_into_2 rfl (lv_at hl 0 rfl) ?_
    refine zget hx hb hts hown hK hP hin_8 0 rfl rfl 13 (by decide) mw_603 (v := .int (w0 0 13)) rfl dX8_into_3 ?_
    refine lv_iload_n hx hb dX8_into_6 rfl (lv_at hl 1 rfl) ?_
    obtain ⟨r2, hq1, hf⟩ := ob1_d hf
    refine zroV (q := (RX8, TX8, 37)) (As := [.int (w0 0 13), .int x1]) (rest := [.ref (h0 0)]) (r := r2) ⟨hx, hb, hml, hown, hts⟩ (kX8_beside l dC dI cy h0 (ups w0 0 (w0 0)) (w0 0 13) x1 r2 hq1) mw_743 mw_744 mw_910 mw_9 mw_745 hdX8_beside rfl rfl ⟨Nat.le_of_ble_eq_true rfl, Nat.le_of_ble_eq_true rfl⟩ hP hK hG hS 0 rfl rfl [0, 1, 2, 3, 4, 5, 6, 7, 8, 9, 10, 11, 12, 13] rfl rfl hl.1 rfl (Nat.le_of_ble_eq_true rfl) dX8_into_7 ⟨Nat.zero_le _, Nat.zero_le _⟩ ?_
    refine zput hx hb hts hown hK hP hD hS hin_8 tyX8 tyX8_ok nmX8 0 rfl rfl 13 (by decide) mw_603 rfl (v := .int r2) rfl rfl (Nat.le_of_ble_eq_true rfl) (wn := (zW_8 cy h0 (ups w0 0 (ups (w0 0) 13 r2)))) rfl dX8_into_10 (fun H locs hP hD hS => ?_)
    refine lv_aload_n hx hb dX8_into_13 rfl (lv_at hl 0 rfl) ?_
    refine zget hx hb hts hown hK hP hin_8 0 rfl rfl 13 (by decide) mw_603 (v := .int r2) rfl dX8_into_14 ?_
    refine lv_if_ge (tgt := 29) hx hb dX8_into_17 (by decide) (fun hc => ?_) (fun hc => ?_)
    · have hf := it_t hc hf
      refine lv_aload_n hx hb dX8_into_29 rfl (lv_at hl 0 rfl) ?_
      refine zget hx hb hts hown hK hP hin_8 0 rfl rfl 2 (by decide) mw_592 (v := .ref (h0 1)) rfl dX8_into_30 ?_
      refine lv_aload_n hx hb dX8_into_33 rfl (lv_at hl 0 rfl) ?_
      refine zget hx hb hts hown hK hP hin_8 0 rfl rfl 13 (by decide) mw_603 (v := .int r2) rfl dX8_into_34 ?_
      obtain ⟨hin3, hf⟩ := gd_d hf
      refine va_iald hx hb hK hP 1 0 rfl rfl hin3 dX8_into_37 ?_
      refine lv_if_ne (tgt := 50) hx hb dX8_into_38 (by decide) (fun hc => ?_) (fun hc => ?_)
      · have hf := it_f hc hf
        refine lv_aload_n hx hb dX8_into_50 rfl (lv_at hl 0 rfl) ?_
        refine zget hx hb hts hown hK hP hin_8 0 rfl rfl 2 (by decide) mw_592 (v := .ref (h0 1)) rfl dX8_into_51 ?_
        refine lv_aload_n hx hb dX8_into_54 rfl (lv_at hl 0 rfl) ?_
        refine zget hx hb hts hown hK hP hin_8 0 rfl rfl 13 (by decide) mw_603 (v := .int r2) rfl dX8_into_55 ?_
        obtain ⟨hin4, hf⟩ := gd_d hf
        refine va_iald hx hb hK hP 1 0 rfl rfl hin4 dX8_into_58 ?_
        refine lv_bipush (v := (30 : Int32)) hx hb dX8_into_59 (by decide) ?_
        refine lv_icmp_ne (tgt := 72) hx hb dX8_into_61 (by decide) (fun hc => ?_) (fun hc => ?_)
        · have hf := it_f hc hf
          refine lv_aload_n hx hb dX8_into_72 rfl (lv_at hl 0 rfl) ?_
          refine zget hx hb hts hown hK hP hin_8 0 rfl rfl 2 (by decide) mw_592 (v := .ref (h0 1)) rfl dX8_into_73 ?_
          refine lv_aload_n hx hb dX8_into_76 rfl (lv_at hl 0 rfl) ?_
          refine zget hx hb hts hown hK hP hin_8 0 rfl rfl 13 (by decide) mw_603 (v := .int r2) rfl dX8_into_77 ?_
          obtain ⟨hin5, hf⟩ := gd_d hf
          refine va_iald hx hb hK hP 1 0 rfl rfl hin5 dX8_into_80 ?_
          refine lv_aload_n hx hb dX8_into_81 rfl (lv_at hl 0 rfl) ?_
          refine lv_aload_n hx hb dX8_into_82 rfl (lv_at hl 0 rfl) ?_
          refine zget hx hb hts hown hK hP hin_8 0 rfl rfl 21 (by decide) mw_611 (v := .int (w0 0 21)) rfl dX8_into_83 ?_
          obtain ⟨r7, hq6, hf⟩ := ob1_d hf
          refine zroV (q := (RX8, TX8, 37)) (As := [.int (w0 0 21)]) (rest := [.int ((w0 1) (r2).toNatClampNeg)]) (r := r7) ⟨hx, hb, hml, hown, hts⟩ (kX8_tide_ l dC dI cy h0 (ups w0 0 (ups (w0 0) 13 r2)) (w0 0 21) r7 hq6) mw_723 mw_724 mw_905 mw_9 mw_725 hdX8_tide_ rfl rfl ⟨Nat.le_of_ble_eq_true rfl, Nat.le_of_ble_eq_true rfl⟩ hP hK hG hS 0 rfl rfl [0, 1, 2, 3, 4, 5, 6, 7, 8, 9, 10, 11, 12, 13] rfl rfl hl.1 rfl (Nat.le_of_ble_eq_true rfl) dX8_into_86 ⟨Nat.zero_le _, Nat.zero_le _⟩ ?_
          refine lv_iadd hx hb dX8_into_89 ?_
          refine lv_aload_n hx hb dX8_into_90 rfl (lv_at hl 0 rfl) ?_
          refine zget hx hb hts hown hK hP hin_8 0 rfl rfl 5 (by decide) mw_595 (v := .ref (h0 3)) rfl dX8_into_91 ?_
          refine lv_iconst (v := (1 : Int32)) hx hb dX8_into_94 (by decide) ?_
          refine va_iald hx hb hK hP 3 0 rfl rfl (vin_lit (by decide)) dX8_into_95 ?_
          refine lv_icmp_ge (tgt := 105) hx hb dX8_into_96 (by decide) (fun hc => ?_) (fun hc => ?_)
          · have hf := it_t hc hf
            exact zretV hx hb hr hlocks hP hK hD hS hf rfl dX8_into_105
          · have hf := it_f hc hf
            refine lv_aload_n hx hb dX8_into_99 rfl (lv_at hl 0 rfl) ?_
            refine lv_bipush (v := (6 : Int32)) hx hb dX8_into_100 (by decide) ?_
            obtain ⟨u9, hq8, hf⟩ := ob1_d hf
            refine zwvV (q := (RX8, TX8, 37)) (As := [.int (6 : Int32)]) (rest := []) (u := u9) (wn := (zW_8 cy h0 (ups w0 0 u9))) ⟨hx, hb, hml, hown, hts⟩ (kX8_end l dC dI cy h0 (ups w0 0 (ups (w0 0) 13 r2)) (6 : Int32) H.size u9 hq8) mw_746 mw_747 mw_911 mw_9 mw_748 hdX8_end rfl rfl ⟨Nat.le_of_ble_eq_true rfl, Nat.le_of_ble_eq_true rfl⟩ hP hK hG hS 0 rfl rfl hD hA [0, 1, 2, 3, 4, 5, 6, 7, 8, 9, 10, 11, 12, 13] [] [0, 1, 2, 3, 4, 5, 6, 7, 8, 9, 10, 11, 12, 13] rfl rfl rfl rfl (by decide) rfl rfl rfl hl.1 rfl (Nat.le_of_ble_eq_true rfl) dX8_into_102 ⟨Nat.zero_le _, Nat.zero_le _⟩ (fun H locs hP hD hS => ?_)
            exact zretV hx hb hr hlocks hP hK hD hS hf rfl dX8_into_105
        · have hf := it_t hc hf
          refine lv_aload_n hx hb dX8_into_64 rfl (lv_at hl 0 rfl) ?_
          refine lv_iconst (v := (5 : Int32)) hx hb dX8_into_65 (by decide) ?_
          obtain ⟨u11, hq10, hf⟩ := ob1_d hf
          refine zwvV (q := (RX8, TX8, 37)) (As := [.int (5 : Int32)]) (rest := []) (u := u11) (wn := (zW_8 cy h0 (ups w0 0 u11))) ⟨hx, hb, hml, hown, hts⟩ (kX8_end l dC dI cy h0 (ups w0 0 (ups (w0 0) 13 r2)) (5 : Int32) H.size u11 hq10) mw_746 mw_747 mw_911 mw_9 mw_748 hdX8_end rfl rfl ⟨Nat.le_of_ble_eq_true rfl, Nat.le_of_ble_eq_true rfl⟩ hP hK hG hS 0 rfl rfl hD hA [0, 1, 2, 3, 4, 5, 6, 7, 8, 9, 10, 11, 12, 13] [] [0, 1, 2, 3, 4, 5, 6, 7, 8, 9, 10, 11, 12, 13] rfl rfl rfl rfl (by decide) rfl rfl rfl hl.1 rfl (Nat.le_of_ble_eq_true rfl) dX8_into_66 ⟨Nat.zero_le _, Nat.zero_le _⟩ (fun H locs hP hD hS => ?_)
          refine lv_goto (tgt := 105) hx hb dX8_into_69 (by decide) ?_
          exact zretV hx hb hr hlocks hP hK hD hS hf rfl dX8_into_105
      · have hf := it_t hc hf
        refine lv_aload_n hx hb dX8_into_41 rfl (lv_at hl 0 rfl) ?_
        refine lv_bipush (v := (6 : Int32)) hx hb dX8_into_42 (by decide) ?_
        obtain ⟨u13, hq12, hf⟩ := ob1_d hf
        refine zwvV (q := (RX8, TX8, 37)) (As := [.int (6 : Int32)]) (rest := []) (u := u13) (wn := (zW_8 cy h0 (ups w0 0 u13))) ⟨hx, hb, hml, hown, hts⟩ (kX8_end l dC dI cy h0 (ups w0 0 (ups (w0 0) 13 r2)) (6 : Int32) H.size u13 hq12) mw_746 mw_747 mw_911 mw_9 mw_748 hdX8_end rfl rfl ⟨Nat.le_of_ble_eq_true rfl, Nat.le_of_ble_eq_true rfl⟩ hP hK hG hS 0 rfl rfl hD hA [0, 1, 2, 3, 4, 5, 6, 7, 8, 9, 10, 11, 12, 13] [] [0, 1, 2, 3, 4, 5, 6, 7, 8, 9, 10, 11, 12, 13] rfl rfl rfl rfl (by decide) rfl rfl rfl hl.1 rfl (Nat.le_of_ble_eq_true rfl) dX8_into_44 ⟨Nat.zero_le _, Nat.zero_le _⟩ (fun H locs hP hD hS => ?_)
        refine lv_goto (tgt := 105) hx hb dX8_into_47 (by decide) ?_
        exact zretV hx hb hr hlocks hP hK hD hS hf rfl dX8_into_105
    · have hf := it_f hc hf
      refine lv_aload_n hx hb dX8_into_20 rfl (lv_at hl 0 rfl) ?_
      refine lv_bipush (v := (8 : Int32)) hx hb dX8_into_21 (by decide) ?_
      obtain ⟨u15, hq14, hf⟩ := ob1_d hf
      refine zwvV (q := (RX8, TX8, 37)) (As := [.int (8 : Int32)]) (rest := []) (u := u15) (wn := (zW_8 cy h0 (ups w0 0 u15))) ⟨hx, hb, hml, hown, hts⟩ (kX8_end l dC dI cy h0 (ups w0 0 (ups (w0 0) 13 r2)) (8 : Int32) H.size u15 hq14) mw_746 mw_747 mw_911 mw_9 mw_748 hdX8_end rfl rfl ⟨Nat.le_of_ble_eq_true rfl, Nat.le_of_ble_eq_true rfl⟩ hP hK hG hS 0 rfl rfl hD hA [0, 1, 2, 3, 4, 5, 6, 7, 8, 9, 10, 11, 12, 13] [] [0, 1, 2, 3, 4, 5, 6, 7, 8, 9, 10, 11, 12, 13] rfl rfl rfl rfl (by decide) rfl rfl rfl hl.1 rfl (Nat.le_of_ble_eq_true rfl) dX8_into_23 ⟨Nat.zero_le _, Nat.zero_le _⟩ (fun H locs hP hD hS => ?_)
      refine lv_goto (tgt := 105) hx hb dX8_into_26 (by decide) ?_
      exact zretV hx hb hr hlocks hP hK hD hS hf rfl dX8_into_105
  exact kE s.heap [] hP hD hS
set_option maxHeartbeats 4000000 in
set_option maxRecDepth 100000 in
theorem kX8_step (l : Launch) (dC : Nat → ClassId) (dI : Nat → Nat → Nat) (cy : ClassId) (h0 : Nat → Nat) (w0 : Nat → Nat → Int32) (sz : Nat) (z : (Nat → Int32)) (hf : fX8_step w0 = some z) : Met l yX8_step (wsM yX8_step cX8_step 5 none) ({ frames := 3, cells := 0, slots := 0, locals := 66 } : Room) (va_Pc [.ref (h0 0)] (pWR (dC, dI) vwCl [(cy, .int)] (zW_8 cy h0 w0) sz)) (va_Qv (fun (v : (Nat → Int32)) => v = z) (fun v => aWR (dC, dI) vwCl [(cy, .int)] (va_A (zW_8 cy h0 w0) sz) (zW_8 cy h0 (ups w0 0 v))) (va_A (zW_8 cy h0 w0) sz)) 0 0 (va_A (zW_8 cy h0 w0) sz) := by
  refine Met.ofW (cc := cX8_step) (maxL := 5) (ret := none) (by decide) rfl ?_
  intro p e s m args below meth c s₁ B hml hv
  obtain ⟨ha, hsz, hP, hK, hD0, hG⟩ := hv
  have hx := B.exec
  have hb := B.bytes
  have hr := B.returns
  have hts : ∀ w ∈ wsA, w.before args s = true := fun w h => atoms_spec (ws := wsM yX8_step cX8_step 5 none) B.pre w (List.mem_cons_of_mem _ h)
  have hown : s.vm.findClass RX8 = some m.cls := findClass_of_methodNamed B.named
  have hlocks := B.notSynchronized
  subst hsz
  have hD := hD0.self (sz := s.heap.size)
  generalize hAe : va_A (zW_8 cy h0 w0) s.heap.size = A at hD hG ⊢
  have hA : ∀ q : Nat, s.heap.size ≤ q → A q := fun q h => by rw [← hAe]; exact Or.inr h
  have hS : va_S A s.heap s.heap [] := va_S.rf
  have hP : va_P (dC, dI) vwCl (zW_8 cy h0 (ups w0 0 (w0 0))) s.heap := hP
  have hD : va_D A (zW_8 cy h0 (ups w0 0 (w0 0))) := hD
  have k333 : ∀ (c0_0 : (Nat → Int32)) (H : Heap) (locs : List Loc) (ls : Array Slot), va_P (dC, dI) vwCl (zW_8 cy h0 (ups w0 0 c0_0)) H → va_D A (zW_8 cy h0 (ups w0 0 c0_0)) → va_S A s.heap H locs → lv_has ls 5 [(0, .ref (h0 0))] → (fX8_step_333 w0) c0_0 = some z → W p l e ({ frames := 3, cells := 0, slots := 0, locals := 66 } : Room) s m args below meth c H locs 0 0 (MQ below (va_Qv (fun (v : (Nat → Int32)) => v = z) (fun v => aWR (dC, dI) vwCl [(cy, .int)] A (zW_8 cy h0 (ups w0 0 v))) A) args s 0 0 A) (F0 m 333 ls []) := by
    intro c0_0 H locs ls hP hD hS hl hf
    unfold fX8_step_333 at hf
    refine lv_aload_n hx hb dX8_step_333 rfl (lv_at hl 0 rfl) ?_
    refine lv_dup hx hb dX8_step_334 rfl ?_
    refine zget hx hb hts hown hK hP hin_8 0 rfl rfl 21 (by decide) mw_611 (v := .int (c0_0 21)) rfl dX8_step_335 ?_
    refine lv_iconst (v := (1 : Int32)) hx hb dX8_step_338 (by decide) ?_
    refine lv_iadd hx hb dX8_step_339 ?_
    refine zput hx hb hts hown hK hP hD hS hin_8 tyX8 tyX8_ok nmX8 0 rfl rfl 21 (by decide) mw_611 rfl (v := .int ((c0_0 21) + (1 : Int32))) rfl rfl (Nat.le_of_ble_eq_true rfl) (wn := (zW_8 cy h0 (ups w0 0 (ups c0_0 21 ((c0_0 21) + (1 : Int32)))))) rfl dX8_step_340 (fun H locs hP hD hS => ?_)
    exact zretV hx hb hr hlocks hP hK hD hS hf rfl dX8_step_343
  have k330 : ∀ (c0_0 : (Nat → Int32)) (t1 : Int32) (H : Heap) (locs : List Loc) (ls : Array Slot), va_P (dC, dI) vwCl (zW_8 cy h0 (ups w0 0 c0_0)) H → va_D A (zW_8 cy h0 (ups w0 0 c0_0)) → va_S A s.heap H locs → lv_has ls 5 [(0, .ref (h0 0))] → (fX8_step_330 w0) c0_0 t1 = some z → W p l e ({ frames := 3, cells := 0, slots := 0, locals := 66 } : Room) s m args below meth c H locs 0 0 (MQ below (va_Qv (fun (v : (Nat → Int32)) => v = z) (fun v => aWR (dC, dI) vwCl [(cy, .int)] A (zW_8 cy h0 (ups w0 0 v))) A) args s 0 0 A) (F0 m 330 ls [.int t1, .ref (h0 0)]) := by
    intro c0_0 t1 H locs ls hP hD hS hl hf
    unfold fX8_step_330 at hf
    refine zput hx hb hts hown hK hP hD hS hin_8 tyX8 tyX8_ok nmX8 0 rfl rfl 22 (by decide) mw_612 rfl (v := .int t1) rfl rfl (Nat.le_of_ble_eq_true rfl) (wn := (zW_8 cy h0 (ups w0 0 (ups c0_0 22 t1)))) rfl dX8_step_330 (fun H locs hP hD hS => ?_)
    exact k333 (ups c0_0 22 t1) H locs ls hP hD hS (lv_sub hl [0] rfl) hf
  have k329 : ∀ (c0_0 : (Nat → Int32)) (H : Heap) (locs : List Loc) (ls : Array Slot), va_P (dC, dI) vwCl (zW_8 cy h0 (ups w0 0 c0_0)) H → va_D A (zW_8 cy h0 (ups w0 0 c0_0)) → va_S A s.heap H locs → lv_has ls 5 [(0, .ref (h0 0))] → (fX8_step_329 w0) c0_0 = some z → W p l e ({ frames := 3, cells := 0, slots := 0, locals := 66 } : Room) s m args below meth c H locs 0 0 (MQ below (va_Qv (fun (v : (Nat → Int32)) => v = z) (fun v => aWR (dC, dI) vwCl [(cy, .int)] A (zW_8 cy h0 (ups w0 0 v))) A) args s 0 0 A) (F0 m 329 ls [.ref (h0 0)]) := by
    intro c0_0 H locs ls hP hD hS hl hf
    unfold fX8_step_329 at hf
    refine lv_iconst (v := (1 : Int32)) hx hb dX8_step_329 (by decide) ?_
    exact k330 c0_0 (1 : Int32) H locs ls hP hD hS (lv_sub hl [0] rfl) hf
  have k240 : ∀ (c0_0 : (Nat → Int32)) (x1 : Int32) (x3 : Int32) (H : Heap) (locs : List Loc) (ls : Array Slot), va_P (dC, dI) vwCl (zW_8 cy h0 (ups w0 0 c0_0)) H → va_D A (zW_8 cy h0 (ups w0 0 c0_0)) → va_S A s.heap H locs → lv_has ls 5 [(0, .ref (h0 0)), (1, .int x1), (3, .int x3)] → (fX8_step_240 w0) c0_0 x1 x3 = some z → W p l e ({ frames := 3, cells := 0, slots := 0, locals := 66 } : Room) s m args below meth c H locs 0 0 (MQ below (va_Qv (fun (v : (Nat → Int32)) => v = z) (fun v => aWR (dC, dI) vwCl [(cy, .int)] A (zW_8 cy h0 (ups w0 0 v))) A) args s 0 0 A) (F0 m 240 ls []) := by
    intro c0_0 x1 x3 H locs ls hP hD hS hl hf
    unfold fX8_step_240 at hf
    refine lv_aload_n hx hb dX8_step_240 rfl (lv_at hl 0 rfl) ?_
    obtain ⟨r8, hq7, hf⟩ := ob1_d hf
    refine zroV (q := (RX8, TX8, 37)) (As := []) (rest := []) (r := r8) ⟨hx, hb, hml, hown, hts⟩ (kX8_ended l dC dI cy h0 (ups w0 0 c0_0) r8 hq7) mw_737 mw_738 mw_908 mw_9 mw_739 hdX8_ended rfl rfl ⟨Nat.le_of_ble_eq_true rfl, Nat.le_of_ble_eq_true rfl⟩ hP hK hG hS 0 rfl rfl [0, 1, 2, 3, 4, 5, 6, 7, 8, 9, 10, 11, 12, 13] rfl rfl hl.1 rfl (Nat.le_of_ble_eq_true rfl) dX8_step_241 ⟨Nat.zero_le _, Nat.zero_le _⟩ ?_
    refine lv_if_ne (tgt := 333) hx hb dX8_step_244 (by decide) (fun hc => ?_) (fun hc => ?_)
    · have hf := it_f hc hf
      exact k333 c0_0 H locs ls hP hD hS (lv_sub hl [0] rfl) hf
    · have hf := it_t hc hf
      refine lv_aload_n hx hb dX8_step_247 rfl (lv_at hl 0 rfl) ?_
      refine lv_iconst (v := (0 : Int32)) hx hb dX8_step_248 (by decide) ?_
      refine lv_aload_n hx hb dX8_step_249 rfl (lv_at hl 0 rfl) ?_
      refine zget hx hb hts hown hK hP hin_8 0 rfl rfl 18 (by decide) mw_608 (v := .int (c0_0 18)) rfl dX8_step_250 ?_
      refine lv_aload_n hx hb dX8_step_253 rfl (lv_at hl 0 rfl) ?_
      refine zget hx hb hts hown hK hP hin_8 0 rfl rfl 5 (by decide) mw_595 (v := .ref (h0 3)) rfl dX8_step_254 ?_
      refine lv_iconst (v := (2 : Int32)) hx hb dX8_step_257 (by decide) ?_
      refine va_iald hx hb hK hP 3 0 rfl rfl (vin_lit (by decide)) dX8_step_258 ?_
      refine lv_iadd hx hb dX8_step_259 ?_
      refine lv_aload_n hx hb dX8_step_260 rfl (lv_at hl 0 rfl) ?_
      refine zget hx hb hts hown hK hP hin_8 0 rfl rfl 5 (by decide) mw_595 (v := .ref (h0 3)) rfl dX8_step_261 ?_
      refine lv_iconst (v := (3 : Int32)) hx hb dX8_step_264 (by decide) ?_
      refine va_iald hx hb hK hP 3 0 rfl rfl (vin_lit (by decide)) dX8_step_265 ?_
      refine lv_bipush (v := (10 : Int32)) hx hb dX8_step_266 (by decide) ?_
      refine lv_idiv hx hb dX8_step_268 (by decide) ?_
      refine lv_isub hx hb dX8_step_269 ?_
      refine z_mmax hx hb hml hl.1 hts hown mw_752 (Nat.le_of_ble_eq_true rfl) (Nat.le_of_ble_eq_true rfl) (Nat.zero_le _) (Nat.zero_le _) dX8_step_270 ?_
      refine zput hx hb hts hown hK hP hD hS hin_8 tyX8 tyX8_ok nmX8 0 rfl rfl 18 (by decide) mw_608 rfl (v := .int (zmax (0 : Int32) (((c0_0 18) + ((w0 3) ((2 : Int32)).toNatClampNeg)) - (((w0 3) ((3 : Int32)).toNatClampNeg) / (10 : Int32))))) rfl rfl (Nat.le_of_ble_eq_true rfl) (wn := (zW_8 cy h0 (ups w0 0 (ups c0_0 18 (zmax (0 : Int32) (((c0_0 18) + ((w0 3) ((2 : Int32)).toNatClampNeg)) - (((w0 3) ((3 : Int32)).toNatClampNeg) / (10 : Int32)))))))) rfl dX8_step_273 (fun H locs hP hD hS => ?_)
      refine lv_aload_n hx hb dX8_step_276 rfl (lv_at hl 0 rfl) ?_
      refine zget hx hb hts hown hK hP hin_8 0 rfl rfl 18 (by decide) mw_608 (v := .int (zmax (0 : Int32) (((c0_0 18) + ((w0 3) ((2 : Int32)).toNatClampNeg)) - (((w0 3) ((3 : Int32)).toNatClampNeg) / (10 : Int32))))) rfl dX8_step_277 ?_
      refine lv_bipush (v := (100 : Int32)) hx hb dX8_step_280 (by decide) ?_
      refine lv_icmp_lt (tgt := 300) hx hb dX8_step_282 (by decide) (fun hc => ?_) (fun hc => ?_)
      · have hf := it_t hc hf
        refine lv_aload_n hx hb dX8_step_300 rfl (lv_at hl 0 rfl) ?_
        refine zget hx hb hts hown hK hP hin_8 0 rfl rfl 22 (by decide) mw_612 (v := .int (c0_0 22)) rfl dX8_step_301 ?_
        refine lv_iconst (v := (4 : Int32)) hx hb dX8_step_304 (by decide) ?_
        refine lv_icmp_eq (tgt := 333) hx hb dX8_step_305 (by decide) (fun hc => ?_) (fun hc => ?_)
        · have hf := it_t hc hf
          exact k333 (ups c0_0 18 (zmax (0 : Int32) (((c0_0 18) + ((w0 3) ((2 : Int32)).toNatClampNeg)) - (((w0 3) ((3 : Int32)).toNatClampNeg) / (10 : Int32))))) H locs ls hP hD hS (lv_sub hl [0] rfl) hf
        · have hf := it_f hc hf
          refine lv_aload_n hx hb dX8_step_308 rfl (lv_at hl 0 rfl) ?_
          refine lv_iload_n hx hb dX8_step_309 rfl (lv_at hl 2 rfl) ?_
          refine lv_if_le (tgt := 329) hx hb dX8_step_310 (by decide) (fun hc => ?_) (fun hc => ?_)
          · have hf := it_t hc hf
            exact k329 (ups c0_0 18 (zmax (0 : Int32) (((c0_0 18) + ((w0 3) ((2 : Int32)).toNatClampNeg)) - (((w0 3) ((3 : Int32)).toNatClampNeg) / (10 : Int32))))) H locs ls hP hD hS (lv_sub hl [0] rfl) hf
          · have hf := it_f hc hf
            refine lv_aload_n hx hb dX8_step_313 rfl (lv_at hl 0 rfl) ?_
            refine zget hx hb hts hown hK hP hin_8 0 rfl rfl 14 (by decide) mw_604 (v := .int (c0_0 14)) rfl dX8_step_314 ?_
            refine lv_iload_n hx hb dX8_step_317 rfl (lv_at hl 1 rfl) ?_
            obtain ⟨r10, hq9, hf⟩ := ob1_d hf
            refine zroS (As := [.int (c0_0 14), .int x1]) (rest := [.ref (h0 0)]) (r := r10) ⟨hx, hb, hml, hown, hts⟩ (kX8_apart l dC dI cy (c0_0 14) x1 r10 hq9) mw_749 mw_750 mw_9 mw_751 hdX8_apart rfl rfl ⟨Nat.le_of_ble_eq_true rfl, Nat.le_of_ble_eq_true rfl⟩ hP hK hG hS [] rfl rfl hl.1 rfl (Nat.le_of_ble_eq_true rfl) dX8_step_318 ⟨Nat.zero_le _, Nat.zero_le _⟩ ?_
            refine lv_iconst (v := (2 : Int32)) hx hb dX8_step_321 (by decide) ?_
            refine lv_icmp_ge (tgt := 329) hx hb dX8_step_322 (by decide) (fun hc => ?_) (fun hc => ?_)
            · have hf := it_t hc hf
              exact k329 (ups c0_0 18 (zmax (0 : Int32) (((c0_0 18) + ((w0 3) ((2 : Int32)).toNatClampNeg)) - (((w0 3) ((3 : Int32)).toNatClampNeg) / (10 : Int32))))) H locs ls hP hD hS (lv_sub hl [0] rfl) hf
            · have hf := it_f hc hf
              refine lv_iconst (v := (0 : Int32)) hx hb dX8_step_325 (by decide) ?_
              refine lv_goto (tgt := 330) hx hb dX8_step_326 (by decide) ?_
              exact k330 (ups c0_0 18 (zmax (0 : Int32) (((c0_0 18) + ((w0 3) ((2 : Int32)).toNatClampNeg)) - (((w0 3) ((3 : Int32)).toNatClampNeg) / (10 : Int32))))) (0 : Int32) H locs ls hP hD hS (lv_sub hl [0] rfl) hf
      · have hf := it_f hc hf
        refine lv_aload_n hx hb dX8_step_285 rfl (lv_at hl 0 rfl) ?_
        refine lv_bipush (v := (100 : Int32)) hx hb dX8_step_286 (by decide) ?_
        refine zput hx hb hts hown hK hP hD hS hin_8 tyX8 tyX8_ok nmX8 0 rfl rfl 18 (by decide) mw_608 rfl (v := .int (100 : Int32)) rfl rfl (Nat.le_of_ble_eq_true rfl) (wn := (zW_8 cy h0 (ups w0 0 (ups c0_0 18 (100 : Int32))))) rfl dX8_step_288 (fun H locs hP hD hS => ?_)
        refine lv_aload_n hx hb dX8_step_291 rfl (lv_at hl 0 rfl) ?_
        refine lv_bipush (v := (7 : Int32)) hx hb dX8_step_292 (by decide) ?_
        obtain ⟨u12, hq11, hf⟩ := ob1_d hf
        refine zwvV (q := (RX8, TX8, 37)) (As := [.int (7 : Int32)]) (rest := []) (u := u12) (wn := (zW_8 cy h0 (ups w0 0 u12))) ⟨hx, hb, hml, hown, hts⟩ (kX8_end l dC dI cy h0 (ups w0 0 (ups c0_0 18 (100 : Int32))) (7 : Int32) H.size u12 hq11) mw_746 mw_747 mw_911 mw_9 mw_748 hdX8_end rfl rfl ⟨Nat.le_of_ble_eq_true rfl, Nat.le_of_ble_eq_true rfl⟩ hP hK hG hS 0 rfl rfl hD hA [0, 1, 2, 3, 4, 5, 6, 7, 8, 9, 10, 11, 12, 13] [] [0, 1, 2, 3, 4, 5, 6, 7, 8, 9, 10, 11, 12, 13] rfl rfl rfl rfl (by decide) rfl rfl rfl hl.1 rfl (Nat.le_of_ble_eq_true rfl) dX8_step_294 ⟨Nat.zero_le _, Nat.zero_le _⟩ (fun H locs hP hD hS => ?_)
        refine lv_goto (tgt := 333) hx hb dX8_step_297 (by decide) ?_
        exact k333 u12 H locs ls hP hD hS (lv_sub hl [0] rfl) hf
  have k205 : ∀ n : Nat, ∀ (c0_0 : (Nat → Int32)) (x1 : Int32) (x2 : Int32) (x3 : Int32) (H : Heap) (locs : List Loc) (ls : Array Slot), va_P (dC, dI) vwCl (zW_8 cy h0 (ups w0 0 c0_0)) H → va_D A (zW_8 cy h0 (ups w0 0 c0_0)) → va_S A s.heap H locs → lv_has ls 5 [(0, .ref (h0 0)), (1, .int x1), (2, .int x2), (3, .int x3)] → (zl4 (fX8_step_205 w0) n) c0_0 x1 x2 x3 = some z → W p l e ({ frames := 3, cells := 0, slots := 0, locals := 66 } : Room) s m args below meth c H locs 0 0 (MQ below (va_Qv (fun (v : (Nat → Int32)) => v = z) (fun v => aWR (dC, dI) vwCl [(cy, .int)] A (zW_8 cy h0 (ups w0 0 v))) A) args s 0 0 A) (F0 m 205 ls []) := by
    intro n
    induction n with
    | zero =>
      intro c0_0 x1 x2 x3 H locs ls hP hD hS hl hf
      exact z_no hf
    | succ n hs205 =>
      intro c0_0 x1 x2 x3 H locs ls hP hD hS hl hf
      have hf : fX8_step_205 w0 (zl4 (fX8_step_205 w0) n) c0_0 x1 x2 x3 = some z := hf
      generalize zl4 (fX8_step_205 w0) n = s205 at hs205 hf
      unfold fX8_step_205 at hf
      refine lv_aload_n hx hb dX8_step_205 rfl (lv_at hl 0 rfl) ?_
      refine zget hx hb hts hown hK hP hin_8 0 rfl rfl 20 (by decide) mw_610 (v := .int (c0_0 20)) rfl dX8_step_206 ?_
      refine lv_bipush (v := (10 : Int32)) hx hb dX8_step_209 (by decide) ?_
      refine lv_icmp_lt (tgt := 240) hx hb dX8_step_211 (by decide) (fun hc => ?_) (fun hc => ?_)
      · have hf := it_t hc hf
        exact k240 c0_0 x1 x3 H locs ls hP hD hS (lv_sub hl [0, 1, 3] rfl) hf
      · have hf := it_f hc hf
        refine lv_aload_n hx hb dX8_step_214 rfl (lv_at hl 0 rfl) ?_
        obtain ⟨r14, hq13, hf⟩ := ob1_d hf
        refine zroV (q := (RX8, TX8, 37)) (As := []) (rest := []) (r := r14) ⟨hx, hb, hml, hown, hts⟩ (kX8_ended l dC dI cy h0 (ups w0 0 c0_0) r14 hq13) mw_737 mw_738 mw_908 mw_9 mw_739 hdX8_ended rfl rfl ⟨Nat.le_of_ble_eq_true rfl, Nat.le_of_ble_eq_true rfl⟩ hP hK hG hS 0 rfl rfl [0, 1, 2, 3, 4, 5, 6, 7, 8, 9, 10, 11, 12, 13] rfl rfl hl.1 rfl (Nat.le_of_ble_eq_true rfl) dX8_step_215 ⟨Nat.zero_le _, Nat.zero_le _⟩ ?_
        refine lv_if_ne (tgt := 240) hx hb dX8_step_218 (by decide) (fun hc => ?_) (fun hc => ?_)
        · have hf := it_f hc hf
          exact k240 c0_0 x1 x3 H locs ls hP hD hS (lv_sub hl [0, 1, 3] rfl) hf
        · have hf := it_t hc hf
          refine lv_aload_n hx hb dX8_step_221 rfl (lv_at hl 0 rfl) ?_
          refine lv_dup hx hb dX8_step_222 rfl ?_
          refine zget hx hb hts hown hK hP hin_8 0 rfl rfl 20 (by decide) mw_610 (v := .int (c0_0 20)) rfl dX8_step_223 ?_
          refine lv_bipush (v := (10 : Int32)) hx hb dX8_step_226 (by decide) ?_
          refine lv_isub hx hb dX8_step_228 ?_
          refine zput hx hb hts hown hK hP hD hS hin_8 tyX8 tyX8_ok nmX8 0 rfl rfl 20 (by decide) mw_610 rfl (v := .int ((c0_0 20) - (10 : Int32))) rfl rfl (Nat.le_of_ble_eq_true rfl) (wn := (zW_8 cy h0 (ups w0 0 (ups c0_0 20 ((c0_0 20) - (10 : Int32)))))) rfl dX8_step_229 (fun H locs hP hD hS => ?_)
          refine lv_aload_n hx hb dX8_step_232 rfl (lv_at hl 0 rfl) ?_
          refine lv_iload_n hx hb dX8_step_233 rfl (lv_at hl 2 rfl) ?_
          obtain ⟨u16, hq15, hf⟩ := ob1_d hf
          refine zwvV (q := (RX8, TX8, 37)) (As := [.int x2]) (rest := []) (u := u16) (wn := (zW_8 cy h0 (ups w0 0 u16))) ⟨hx, hb, hml, hown, hts⟩ (kX8_into l dC dI cy h0 (ups w0 0 (ups c0_0 20 ((c0_0 20) - (10 : Int32)))) x2 H.size u16 hq15) mw_740 mw_741 mw_909 mw_9 mw_742 hdX8_into rfl rfl ⟨Nat.le_of_ble_eq_true rfl, Nat.le_of_ble_eq_true rfl⟩ hP hK hG hS 0 rfl rfl hD hA [0, 1, 2, 3, 4, 5, 6, 7, 8, 9, 10, 11, 12, 13] [] [0, 1, 2, 3, 4, 5, 6, 7, 8, 9, 10, 11, 12, 13] rfl rfl rfl rfl (by decide) rfl rfl rfl hl.1 rfl (Nat.le_of_ble_eq_true rfl) dX8_step_234 ⟨Nat.zero_le _, Nat.zero_le _⟩ (fun H locs hP hD hS => ?_)
          refine lv_goto (tgt := 205) hx hb dX8_step_237 (by decide) ?_
          exact hs205 u16 x1 x2 x3 H locs ls hP hD hS (lv_sub hl [0, 1, 2, 3] rfl) hf
  have k167 : ∀ n : Nat, ∀ (c0_0 : (Nat → Int32)) (x1 : Int32) (x2 : Int32) (x3 : Int32) (H : Heap) (locs : List Loc) (ls : Array Slot), va_P (dC, dI) vwCl (zW_8 cy h0 (ups w0 0 c0_0)) H → va_D A (zW_8 cy h0 (ups w0 0 c0_0)) → va_S A s.heap H locs → lv_has ls 5 [(0, .ref (h0 0)), (1, .int x1), (2, .int x2), (3, .int x3)] → (zl4 (fX8_step_167 w0) n) c0_0 x1 x2 x3 = some z → W p l e ({ frames := 3, cells := 0, slots := 0, locals := 66 } : Room) s m args below meth c H locs 0 0 (MQ below (va_Qv (fun (v : (Nat → Int32)) => v = z) (fun v => aWR (dC, dI) vwCl [(cy, .int)] A (zW_8 cy h0 (ups w0 0 v))) A) args s 0 0 A) (F0 m 167 ls []) := by
    intro n
    induction n with
    | zero =>
      intro c0_0 x1 x2 x3 H locs ls hP hD hS hl hf
      exact z_no hf
    | succ n hs167 =>
      intro c0_0 x1 x2 x3 H locs ls hP hD hS hl hf
      have hf : fX8_step_167 w0 (zl4 (fX8_step_167 w0) n) c0_0 x1 x2 x3 = some z := hf
      generalize zl4 (fX8_step_167 w0) n = s167 at hs167 hf
      unfold fX8_step_167 at hf
      refine lv_aload_n hx hb dX8_step_167 rfl (lv_at hl 0 rfl) ?_
      refine zget hx hb hts hown hK hP hin_8 0 rfl rfl 19 (by decide) mw_609 (v := .int (c0_0 19)) rfl dX8_step_168 ?_
      refine lv_bipush (v := (10 : Int32)) hx hb dX8_step_171 (by decide) ?_
      refine lv_icmp_lt (tgt := 205) hx hb dX8_step_173 (by decide) (fun hc => ?_) (fun hc => ?_)
      · have hf := it_t hc hf
        exact k205 zFU c0_0 x1 x2 x3 H locs ls hP hD hS (lv_sub hl [0, 1, 2, 3] rfl) hf
      · have hf := it_f hc hf
        refine lv_aload_n hx hb dX8_step_176 rfl (lv_at hl 0 rfl) ?_
        obtain ⟨r18, hq17, hf⟩ := ob1_d hf
        refine zroV (q := (RX8, TX8, 37)) (As := []) (rest := []) (r := r18) ⟨hx, hb, hml, hown, hts⟩ (kX8_ended l dC dI cy h0 (ups w0 0 c0_0) r18 hq17) mw_737 mw_738 mw_908 mw_9 mw_739 hdX8_ended rfl rfl ⟨Nat.le_of_ble_eq_true rfl, Nat.le_of_ble_eq_true rfl⟩ hP hK hG hS 0 rfl rfl [0, 1, 2, 3, 4, 5, 6, 7, 8, 9, 10, 11, 12, 13] rfl rfl hl.1 rfl (Nat.le_of_ble_eq_true rfl) dX8_step_177 ⟨Nat.zero_le _, Nat.zero_le _⟩ ?_
        refine lv_if_ne (tgt := 205) hx hb dX8_step_180 (by decide) (fun hc => ?_) (fun hc => ?_)
        · have hf := it_f hc hf
          exact k205 zFU c0_0 x1 x2 x3 H locs ls hP hD hS (lv_sub hl [0, 1, 2, 3] rfl) hf
        · have hf := it_t hc hf
          refine lv_aload_n hx hb dX8_step_183 rfl (lv_at hl 0 rfl) ?_
          refine lv_dup hx hb dX8_step_184 rfl ?_
          refine zget hx hb hts hown hK hP hin_8 0 rfl rfl 19 (by decide) mw_609 (v := .int (c0_0 19)) rfl dX8_step_185 ?_
          refine lv_bipush (v := (10 : Int32)) hx hb dX8_step_188 (by decide) ?_
          refine lv_isub hx hb dX8_step_190 ?_
          refine zput hx hb hts hown hK hP hD hS hin_8 tyX8 tyX8_ok nmX8 0 rfl rfl 19 (by decide) mw_609 rfl (v := .int ((c0_0 19) - (10 : Int32))) rfl rfl (Nat.le_of_ble_eq_true rfl) (wn := (zW_8 cy h0 (ups w0 0 (ups c0_0 19 ((c0_0 19) - (10 : Int32)))))) rfl dX8_step_191 (fun H locs hP hD hS => ?_)
          refine lv_aload_n hx hb dX8_step_194 rfl (lv_at hl 0 rfl) ?_
          refine lv_aload_n hx hb dX8_step_195 rfl (lv_at hl 0 rfl) ?_
          refine zget hx hb hts hown hK hP hin_8 0 rfl rfl 14 (by decide) mw_604 (v := .int (c0_0 14)) rfl dX8_step_196 ?_
          obtain ⟨u20, hq19, hf⟩ := ob1_d hf
          refine zwvV (q := (RX8, TX8, 37)) (As := [.int (c0_0 14)]) (rest := []) (u := u20) (wn := (zW_8 cy h0 (ups w0 0 u20))) ⟨hx, hb, hml, hown, hts⟩ (kX8_into l dC dI cy h0 (ups w0 0 (ups c0_0 19 ((c0_0 19) - (10 : Int32)))) (c0_0 14) H.size u20 hq19) mw_740 mw_741 mw_909 mw_9 mw_742 hdX8_into rfl rfl ⟨Nat.le_of_ble_eq_true rfl, Nat.le_of_ble_eq_true rfl⟩ hP hK hG hS 0 rfl rfl hD hA [0, 1, 2, 3, 4, 5, 6, 7, 8, 9, 10, 11, 12, 13] [] [0, 1, 2, 3, 4, 5, 6, 7, 8, 9, 10, 11, 12, 13] rfl rfl rfl rfl (by decide) rfl rfl rfl hl.1 rfl (Nat.le_of_ble_eq_true rfl) dX8_step_199 ⟨Nat.zero_le _, Nat.zero_le _⟩ (fun H locs hP hD hS => ?_)
          refine lv_goto (tgt := 167) hx hb dX8_step_202 (by decide) ?_
          exact hs167 u20 x1 x2 x3 H locs ls hP hD hS (lv_sub hl [0, 1, 2, 3] rfl) hf
  have k122 : ∀ (c0_0 : (Nat → Int32)) (x1 : Int32) (x2 : Int32) (x3 : Int32) (H : Heap) (locs : List Loc) (ls : Array Slot), va_P (dC, dI) vwCl (zW_8 cy h0 (ups w0 0 c0_0)) H → va_D A (zW_8 cy h0 (ups w0 0 c0_0)) → va_S A s.heap H locs → lv_has ls 5 [(0, .ref (h0 0)), (1, .int x1), (2, .int x2), (3, .int x3)] → (fX8_step_122 w0) c0_0 x1 x2 x3 = some z → W p l e ({ frames := 3, cells := 0, slots := 0, locals := 66 } : Room) s m args below meth c H locs 0 0 (MQ below (va_Qv (fun (v : (Nat → Int32)) => v = z) (fun v => aWR (dC, dI) vwCl [(cy, .int)] A (zW_8 cy h0 (ups w0 0 v))) A) args s 0 0 A) (F0 m 122 ls []) := by
    intro c0_0 x1 x2 x3 H locs ls hP hD hS hl hf
    unfold fX8_step_122 at hf
    refine lv_aload_n hx hb dX8_step_122 rfl (lv_at hl 0 rfl) ?_
    refine lv_dup hx hb dX8_step_123 rfl ?_
    refine zget hx hb hts hown hK hP hin_8 0 rfl rfl 19 (by decide) mw_609 (v := .int (c0_0 19)) rfl dX8_step_124 ?_
    refine lv_iload_n hx hb dX8_step_127 rfl (lv_at hl 3 rfl) ?_
    refine lv_iadd hx hb dX8_step_128 ?_
    refine zput hx hb hts hown hK hP hD hS hin_8 tyX8 tyX8_ok nmX8 0 rfl rfl 19 (by decide) mw_609 rfl (v := .int ((c0_0 19) + x3)) rfl rfl (Nat.le_of_ble_eq_true rfl) (wn := (zW_8 cy h0 (ups w0 0 (ups c0_0 19 ((c0_0 19) + x3))))) rfl dX8_step_129 (fun H locs hP hD hS => ?_)
    refine lv_aload_n hx hb dX8_step_132 rfl (lv_at hl 0 rfl) ?_
    refine lv_dup hx hb dX8_step_133 rfl ?_
    refine zget hx hb hts hown hK hP hin_8 0 rfl rfl 20 (by decide) mw_610 (v := .int (c0_0 20)) rfl dX8_step_134 ?_
    refine lv_aload_n hx hb dX8_step_137 rfl (lv_at hl 0 rfl) ?_
    refine zget hx hb hts hown hK hP hin_8 0 rfl rfl 5 (by decide) mw_595 (v := .ref (h0 3)) rfl dX8_step_138 ?_
    refine lv_iconst (v := (0 : Int32)) hx hb dX8_step_141 (by decide) ?_
    refine va_iald hx hb hK hP 3 0 rfl rfl (vin_lit (by decide)) dX8_step_142 ?_
    refine lv_bipush (v := (9 : Int32)) hx hb dX8_step_143 (by decide) ?_
    refine lv_aload_n hx hb dX8_step_145 rfl (lv_at hl 0 rfl) ?_
    refine zget hx hb hts hown hK hP hin_8 0 rfl rfl 5 (by decide) mw_595 (v := .ref (h0 3)) rfl dX8_step_146 ?_
    refine lv_iconst (v := (5 : Int32)) hx hb dX8_step_149 (by decide) ?_
    refine va_iald hx hb hK hP 3 0 rfl rfl (vin_lit (by decide)) dX8_step_150 ?_
    refine lv_isub hx hb dX8_step_151 ?_
    refine lv_iconst (v := (3 : Int32)) hx hb dX8_step_152 (by decide) ?_
    refine lv_idiv hx hb dX8_step_153 (by decide) ?_
    refine lv_iadd hx hb dX8_step_154 ?_
    refine lv_aload_n hx hb dX8_step_155 rfl (lv_at hl 0 rfl) ?_
    refine zget hx hb hts hown hK hP hin_8 0 rfl rfl 18 (by decide) mw_608 (v := .int (c0_0 18)) rfl dX8_step_156 ?_
    refine lv_bipush (v := (25 : Int32)) hx hb dX8_step_159 (by decide) ?_
    refine lv_idiv hx hb dX8_step_161 (by decide) ?_
    refine lv_iadd hx hb dX8_step_162 ?_
    refine lv_iadd hx hb dX8_step_163 ?_
    refine zput hx hb hts hown hK hP hD hS hin_8 tyX8 tyX8_ok nmX8 0 rfl rfl 20 (by decide) mw_610 rfl (v := .int ((c0_0 20) + ((((w0 3) ((0 : Int32)).toNatClampNeg) + (((9 : Int32) - ((w0 3) ((5 : Int32)).toNatClampNeg)) / (3 : Int32))) + ((c0_0 18) / (25 : Int32))))) rfl rfl (Nat.le_of_ble_eq_true rfl) (wn := (zW_8 cy h0 (ups w0 0 (ups (ups c0_0 19 ((c0_0 19) + x3)) 20 ((c0_0 20) + ((((w0 3) ((0 : Int32)).toNatClampNeg) + (((9 : Int32) - ((w0 3) ((5 : Int32)).toNatClampNeg)) / (3 : Int32))) + ((c0_0 18) / (25 : Int32)))))))) rfl dX8_step_164 (fun H locs hP hD hS => ?_)
    exact k167 zFU (ups (ups c0_0 19 ((c0_0 19) + x3)) 20 ((c0_0 20) + ((((w0 3) ((0 : Int32)).toNatClampNeg) + (((9 : Int32) - ((w0 3) ((5 : Int32)).toNatClampNeg)) / (3 : Int32))) + ((c0_0 18) / (25 : Int32))))) x1 x2 x3 H locs ls hP hD hS (lv_sub hl [0, 1, 2, 3] rfl) hf
  obtain ⟨ls, hl, he⟩ := zent (m := m) (n := 5) (L := [(0, .ref (h0 0))]) ha (Nat.le_of_ble_eq_true rfl) rfl
  refine W.eq he ?_
  unfold fX8_step at hf
  have kE : ∀ (H : Heap) (locs : List Loc), va_P (dC, dI) vwCl (zW_8 cy h0 (ups w0 0 (w0 0))) H → va_D A (zW_8 cy h0 (ups w0 0 (w0 0))) → va_S A s.heap H locs → W p l e ({ frames := 3, cells := 0, slots := 0, locals := 66 } : Room) s m args below meth c H locs 0 0 (MQ below (va_Qv (fun (v : (Nat → Int32)) => v = z) (fun v => aWR (dC, dI) vwCl [(cy, .int)] A (zW_8 cy h0 (ups w0 0 v))) A) args s 0 0 A) (F0 m 0 ls []) := by
    intro H locs hP hD hS
    refine lv_aload_n hx hb dX8_step_0 rfl (lv_at hl 0 rfl) ?_
    obtain ⟨r2, hq1, hf⟩ := ob1_d hf
    refine zroV (q := (RX8, TX8, 37)) (As := []) (rest := []) (r := r2) ⟨hx, hb, hml, hown, hts⟩ (kX8_ended l dC dI cy h0 (ups w0 0 (w0 0)) r2 hq1) mw_737 mw_738 mw_908 mw_9 mw_739 hdX8_ended rfl rfl ⟨Nat.le_of_ble_eq_true rfl, Nat.le_of_ble_eq_true rfl⟩ hP hK hG hS 0 rfl rfl [0, 1, 2, 3, 4, 5, 6, 7, 8, 9, 10, 11, 12, 13] rfl rfl hl.1 rfl (Nat.le_of_ble_eq_true rfl) dX8_step_1 ⟨Nat.zero_le _, Nat.zero_le _⟩ ?_
    refine lv_if_ne (tgt := 333) hx hb dX8_step_4 (by decide) (fun hc => ?_) (fun hc => ?_)
    · have hf := it_f hc hf
      exact k333 (w0 0) H locs ls hP hD hS (lv_sub hl [0] rfl) hf
    · have hf := it_t hc hf
      refine lv_aload_n hx hb dX8_step_7 rfl (lv_at hl 0 rfl) ?_
      refine lv_aload_n hx hb dX8_step_8 rfl (lv_at hl 0 rfl) ?_
      refine zget hx hb hts hown hK hP hin_8 0 rfl rfl 21 (by decide) mw_611 (v := .int (w0 0 21)) rfl dX8_step_9 ?_
      obtain ⟨r4, hq3, hf⟩ := ob1_d hf
      refine zroV (q := (RX8, TX8, 37)) (As := [.int (w0 0 21)]) (rest := []) (r := r4) ⟨hx, hb, hml, hown, hts⟩ (kX8_wind_ l dC dI cy h0 (ups w0 0 (w0 0)) (w0 0 21) r4 hq3) mw_716 mw_717 mw_904 mw_9 mw_718 hdX8_wind_ rfl rfl ⟨Nat.le_of_ble_eq_true rfl, Nat.le_of_ble_eq_true rfl⟩ hP hK hG hS 0 rfl rfl [0, 1, 2, 3, 4, 5, 6, 7, 8, 9, 10, 11, 12, 13] rfl rfl hl.1 rfl (Nat.le_of_ble_eq_true rfl) dX8_step_12 ⟨Nat.zero_le _, Nat.zero_le _⟩ ?_
      refine lv_istore_n (lv' := [(1, .int r4), (0, .ref (h0 0))]) hx hb dX8_step_15 rfl hl (by decide) rfl (fun ls hl => ?_)
      refine lv_iload_n hx hb dX8_step_16 rfl (lv_at hl 0 rfl) ?_
      refine lv_iconst (v := (4 : Int32)) hx hb dX8_step_17 (by decide) ?_
      refine lv_iadd hx hb dX8_step_18 ?_
      refine lv_bipush (v := (8 : Int32)) hx hb dX8_step_19 (by decide) ?_
      refine lv_zrem hx hb dX8_step_21 (by decide) ?_
      refine lv_istore_n (lv' := [(2, .int (zrem (r4 + (4 : Int32)) (8 : Int32))), (1, .int r4), (0, .ref (h0 0))]) hx hb dX8_step_22 rfl hl (by decide) rfl (fun ls hl => ?_)
      refine lv_iconst (v := (0 : Int32)) hx hb dX8_step_23 (by decide) ?_
      refine lv_istore_n (lv' := [(3, .int (0 : Int32)), (2, .int (zrem (r4 + (4 : Int32)) (8 : Int32))), (1, .int r4), (0, .ref (h0 0))]) hx hb dX8_step_24 rfl hl (by decide) rfl (fun ls hl => ?_)
      refine lv_aload_n hx hb dX8_step_25 rfl (lv_at hl 3 rfl) ?_
      refine zget hx hb hts hown hK hP hin_8 0 rfl rfl 22 (by decide) mw_612 (v := .int (w0 0 22)) rfl dX8_step_26 ?_
      refine lv_iconst (v := (4 : Int32)) hx hb dX8_step_29 (by decide) ?_
      refine lv_icmp_ne (tgt := 84) hx hb dX8_step_30 (by decide) (fun hc => ?_) (fun hc => ?_)
      · have hf := it_f hc hf
        refine lv_aload_n hx hb dX8_step_84 rfl (lv_at hl 3 rfl) ?_
        refine zget hx hb hts hown hK hP hin_8 0 rfl rfl 14 (by decide) mw_604 (v := .int (w0 0 14)) rfl dX8_step_85 ?_
        refine lv_iload_n hx hb dX8_step_88 rfl (lv_at hl 2 rfl) ?_
        obtain ⟨r6, hq5, hf⟩ := ob1_d hf
        refine zroS (As := [.int (w0 0 14), .int r4]) (rest := []) (r := r6) ⟨hx, hb, hml, hown, hts⟩ (kX8_apart l dC dI cy (w0 0 14) r4 r6 hq5) mw_749 mw_750 mw_9 mw_751 hdX8_apart rfl rfl ⟨Nat.le_of_ble_eq_true rfl, Nat.le_of_ble_eq_true rfl⟩ hP hK hG hS [] rfl rfl hl.1 rfl (Nat.le_of_ble_eq_true rfl) dX8_step_89 ⟨Nat.zero_le _, Nat.zero_le _⟩ ?_
        refine lv_istore (lv' := [(4, .int r6), (3, .int (0 : Int32)), (2, .int (zrem (r4 + (4 : Int32)) (8 : Int32))), (1, .int r4), (0, .ref (h0 0))]) hx hb dX8_step_92 hl (by decide) rfl (fun ls hl => ?_)
        refine lv_iload hx hb dX8_step_94 (lv_at hl 0 rfl) ?_
        refine lv_aload_n hx hb dX8_step_96 rfl (lv_at hl 4 rfl) ?_
        refine zget hx hb hts hown hK hP hin_8 0 rfl rfl 5 (by decide) mw_595 (v := .ref (h0 3)) rfl dX8_step_97 ?_
        refine lv_iconst (v := (4 : Int32)) hx hb dX8_step_100 (by decide) ?_
        refine va_iald hx hb hK hP 3 0 rfl rfl (vin_lit (by decide)) dX8_step_101 ?_
        refine lv_icmp_lt (tgt := 122) hx hb dX8_step_102 (by decide) (fun hc => ?_) (fun hc => ?_)
        · have hf := it_t hc hf
          exact k122 (w0 0) r4 (zrem (r4 + (4 : Int32)) (8 : Int32)) (0 : Int32) H locs ls hP hD hS (lv_sub hl [4, 3, 2, 1] rfl) hf
        · have hf := it_f hc hf
          refine lv_aload_n hx hb dX8_step_105 rfl (lv_at hl 4 rfl) ?_
          refine zget hx hb hts hown hK hP hin_8 0 rfl rfl 15 (by decide) mw_605 (v := .int (w0 0 15)) rfl dX8_step_106 ?_
          refine lv_aload_n hx hb dX8_step_109 rfl (lv_at hl 4 rfl) ?_
          refine zget hx hb hts hown hK hP hin_8 0 rfl rfl 16 (by decide) mw_606 (v := .int (w0 0 16)) rfl dX8_step_110 ?_
          refine z_mmin hx hb hml hl.1 hts hown mw_729 (Nat.le_of_ble_eq_true rfl) (Nat.le_of_ble_eq_true rfl) (Nat.zero_le _) (Nat.zero_le _) dX8_step_113 ?_
          refine lv_iload hx hb dX8_step_116 (lv_at hl 0 rfl) ?_
          refine lv_iconst (v := (1 : Int32)) hx hb dX8_step_118 (by decide) ?_
          refine lv_iadd hx hb dX8_step_119 ?_
          refine lv_imul hx hb dX8_step_120 ?_
          refine lv_istore_n (lv' := [(3, .int ((zmin (w0 0 15) (w0 0 16)) * (r6 + (1 : Int32)))), (4, .int r6), (2, .int (zrem (r4 + (4 : Int32)) (8 : Int32))), (1, .int r4), (0, .ref (h0 0))]) hx hb dX8_step_121 rfl hl (by decide) rfl (fun ls hl => ?_)
          exact k122 (w0 0) r4 (zrem (r4 + (4 : Int32)) (8 : Int32)) ((zmin (w0 0 15) (w0 0 16)) * (r6 + (1 : Int32))) H locs ls hP hD hS (lv_sub hl [4, 3, 2, 0] rfl) hf
      · have hf := it_t hc hf
        refine lv_iconst (v := (2 : Int32)) hx hb dX8_step_33 (by decide) ?_
        refine lv_aload_n hx hb dX8_step_34 rfl (lv_at hl 3 rfl) ?_
        refine zget hx hb hts hown hK hP hin_8 0 rfl rfl 5 (by decide) mw_595 (v := .ref (h0 3)) rfl dX8_step_35 ?_
        refine lv_iconst (v := (0 : Int32)) hx hb dX8_step_38 (by decide) ?_
        refine va_iald hx hb hK hP 3 0 rfl rfl (vin_lit (by decide)) dX8_step_39 ?_
        refine lv_imul hx hb dX8_step_40 ?_
        refine lv_aload_n hx hb dX8_step_41 rfl (lv_at hl 3 rfl) ?_
        refine zget hx hb hts hown hK hP hin_8 0 rfl rfl 16 (by decide) mw_606 (v := .int (w0 0 16)) rfl dX8_step_42 ?_
        refine lv_iadd hx hb dX8_step_45 ?_
        refine lv_iconst (v := (2 : Int32)) hx hb dX8_step_46 (by decide) ?_
        refine lv_bipush (v := (9 : Int32)) hx hb dX8_step_47 (by decide) ?_
        refine lv_aload_n hx hb dX8_step_49 rfl (lv_at hl 3 rfl) ?_
        refine zget hx hb hts hown hK hP hin_8 0 rfl rfl 2 (by decide) mw_592 (v := .ref (h0 1)) rfl dX8_step_50 ?_
        refine lv_aload_n hx hb dX8_step_53 rfl (lv_at hl 3 rfl) ?_
        refine zget hx hb hts hown hK hP hin_8 0 rfl rfl 13 (by decide) mw_603 (v := .int (w0 0 13)) rfl dX8_step_54 ?_
        obtain ⟨hin21, hf⟩ := gd_d hf
        refine va_iald hx hb hK hP 1 0 rfl rfl hin21 dX8_step_57 ?_
        refine lv_aload_n hx hb dX8_step_58 rfl (lv_at hl 3 rfl) ?_
        refine lv_aload_n hx hb dX8_step_59 rfl (lv_at hl 3 rfl) ?_
        refine zget hx hb hts hown hK hP hin_8 0 rfl rfl 21 (by decide) mw_611 (v := .int (w0 0 21)) rfl dX8_step_60 ?_
        obtain ⟨r23, hq22, hf⟩ := ob1_d hf
        refine zroV (q := (RX8, TX8, 37)) (As := [.int (w0 0 21)]) (rest := [.int ((w0 1) ((w0 0 13)).toNatClampNeg), .int (9 : Int32), .int (2 : Int32), .int (((2 : Int32) * ((w0 3) ((0 : Int32)).toNatClampNeg)) + (w0 0 16))]) (r := r23) ⟨hx, hb, hml, hown, hts⟩ (kX8_tide_ l dC dI cy h0 (ups w0 0 (w0 0)) (w0 0 21) r23 hq22) mw_723 mw_724 mw_905 mw_9 mw_725 hdX8_tide_ rfl rfl ⟨Nat.le_of_ble_eq_true rfl, Nat.le_of_ble_eq_true rfl⟩ hP hK hG hS 0 rfl rfl [0, 1, 2, 3, 4, 5, 6, 7, 8, 9, 10, 11, 12, 13] rfl rfl hl.1 rfl (Nat.le_of_ble_eq_true rfl) dX8_step_63 ⟨Nat.zero_le _, Nat.zero_le _⟩ ?_
        refine lv_iadd hx hb dX8_step_66 ?_
        refine z_mmin hx hb hml hl.1 hts hown mw_729 (Nat.le_of_ble_eq_true rfl) (Nat.le_of_ble_eq_true rfl) (Nat.zero_le _) (Nat.zero_le _) dX8_step_67 ?_
        refine lv_imul hx hb dX8_step_70 ?_
        refine lv_iconst (v := (3 : Int32)) hx hb dX8_step_71 (by decide) ?_
        refine lv_iadd hx hb dX8_step_72 ?_
        refine lv_icmp_le (tgt := 240) hx hb dX8_step_73 (by decide) (fun hc => ?_) (fun hc => ?_)
        · have hf := it_t hc hf
          exact k240 (w0 0) r4 (0 : Int32) H locs ls hP hD hS (lv_sub hl [3, 2, 0] rfl) hf
        · have hf := it_f hc hf
          refine lv_aload_n hx hb dX8_step_76 rfl (lv_at hl 3 rfl) ?_
          refine lv_iload_n hx hb dX8_step_77 rfl (lv_at hl 1 rfl) ?_
          obtain ⟨u25, hq24, hf⟩ := ob1_d hf
          refine zwvV (q := (RX8, TX8, 37)) (As := [.int (zrem (r4 + (4 : Int32)) (8 : Int32))]) (rest := []) (u := u25) (wn := (zW_8 cy h0 (ups w0 0 u25))) ⟨hx, hb, hml, hown, hts⟩ (kX8_into l dC dI cy h0 (ups w0 0 (w0 0)) (zrem (r4 + (4 : Int32)) (8 : Int32)) H.size u25 hq24) mw_740 mw_741 mw_909 mw_9 mw_742 hdX8_into rfl rfl ⟨Nat.le_of_ble_eq_true rfl, Nat.le_of_ble_eq_true rfl⟩ hP hK hG hS 0 rfl rfl hD hA [0, 1, 2, 3, 4, 5, 6, 7, 8, 9, 10, 11, 12, 13] [] [0, 1, 2, 3, 4, 5, 6, 7, 8, 9, 10, 11, 12, 13] rfl rfl rfl rfl (by decide) rfl rfl rfl hl.1 rfl (Nat.le_of_ble_eq_true rfl) dX8_step_78 ⟨Nat.zero_le _, Nat.zero_le _⟩ (fun H locs hP hD hS => ?_)
          refine lv_goto (tgt := 240) hx hb dX8_step_81 (by decide) ?_
          exact k240 u25 r4 (0 : Int32) H locs ls hP hD hS (lv_sub hl [3, 2, 0] rfl) hf
  exact kE s.heap [] hP hD hS
set_option maxHeartbeats 4000000 in
set_option maxRecDepth 100000 in
theorem kX8_run (l : Launch) (dC : Nat → ClassId) (dI : Nat → Nat → Nat) (cy : ClassId) (h0 : Nat → Nat) (w0 : Nat → Nat → Int32) (x1 : Int32) (sz : Nat) (z : Int32 × (Nat → Int32) × (Nat → Int32)) (hf : fX8_run w0 x1 = some z) : Met l yX8_run (wsM yX8_run cX8_run 3 (some .int)) ({ frames := 4, cells := 0, slots := 0, locals := 90 } : Room) (va_Pc [.ref (h0 0), .int x1] (pWR (dC, dI) vwCl [(cy, .int)] (zW_8 cy h0 w0) sz)) (va_Qi (fun (q : Int32) (v : (Nat → Int32) × (Nat → Int32)) => (q, v) = z) (fun v => aWR (dC, dI) vwCl [(cy, .int)] (va_A (zW_8 cy h0 w0) sz) (zW_8 cy h0 (ups (ups w0 0 v.1) 9 v.2))) (va_A (zW_8 cy h0 w0) sz)) 0 0 (va_A (zW_8 cy h0 w0) sz) := by
  refine Met.ofW (cc := cX8_run) (maxL := 3) (ret := (some .int)) (by decide) rfl ?_
  intro p e s m args below meth c s₁ B hml hv
  obtain ⟨ha, hsz, hP, hK, hD0, hG⟩ := hv
  have hx := B.exec
  have hb := B.bytes
  have hr := B.returns
  have hts : ∀ w ∈ wsA, w.before args s = true := fun w h => atoms_spec (ws := wsM yX8_run cX8_run 3 (some .int)) B.pre w (List.mem_cons_of_mem _ h)
  have hown : s.vm.findClass RX8 = some m.cls := findClass_of_methodNamed B.named
  have hlocks := B.notSynchronized
  subst hsz
  have hD := hD0.self (sz := s.heap.size)
  generalize hAe : va_A (zW_8 cy h0 w0) s.heap.size = A at hD hG ⊢
  have hA : ∀ q : Nat, s.heap.size ≤ q → A q := fun q h => by rw [← hAe]; exact Or.inr h
  have hS : va_S A s.heap s.heap [] := va_S.rf
  have hP : va_P (dC, dI) vwCl (zW_8 cy h0 (ups (ups w0 0 (w0 0)) 9 (w0 9))) s.heap := hP
  have hD : va_D A (zW_8 cy h0 (ups (ups w0 0 (w0 0)) 9 (w0 9))) := hD
  have k41 : ∀ n : Nat, ∀ (c0_0 : (Nat → Int32)) (c0_9 : (Nat → Int32)) (x1 : Int32) (x2 : Int32) (H : Heap) (locs : List Loc) (ls : Array Slot), va_P (dC, dI) vwCl (zW_8 cy h0 (ups (ups w0 0 c0_0) 9 c0_9)) H → va_D A (zW_8 cy h0 (ups (ups w0 0 c0_0) 9 c0_9)) → va_S A s.heap H locs → lv_has ls 3 [(0, .ref (h0 0)), (1, .int x1), (2, .int x2)] → (zl4 (fX8_run_41 w0) n) c0_0 c0_9 x1 x2 = some z → W p l e ({ frames := 4, cells := 0, slots := 0, locals := 90 } : Room) s m args below meth c H locs 0 0 (MQ below (va_Qi (fun (q : Int32) (v : (Nat → Int32) × (Nat → Int32)) => (q, v) = z) (fun v => aWR (dC, dI) vwCl [(cy, .int)] A (zW_8 cy h0 (ups (ups w0 0 v.1) 9 v.2))) A) args s 0 0 A) (F0 m 41 ls []) := by
    intro n
    induction n with
    | zero =>
      intro c0_0 c0_9 x1 x2 H locs ls hP hD hS hl hf
      exact z_no hf
    | succ n hs41 =>
      intro c0_0 c0_9 x1 x2 H locs ls hP hD hS hl hf
      have hf : fX8_run_41 w0 (zl4 (fX8_run_41 w0) n) c0_0 c0_9 x1 x2 = some z := hf
      generalize zl4 (fX8_run_41 w0) n = s41 at hs41 hf
      unfold fX8_run_41 at hf
      refine lv_iload_n hx hb dX8_run_41 rfl (lv_at hl 2 rfl) ?_
      refine lv_iload_n hx hb dX8_run_42 rfl (lv_at hl 1 rfl) ?_
      refine lv_icmp_ge (tgt := 56) hx hb dX8_run_43 (by decide) (fun hc => ?_) (fun hc => ?_)
      · have hf := it_t hc hf
        refine lv_aload_n hx hb dX8_run_56 rfl (lv_at hl 0 rfl) ?_
        refine zget hx hb hts hown hK hP hin_8 0 rfl rfl 22 (by decide) mw_612 (v := .int (c0_0 22)) rfl dX8_run_57 ?_
        exact zretI hx hb hr hlocks hP hK hD hS hf rfl dX8_run_60
      · have hf := it_f hc hf
        refine lv_aload_n hx hb dX8_run_46 rfl (lv_at hl 0 rfl) ?_
        obtain ⟨u2, hq1, hf⟩ := ob1_d hf
        refine zwvV (q := (RX8, TX8, 37)) (As := []) (rest := []) (u := u2) (wn := (zW_8 cy h0 (ups (ups w0 0 u2) 9 c0_9))) ⟨hx, hb, hml, hown, hts⟩ (kX8_step l dC dI cy h0 (ups (ups w0 0 c0_0) 9 c0_9) H.size u2 hq1) mw_734 mw_735 mw_907 mw_9 mw_736 hdX8_step rfl rfl ⟨Nat.le_of_ble_eq_true rfl, Nat.le_of_ble_eq_true rfl⟩ hP hK hG hS 0 rfl rfl hD hA [0, 1, 2, 3, 4, 5, 6, 7, 8, 9, 10, 11, 12, 13] [] [0, 1, 2, 3, 4, 5, 6, 7, 8, 9, 10, 11, 12, 13] rfl rfl rfl rfl (by decide) rfl rfl rfl hl.1 rfl (Nat.le_of_ble_eq_true rfl) dX8_run_47 ⟨Nat.zero_le _, Nat.zero_le _⟩ (fun H locs hP hD hS => ?_)
        refine lv_zinc (lv' := [(2, .int (x2 + (1 : Int32))), (0, .ref (h0 0)), (1, .int x1)]) hx hb dX8_run_50 hl (k := 2) rfl (v := (1 : Int32)) (by decide) (by decide) rfl (fun ls hl => ?_)
        refine lv_goto (tgt := 41) hx hb dX8_run_53 (by decide) ?_
        exact hs41 u2 c0_9 x1 (x2 + (1 : Int32)) H locs ls hP hD hS (lv_sub hl [1, 2, 0] rfl) hf
  obtain ⟨ls, hl, he⟩ := zent (m := m) (n := 3) (L := [(0, .ref (h0 0)), (1, .int x1)]) ha (Nat.le_of_ble_eq_true rfl) rfl
  refine W.eq he ?_
  unfold fX8_run at hf
  have kE : ∀ (H : Heap) (locs : List Loc), va_P (dC, dI) vwCl (zW_8 cy h0 (ups (ups w0 0 (w0 0)) 9 (w0 9))) H → va_D A (zW_8 cy h0 (ups (ups w0 0 (w0 0)) 9 (w0 9))) → va_S A s.heap H locs → W p l e ({ frames := 4, cells := 0, slots := 0, locals := 90 } : Room) s m args below meth c H locs 0 0 (MQ below (va_Qi (fun (q : Int32) (v : (Nat → Int32) × (Nat → Int32)) => (q, v) = z) (fun v => aWR (dC, dI) vwCl [(cy, .int)] A (zW_8 cy h0 (ups (ups w0 0 v.1) 9 v.2))) A) args s 0 0 A) (F0 m 0 ls []) := by
    intro H locs hP hD hS
    refine lv_iload_n hx hb dX8_run_0 rfl (lv_at hl 1 rfl) ?_
    refine lv_iconst (v := (1 : Int32)) hx hb dX8_run_1 (by decide) ?_
    refine lv_icmp_ge (tgt := 12) hx hb dX8_run_2 (by decide) (fun hc => ?_) (fun hc => ?_)
    · have hf := it_t hc hf
      refine lv_iload_n hx hb dX8_run_12 rfl (lv_at hl 1 rfl) ?_
      refine lv_bipush (v := (99 : Int32)) hx hb dX8_run_13 (by decide) ?_
      refine lv_icmp_le (tgt := 25) hx hb dX8_run_15 (by decide) (fun hc => ?_) (fun hc => ?_)
      · have hf := it_t hc hf
        refine lv_aload_n hx hb dX8_run_25 rfl (lv_at hl 0 rfl) ?_
        refine zget hx hb hts hown hK hP hin_8 0 rfl rfl 12 (by decide) mw_602 (v := .int (w0 0 12)) rfl dX8_run_26 ?_
        refine lv_if_ne (tgt := 39) hx hb dX8_run_29 (by decide) (fun hc => ?_) (fun hc => ?_)
        · have hf := it_f hc hf
          refine lv_iconst (v := (0 : Int32)) hx hb dX8_run_39 (by decide) ?_
          refine lv_istore_n (lv' := [(2, .int (0 : Int32)), (0, .ref (h0 0)), (1, .int x1)]) hx hb dX8_run_40 rfl hl (by decide) rfl (fun ls hl => ?_)
          exact k41 zFU (w0 0) (w0 9) x1 (0 : Int32) H locs ls hP hD hS (lv_sub hl [1, 2, 0] rfl) hf
        · have hf := it_t hc hf
          refine lv_aload_n hx hb dX8_run_32 rfl (lv_at hl 0 rfl) ?_
          refine lv_bipush (v := (-3 : Int32)) hx hb dX8_run_33 (by decide) ?_
          obtain ⟨r4, u5, hq3, hf⟩ := ob2_d hf
          refine zwiV (q := (RX8, TX8, 37)) (As := [.int (-3 : Int32)]) (rest := []) (r := r4) (u := u5) (wn := (zW_8 cy h0 (ups (ups w0 0 (w0 0)) 9 u5))) ⟨hx, hb, hml, hown, hts⟩ (kX8_no l dC dI cy h0 (ups (ups w0 0 (w0 0)) 9 (w0 9)) (-3 : Int32) H.size (r4, u5) hq3) mw_668 mw_669 mw_898 mw_9 mw_670 hdX8_no rfl rfl ⟨Nat.le_of_ble_eq_true rfl, Nat.le_of_ble_eq_true rfl⟩ hP hK hG hS 0 rfl rfl hD hA [0, 1, 2, 3, 4, 5, 6, 7, 8, 9, 10, 11, 12, 13] [] [0, 1, 2, 3, 4, 5, 6, 7, 8, 9, 10, 11, 12, 13] rfl rfl rfl rfl (by decide) rfl rfl rfl hl.1 rfl (Nat.le_of_ble_eq_true rfl) dX8_run_35 ⟨Nat.zero_le _, Nat.zero_le _⟩ (fun H locs hP hD hS => ?_)
          exact zretI hx hb hr hlocks hP hK hD hS hf rfl dX8_run_38
      · have hf := it_f hc hf
        refine lv_aload_n hx hb dX8_run_18 rfl (lv_at hl 0 rfl) ?_
        refine lv_bipush (v := (-6 : Int32)) hx hb dX8_run_19 (by decide) ?_
        obtain ⟨r7, u8, hq6, hf⟩ := ob2_d hf
        refine zwiV (q := (RX8, TX8, 37)) (As := [.int (-6 : Int32)]) (rest := []) (r := r7) (u := u8) (wn := (zW_8 cy h0 (ups (ups w0 0 (w0 0)) 9 u8))) ⟨hx, hb, hml, hown, hts⟩ (kX8_no l dC dI cy h0 (ups (ups w0 0 (w0 0)) 9 (w0 9)) (-6 : Int32) H.size (r7, u8) hq6) mw_668 mw_669 mw_898 mw_9 mw_670 hdX8_no rfl rfl ⟨Nat.le_of_ble_eq_true rfl, Nat.le_of_ble_eq_true rfl⟩ hP hK hG hS 0 rfl rfl hD hA [0, 1, 2, 3, 4, 5, 6, 7, 8, 9, 10, 11, 12, 13] [] [0, 1, 2, 3, 4, 5, 6, 7, 8, 9, 10, 11, 12, 13] rfl rfl rfl rfl (by decide) rfl rfl rfl hl.1 rfl (Nat.le_of_ble_eq_true rfl) dX8_run_21 ⟨Nat.zero_le _, Nat.zero_le _⟩ (fun H locs hP hD hS => ?_)
        exact zretI hx hb hr hlocks hP hK hD hS hf rfl dX8_run_24
    · have hf := it_f hc hf
      refine lv_aload_n hx hb dX8_run_5 rfl (lv_at hl 0 rfl) ?_
      refine lv_bipush (v := (-4 : Int32)) hx hb dX8_run_6 (by decide) ?_
      obtain ⟨r10, u11, hq9, hf⟩ := ob2_d hf
      refine zwiV (q := (RX8, TX8, 37)) (As := [.int (-4 : Int32)]) (rest := []) (r := r10) (u := u11) (wn := (zW_8 cy h0 (ups (ups w0 0 (w0 0)) 9 u11))) ⟨hx, hb, hml, hown, hts⟩ (kX8_no l dC dI cy h0 (ups (ups w0 0 (w0 0)) 9 (w0 9)) (-4 : Int32) H.size (r10, u11) hq9) mw_668 mw_669 mw_898 mw_9 mw_670 hdX8_no rfl rfl ⟨Nat.le_of_ble_eq_true rfl, Nat.le_of_ble_eq_true rfl⟩ hP hK hG hS 0 rfl rfl hD hA [0, 1, 2, 3, 4, 5, 6, 7, 8, 9, 10, 11, 12, 13] [] [0, 1, 2, 3, 4, 5, 6, 7, 8, 9, 10, 11, 12, 13] rfl rfl rfl rfl (by decide) rfl rfl rfl hl.1 rfl (Nat.le_of_ble_eq_true rfl) dX8_run_8 ⟨Nat.zero_le _, Nat.zero_le _⟩ (fun H locs hP hD hS => ?_)
      exact zretI hx hb hr hlocks hP hK hD hS hf rfl dX8_run_11
  exact kE s.heap [] hP hD hS
set_option maxHeartbeats 4000000 in
set_option maxRecDepth 100000 in
theorem kX8_mayTurn (l : Launch) (dC : Nat → ClassId) (dI : Nat → Nat → Nat) (cy : ClassId) (h0 : Nat → Nat) (w0 : Nat → Nat → Int32) (x1 : Int32) (z : Int32) (hf : fX8_mayTurn w0 x1 = some z) : Met l yX8_mayTurn (wsM yX8_mayTurn cX8_mayTurn 2 (some .boolean)) ({ frames := 1, cells := 0, slots := 0, locals := 24 } : Room) (va_Pc [.ref (h0 0), .int x1] (pRO (dC, dI) vwCl [(cy, .int)] (zW_8 cy h0 w0))) (vp_Si (fun q => q = z)) 0 0 (fun _ => False) := by
  refine Met.ofW (cc := cX8_mayTurn) (maxL := 2) (ret := (some .boolean)) (by decide) rfl ?_
  intro p e s m args below meth c s₁ B hml hv
  obtain ⟨ha, hP, hK, hG⟩ := hv
  have hx := B.exec
  have hb := B.bytes
  have hr := B.returns
  have hts : ∀ w ∈ wsA, w.before args s = true := fun w h => atoms_spec (ws := wsM yX8_mayTurn cX8_mayTurn 2 (some .boolean)) B.pre w (List.mem_cons_of_mem _ h)
  have hown : s.vm.findClass RX8 = some m.cls := findClass_of_methodNamed B.named
  have hlocks := B.notSynchronized
  have hS : va_S (fun _ => False) s.heap s.heap [] := va_S.rf
  obtain ⟨ls, hl, he⟩ := zent (m := m) (n := 2) (L := [(0, .ref (h0 0)), (1, .int x1)]) ha (Nat.le_of_ble_eq_true rfl) rfl
  refine W.eq he ?_
  unfold fX8_mayTurn at hf
  have kE : W p l e ({ frames := 1, cells := 0, slots := 0, locals := 24 } : Room) s m args below meth c s.heap [] 0 0 (MQ below (vp_Si (fun q => q = z)) args s 0 0 (fun _ => False)) (F0 m 0 ls []) := by
    refine lv_aload_n hx hb dX8_mayTurn_0 rfl (lv_at hl 0 rfl) ?_
    refine zget hx hb hts hown hK hP hin_8 0 rfl rfl 12 (by decide) mw_602 (v := .int (w0 0 12)) rfl dX8_mayTurn_1 ?_
    refine lv_if_eq (tgt := 47) hx hb dX8_mayTurn_4 (by decide) (fun hc => ?_) (fun hc => ?_)
    · have hf := it_t hc hf
      refine lv_iconst (v := (0 : Int32)) hx hb dX8_mayTurn_47 (by decide) ?_
      exact zretRZ hx hb hr hlocks rfl hf dX8_mayTurn_48
    · have hf := it_f hc hf
      refine lv_aload_n hx hb dX8_mayTurn_7 rfl (lv_at hl 0 rfl) ?_
      obtain ⟨r2, hq1, hf⟩ := ob1_d hf
      refine zroV (q := (RX8, TX8, 37)) (As := []) (rest := []) (r := r2) ⟨hx, hb, hml, hown, hts⟩ (kX8_ended l dC dI cy h0 w0 r2 hq1) mw_737 mw_738 mw_908 mw_9 mw_739 hdX8_ended rfl rfl ⟨Nat.le_of_ble_eq_true rfl, Nat.le_of_ble_eq_true rfl⟩ hP hK hG hS 0 rfl rfl [0, 1, 2, 3, 4, 5, 6, 7, 8, 9, 10, 11, 12, 13] rfl rfl hl.1 rfl (Nat.le_of_ble_eq_true rfl) dX8_mayTurn_8 ⟨Nat.zero_le _, Nat.zero_le _⟩ ?_
      refine lv_if_ne (tgt := 47) hx hb dX8_mayTurn_11 (by decide) (fun hc => ?_) (fun hc => ?_)
      · have hf := it_f hc hf
        refine lv_iconst (v := (0 : Int32)) hx hb dX8_mayTurn_47 (by decide) ?_
        exact zretRZ hx hb hr hlocks rfl hf dX8_mayTurn_48
      · have hf := it_t hc hf
        refine lv_aload_n hx hb dX8_mayTurn_14 rfl (lv_at hl 0 rfl) ?_
        refine zget hx hb hts hown hK hP hin_8 0 rfl rfl 22 (by decide) mw_612 (v := .int (w0 0 22)) rfl dX8_mayTurn_15 ?_
        refine lv_iconst (v := (4 : Int32)) hx hb dX8_mayTurn_18 (by decide) ?_
        refine lv_icmp_eq (tgt := 47) hx hb dX8_mayTurn_19 (by decide) (fun hc => ?_) (fun hc => ?_)
        · have hf := it_t hc hf
          refine lv_iconst (v := (0 : Int32)) hx hb dX8_mayTurn_47 (by decide) ?_
          exact zretRZ hx hb hr hlocks rfl hf dX8_mayTurn_48
        · have hf := it_f hc hf
          refine lv_iload_n hx hb dX8_mayTurn_22 rfl (lv_at hl 1 rfl) ?_
          refine lv_aload_n hx hb dX8_mayTurn_23 rfl (lv_at hl 0 rfl) ?_
          refine lv_aload_n hx hb dX8_mayTurn_24 rfl (lv_at hl 0 rfl) ?_
          refine zget hx hb hts hown hK hP hin_8 0 rfl rfl 21 (by decide) mw_611 (v := .int (w0 0 21)) rfl dX8_mayTurn_25 ?_
          obtain ⟨r4, hq3, hf⟩ := ob1_d hf
          refine zroV (q := (RX8, TX8, 37)) (As := [.int (w0 0 21)]) (rest := [.int x1]) (r := r4) ⟨hx, hb, hml, hown, hts⟩ (kX8_wind_ l dC dI cy h0 w0 (w0 0 21) r4 hq3) mw_716 mw_717 mw_904 mw_9 mw_718 hdX8_wind_ rfl rfl ⟨Nat.le_of_ble_eq_true rfl, Nat.le_of_ble_eq_true rfl⟩ hP hK hG hS 0 rfl rfl [0, 1, 2, 3, 4, 5, 6, 7, 8, 9, 10, 11, 12, 13] rfl rfl hl.1 rfl (Nat.le_of_ble_eq_true rfl) dX8_mayTurn_28 ⟨Nat.zero_le _, Nat.zero_le _⟩ ?_
          obtain ⟨r6, hq5, hf⟩ := ob1_d hf
          refine zroS (As := [.int x1, .int r4]) (rest := []) (r := r6) ⟨hx, hb, hml, hown, hts⟩ (kX8_apart l dC dI cy x1 r4 r6 hq5) mw_749 mw_750 mw_9 mw_751 hdX8_apart rfl rfl ⟨Nat.le_of_ble_eq_true rfl, Nat.le_of_ble_eq_true rfl⟩ hP hK hG hS [] rfl rfl hl.1 rfl (Nat.le_of_ble_eq_true rfl) dX8_mayTurn_31 ⟨Nat.zero_le _, Nat.zero_le _⟩ ?_
          refine lv_aload_n hx hb dX8_mayTurn_34 rfl (lv_at hl 0 rfl) ?_
          refine zget hx hb hts hown hK hP hin_8 0 rfl rfl 5 (by decide) mw_595 (v := .ref (h0 3)) rfl dX8_mayTurn_35 ?_
          refine lv_iconst (v := (4 : Int32)) hx hb dX8_mayTurn_38 (by decide) ?_
          refine va_iald hx hb hK hP 3 0 rfl rfl (vin_lit (by decide)) dX8_mayTurn_39 ?_
          refine lv_icmp_lt (tgt := 47) hx hb dX8_mayTurn_40 (by decide) (fun hc => ?_) (fun hc => ?_)
          · have hf := it_t hc hf
            refine lv_iconst (v := (0 : Int32)) hx hb dX8_mayTurn_47 (by decide) ?_
            exact zretRZ hx hb hr hlocks rfl hf dX8_mayTurn_48
          · have hf := it_f hc hf
            refine lv_iconst (v := (1 : Int32)) hx hb dX8_mayTurn_43 (by decide) ?_
            refine lv_goto (tgt := 48) hx hb dX8_mayTurn_44 (by decide) ?_
            exact zretRZ hx hb hr hlocks rfl hf dX8_mayTurn_48
  exact kE
set_option maxHeartbeats 4000000 in
set_option maxRecDepth 100000 in
theorem kX8_through (l : Launch) (dC : Nat → ClassId) (dI : Nat → Nat → Nat) (cy : ClassId) (h0 : Nat → Nat) (w0 : Nat → Nat → Int32) (x1 : Int32) (z : Int32) (hf : fX8_through w0 x1 = some z) : Met l yX8_through (wsM yX8_through cX8_through 4 (some .boolean)) ({ frames := 1, cells := 0, slots := 0, locals := 24 } : Room) (va_Pc [.ref (h0 0), .int x1] (pRO (dC, dI) vwCl [(cy, .int)] (zW_8 cy h0 w0))) (vp_Si (fun q => q = z)) 0 0 (fun _ => False) := by
  refine Met.ofW (cc := cX8_through) (maxL := 4) (ret := (some .boolean)) (by decide) rfl ?_
  intro p e s m args below meth c s₁ B hml hv
  obtain ⟨ha, hP, hK, hG⟩ := hv
  have hx := B.exec
  have hb := B.bytes
  have hr := B.returns
  have hts : ∀ w ∈ wsA, w.before args s = true := fun w h => atoms_spec (ws := wsM yX8_through cX8_through 4 (some .boolean)) B.pre w (List.mem_cons_of_mem _ h)
  have hown : s.vm.findClass RX8 = some m.cls := findClass_of_methodNamed B.named
  have hlocks := B.notSynchronized
  have hS : va_S (fun _ => False) s.heap s.heap [] := va_S.rf
  obtain ⟨ls, hl, he⟩ := zent (m := m) (n := 4) (L := [(0, .ref (h0 0)), (1, .int x1)]) ha (Nat.le_of_ble_eq_true rfl) rfl
  refine W.eq he ?_
  unfold fX8_through at hf
  have kE : W p l e ({ frames := 1, cells := 0, slots := 0, locals := 24 } : Room) s m args below meth c s.heap [] 0 0 (MQ below (vp_Si (fun q => q = z)) args s 0 0 (fun _ => False)) (F0 m 0 ls []) := by
    refine lv_iload_n hx hb dX8_through_0 rfl (lv_at hl 1 rfl) ?_
    refine lv_aload_n hx hb dX8_through_1 rfl (lv_at hl 0 rfl) ?_
    refine zget hx hb hts hown hK hP hin_8 0 rfl rfl 14 (by decide) mw_604 (v := .int (w0 0 14)) rfl dX8_through_2 ?_
    refine lv_isub hx hb dX8_through_5 ?_
    refine lv_bipush (v := (8 : Int32)) hx hb dX8_through_6 (by decide) ?_
    refine lv_iadd hx hb dX8_through_8 ?_
    refine lv_bipush (v := (8 : Int32)) hx hb dX8_through_9 (by decide) ?_
    refine lv_zrem hx hb dX8_through_11 (by decide) ?_
    refine lv_istore_n (lv' := [(2, .int (zrem ((x1 - (w0 0 14)) + (8 : Int32)) (8 : Int32))), (0, .ref (h0 0)), (1, .int x1)]) hx hb dX8_through_12 rfl hl (by decide) rfl (fun ls hl => ?_)
    refine lv_aload_n hx hb dX8_through_13 rfl (lv_at hl 1 rfl) ?_
    refine lv_aload_n hx hb dX8_through_14 rfl (lv_at hl 1 rfl) ?_
    refine zget hx hb hts hown hK hP hin_8 0 rfl rfl 21 (by decide) mw_611 (v := .int (w0 0 21)) rfl dX8_through_15 ?_
    obtain ⟨r2, hq1, hf⟩ := ob1_d hf
    refine zroV (q := (RX8, TX8, 37)) (As := [.int (w0 0 21)]) (rest := []) (r := r2) ⟨hx, hb, hml, hown, hts⟩ (kX8_wind_ l dC dI cy h0 w0 (w0 0 21) r2 hq1) mw_716 mw_717 mw_904 mw_9 mw_718 hdX8_wind_ rfl rfl ⟨Nat.le_of_ble_eq_true rfl, Nat.le_of_ble_eq_true rfl⟩ hP hK hG hS 0 rfl rfl [0, 1, 2, 3, 4, 5, 6, 7, 8, 9, 10, 11, 12, 13] rfl rfl hl.1 rfl (Nat.le_of_ble_eq_true rfl) dX8_through_18 ⟨Nat.zero_le _, Nat.zero_le _⟩ ?_
    refine lv_aload_n hx hb dX8_through_21 rfl (lv_at hl 1 rfl) ?_
    refine zget hx hb hts hown hK hP hin_8 0 rfl rfl 14 (by decide) mw_604 (v := .int (w0 0 14)) rfl dX8_through_22 ?_
    refine lv_isub hx hb dX8_through_25 ?_
    refine lv_bipush (v := (8 : Int32)) hx hb dX8_through_26 (by decide) ?_
    refine lv_iadd hx hb dX8_through_28 ?_
    refine lv_bipush (v := (8 : Int32)) hx hb dX8_through_29 (by decide) ?_
    refine lv_zrem hx hb dX8_through_31 (by decide) ?_
    refine lv_istore_n (lv' := [(3, .int (zrem ((r2 - (w0 0 14)) + (8 : Int32)) (8 : Int32))), (2, .int (zrem ((x1 - (w0 0 14)) + (8 : Int32)) (8 : Int32))), (0, .ref (h0 0)), (1, .int x1)]) hx hb dX8_through_32 rfl hl (by decide) rfl (fun ls hl => ?_)
    refine lv_iload_n hx hb dX8_through_33 rfl (lv_at hl 1 rfl) ?_
    refine lv_iconst (v := (4 : Int32)) hx hb dX8_through_34 (by decide) ?_
    refine lv_icmp_eq (tgt := 42) hx hb dX8_through_35 (by decide) (fun hc => ?_) (fun hc => ?_)
    · have hf := it_t hc hf
      refine lv_iconst (v := (0 : Int32)) hx hb dX8_through_42 (by decide) ?_
      exact zretRZ hx hb hr hlocks rfl hf dX8_through_43
    · have hf := it_f hc hf
      refine lv_iload_n hx hb dX8_through_38 rfl (lv_at hl 0 rfl) ?_
      refine lv_if_ne (tgt := 44) hx hb dX8_through_39 (by decide) (fun hc => ?_) (fun hc => ?_)
      · have hf := it_f hc hf
        refine lv_iload_n hx hb dX8_through_44 rfl (lv_at hl 1 rfl) ?_
        refine lv_iconst (v := (4 : Int32)) hx hb dX8_through_45 (by decide) ?_
        refine lv_icmp_ge (tgt := 62) hx hb dX8_through_46 (by decide) (fun hc => ?_) (fun hc => ?_)
        · have hf := it_t hc hf
          refine lv_iload_n hx hb dX8_through_62 rfl (lv_at hl 0 rfl) ?_
          refine lv_iload_n hx hb dX8_through_63 rfl (lv_at hl 1 rfl) ?_
          refine lv_icmp_le (tgt := 71) hx hb dX8_through_64 (by decide) (fun hc => ?_) (fun hc => ?_)
          · have hf := it_t hc hf
            refine lv_iconst (v := (0 : Int32)) hx hb dX8_through_71 (by decide) ?_
            exact zretRZ hx hb hr hlocks rfl hf dX8_through_72
          · have hf := it_f hc hf
            refine lv_iconst (v := (1 : Int32)) hx hb dX8_through_67 (by decide) ?_
            refine lv_goto (tgt := 72) hx hb dX8_through_68 (by decide) ?_
            exact zretRZ hx hb hr hlocks rfl hf dX8_through_72
        · have hf := it_f hc hf
          refine lv_iload_n hx hb dX8_through_49 rfl (lv_at hl 0 rfl) ?_
          refine lv_iload_n hx hb dX8_through_50 rfl (lv_at hl 1 rfl) ?_
          refine lv_icmp_ge (tgt := 58) hx hb dX8_through_51 (by decide) (fun hc => ?_) (fun hc => ?_)
          · have hf := it_t hc hf
            refine lv_iconst (v := (0 : Int32)) hx hb dX8_through_58 (by decide) ?_
            refine lv_goto (tgt := 72) hx hb dX8_through_59 (by decide) ?_
            exact zretRZ hx hb hr hlocks rfl hf dX8_through_72
          · have hf := it_f hc hf
            refine lv_iconst (v := (1 : Int32)) hx hb dX8_through_54 (by decide) ?_
            refine lv_goto (tgt := 72) hx hb dX8_through_55 (by decide) ?_
            exact zretRZ hx hb hr hlocks rfl hf dX8_through_72
      · have hf := it_t hc hf
        refine lv_iconst (v := (0 : Int32)) hx hb dX8_through_42 (by decide) ?_
        exact zretRZ hx hb hr hlocks rfl hf dX8_through_43
  exact kE
set_option maxHeartbeats 4000000 in
set_option maxRecDepth 100000 in
theorem kX8_head (l : Launch) (dC : Nat → ClassId) (dI : Nat → Nat → Nat) (cy : ClassId) (h0 : Nat → Nat) (w0 : Nat → Nat → Int32) (x1 : Int32) (sz : Nat) (z : Int32 × (Nat → Int32) × (Nat → Int32)) (hf : fX8_head w0 x1 = some z) : Met l yX8_head (wsM yX8_head cX8_head 2 (some .int)) ({ frames := 2, cells := 0, slots := 0, locals := 47 } : Room) (va_Pc [.ref (h0 0), .int x1] (pWR (dC, dI) vwCl [(cy, .int)] (zW_8 cy h0 w0) sz)) (va_Qi (fun (q : Int32) (v : (Nat → Int32) × (Nat → Int32)) => (q, v) = z) (fun v => aWR (dC, dI) vwCl [(cy, .int)] (va_A (zW_8 cy h0 w0) sz) (zW_8 cy h0 (ups (ups w0 0 v.1) 9 v.2))) (va_A (zW_8 cy h0 w0) sz)) 0 0 (va_A (zW_8 cy h0 w0) sz) := by
  refine Met.ofW (cc := cX8_head) (maxL := 2) (ret := (some .int)) (by decide) rfl ?_
  intro p e s m args below meth c s₁ B hml hv
  obtain ⟨ha, hsz, hP, hK, hD0, hG⟩ := hv
  have hx := B.exec
  have hb := B.bytes
  have hr := B.returns
  have hts : ∀ w ∈ wsA, w.before args s = true := fun w h => atoms_spec (ws := wsM yX8_head cX8_head 2 (some .int)) B.pre w (List.mem_cons_of_mem _ h)
  have hown : s.vm.findClass RX8 = some m.cls := findClass_of_methodNamed B.named
  have hlocks := B.notSynchronized
  subst hsz
  have hD := hD0.self (sz := s.heap.size)
  generalize hAe : va_A (zW_8 cy h0 w0) s.heap.size = A at hD hG ⊢
  have hA : ∀ q : Nat, s.heap.size ≤ q → A q := fun q h => by rw [← hAe]; exact Or.inr h
  have hS : va_S A s.heap s.heap [] := va_S.rf
  have hP : va_P (dC, dI) vwCl (zW_8 cy h0 (ups (ups w0 0 (w0 0)) 9 (w0 9))) s.heap := hP
  have hD : va_D A (zW_8 cy h0 (ups (ups w0 0 (w0 0)) 9 (w0 9))) := hD
  have k39 : ∀ (c0_0 : (Nat → Int32)) (c0_9 : (Nat → Int32)) (H : Heap) (locs : List Loc) (ls : Array Slot), va_P (dC, dI) vwCl (zW_8 cy h0 (ups (ups w0 0 c0_0) 9 c0_9)) H → va_D A (zW_8 cy h0 (ups (ups w0 0 c0_0) 9 c0_9)) → va_S A s.heap H locs → lv_has ls 2 [(0, .ref (h0 0))] → (fX8_head_39 w0) c0_0 c0_9 = some z → W p l e ({ frames := 2, cells := 0, slots := 0, locals := 47 } : Room) s m args below meth c H locs 0 0 (MQ below (va_Qi (fun (q : Int32) (v : (Nat → Int32) × (Nat → Int32)) => (q, v) = z) (fun v => aWR (dC, dI) vwCl [(cy, .int)] A (zW_8 cy h0 (ups (ups w0 0 v.1) 9 v.2))) A) args s 0 0 A) (F0 m 39 ls []) := by
    intro c0_0 c0_9 H locs ls hP hD hS hl hf
    unfold fX8_head_39 at hf
    refine lv_aload_n hx hb dX8_head_39 rfl (lv_at hl 0 rfl) ?_
    refine lv_bipush (v := (-3 : Int32)) hx hb dX8_head_40 (by decide) ?_
    obtain ⟨r6, u7, hq5, hf⟩ := ob2_d hf
    refine zwiV (q := (RX8, TX8, 37)) (As := [.int (-3 : Int32)]) (rest := []) (r := r6) (u := u7) (wn := (zW_8 cy h0 (ups (ups w0 0 c0_0) 9 u7))) ⟨hx, hb, hml, hown, hts⟩ (kX8_no l dC dI cy h0 (ups (ups w0 0 c0_0) 9 c0_9) (-3 : Int32) H.size (r6, u7) hq5) mw_668 mw_669 mw_898 mw_9 mw_670 hdX8_no rfl rfl ⟨Nat.le_of_ble_eq_true rfl, Nat.le_of_ble_eq_true rfl⟩ hP hK hG hS 0 rfl rfl hD hA [0, 1, 2, 3, 4, 5, 6, 7, 8, 9, 10, 11, 12, 13] [] [0, 1, 2, 3, 4, 5, 6, 7, 8, 9, 10, 11, 12, 13] rfl rfl rfl rfl (by decide) rfl rfl rfl hl.1 rfl (Nat.le_of_ble_eq_true rfl) dX8_head_42 ⟨Nat.zero_le _, Nat.zero_le _⟩ (fun H locs hP hD hS => ?_)
    exact zretI hx hb hr hlocks hP hK hD hS hf rfl dX8_head_45
  have k46 : ∀ (c0_0 : (Nat → Int32)) (c0_9 : (Nat → Int32)) (x1 : Int32) (H : Heap) (locs : List Loc) (ls : Array Slot), va_P (dC, dI) vwCl (zW_8 cy h0 (ups (ups w0 0 c0_0) 9 c0_9)) H → va_D A (zW_8 cy h0 (ups (ups w0 0 c0_0) 9 c0_9)) → va_S A s.heap H locs → lv_has ls 2 [(0, .ref (h0 0)), (1, .int x1)] → (fX8_head_46 w0) c0_0 c0_9 x1 = some z → W p l e ({ frames := 2, cells := 0, slots := 0, locals := 47 } : Room) s m args below meth c H locs 0 0 (MQ below (va_Qi (fun (q : Int32) (v : (Nat → Int32) × (Nat → Int32)) => (q, v) = z) (fun v => aWR (dC, dI) vwCl [(cy, .int)] A (zW_8 cy h0 (ups (ups w0 0 v.1) 9 v.2))) A) args s 0 0 A) (F0 m 46 ls []) := by
    intro c0_0 c0_9 x1 H locs ls hP hD hS hl hf
    unfold fX8_head_46 at hf
    refine lv_aload_n hx hb dX8_head_46 rfl (lv_at hl 0 rfl) ?_
    refine lv_iload_n hx hb dX8_head_47 rfl (lv_at hl 1 rfl) ?_
    refine zput hx hb hts hown hK hP hD hS hin_8 tyX8 tyX8_ok nmX8 0 rfl rfl 14 (by decide) mw_604 rfl (v := .int x1) rfl rfl (Nat.le_of_ble_eq_true rfl) (wn := (zW_8 cy h0 (ups (ups w0 0 (ups c0_0 14 x1)) 9 c0_9))) rfl dX8_head_48 (fun H locs hP hD hS => ?_)
    refine lv_aload_n hx hb dX8_head_51 rfl (lv_at hl 0 rfl) ?_
    refine zget hx hb hts hown hK hP hin_8 0 rfl rfl 14 (by decide) mw_604 (v := .int x1) rfl dX8_head_52 ?_
    refine lv_aload_n hx hb dX8_head_55 rfl (lv_at hl 0 rfl) ?_
    refine lv_aload_n hx hb dX8_head_56 rfl (lv_at hl 0 rfl) ?_
    refine zget hx hb hts hown hK hP hin_8 0 rfl rfl 21 (by decide) mw_611 (v := .int (c0_0 21)) rfl dX8_head_57 ?_
    obtain ⟨r9, hq8, hf⟩ := ob1_d hf
    refine zroV (q := (RX8, TX8, 37)) (As := [.int (c0_0 21)]) (rest := [.int x1]) (r := r9) ⟨hx, hb, hml, hown, hts⟩ (kX8_wind_ l dC dI cy h0 (ups (ups w0 0 (ups c0_0 14 x1)) 9 c0_9) (c0_0 21) r9 hq8) mw_716 mw_717 mw_904 mw_9 mw_718 hdX8_wind_ rfl rfl ⟨Nat.le_of_ble_eq_true rfl, Nat.le_of_ble_eq_true rfl⟩ hP hK hG hS 0 rfl rfl [0, 1, 2, 3, 4, 5, 6, 7, 8, 9, 10, 11, 12, 13] rfl rfl hl.1 rfl (Nat.le_of_ble_eq_true rfl) dX8_head_60 ⟨Nat.zero_le _, Nat.zero_le _⟩ ?_
    obtain ⟨r11, hq10, hf⟩ := ob1_d hf
    refine zroS (As := [.int x1, .int r9]) (rest := []) (r := r11) ⟨hx, hb, hml, hown, hts⟩ (kX8_apart l dC dI cy x1 r9 r11 hq10) mw_749 mw_750 mw_9 mw_751 hdX8_apart rfl rfl ⟨Nat.le_of_ble_eq_true rfl, Nat.le_of_ble_eq_true rfl⟩ hP hK hG hS [] rfl rfl hl.1 rfl (Nat.le_of_ble_eq_true rfl) dX8_head_63 ⟨Nat.zero_le _, Nat.zero_le _⟩ ?_
    exact zretI hx hb hr hlocks hP hK hD hS hf rfl dX8_head_66
  obtain ⟨ls, hl, he⟩ := zent (m := m) (n := 2) (L := [(0, .ref (h0 0)), (1, .int x1)]) ha (Nat.le_of_ble_eq_true rfl) rfl
  refine W.eq he ?_
  unfold fX8_head at hf
  have kE : ∀ (H : Heap) (locs : List Loc), va_P (dC, dI) vwCl (zW_8 cy h0 (ups (ups w0 0 (w0 0)) 9 (w0 9))) H → va_D A (zW_8 cy h0 (ups (ups w0 0 (w0 0)) 9 (w0 9))) → va_S A s.heap H locs → W p l e ({ frames := 2, cells := 0, slots := 0, locals := 47 } : Room) s m args below meth c H locs 0 0 (MQ below (va_Qi (fun (q : Int32) (v : (Nat → Int32) × (Nat → Int32)) => (q, v) = z) (fun v => aWR (dC, dI) vwCl [(cy, .int)] A (zW_8 cy h0 (ups (ups w0 0 v.1) 9 v.2))) A) args s 0 0 A) (F0 m 0 ls []) := by
    intro H locs hP hD hS
    refine lv_iload_n hx hb dX8_head_0 rfl (lv_at hl 1 rfl) ?_
    obtain ⟨r2, hq1, hf⟩ := ob1_d hf
    refine zroS (As := [.int x1]) (rest := []) (r := r2) ⟨hx, hb, hml, hown, hts⟩ (kX8_isDirection l dC dI cy x1 r2 hq1) mw_696 mw_697 mw_9 mw_698 hdX8_isDirection rfl rfl ⟨Nat.le_of_ble_eq_true rfl, Nat.le_of_ble_eq_true rfl⟩ hP hK hG hS [] rfl rfl hl.1 rfl (Nat.le_of_ble_eq_true rfl) dX8_head_1 ⟨Nat.zero_le _, Nat.zero_le _⟩ ?_
    refine lv_if_ne (tgt := 13) hx hb dX8_head_4 (by decide) (fun hc => ?_) (fun hc => ?_)
    · have hf := it_f hc hf
      refine lv_aload_n hx hb dX8_head_13 rfl (lv_at hl 0 rfl) ?_
      refine lv_iload_n hx hb dX8_head_14 rfl (lv_at hl 1 rfl) ?_
      obtain ⟨r4, hq3, hf⟩ := ob1_d hf
      refine zroV (q := (RX8, TX8, 37)) (As := [.int x1]) (rest := []) (r := r4) ⟨hx, hb, hml, hown, hts⟩ (kX8_mayTurn l dC dI cy h0 (ups (ups w0 0 (w0 0)) 9 (w0 9)) x1 r4 hq3) mw_757 mw_758 mw_912 mw_9 mw_759 hdX8_mayTurn rfl rfl ⟨Nat.le_of_ble_eq_true rfl, Nat.le_of_ble_eq_true rfl⟩ hP hK hG hS 0 rfl rfl [0, 1, 2, 3, 4, 5, 6, 7, 8, 9, 10, 11, 12, 13] rfl rfl hl.1 rfl (Nat.le_of_ble_eq_true rfl) dX8_head_15 ⟨Nat.zero_le _, Nat.zero_le _⟩ ?_
      refine lv_if_eq (tgt := 39) hx hb dX8_head_18 (by decide) (fun hc => ?_) (fun hc => ?_)
      · have hf := it_t hc hf
        exact k39 (w0 0) (w0 9) H locs ls hP hD hS (lv_sub hl [0] rfl) hf
      · have hf := it_f hc hf
        refine lv_aload_n hx hb dX8_head_21 rfl (lv_at hl 0 rfl) ?_
        refine zget hx hb hts hown hK hP hin_8 0 rfl rfl 5 (by decide) mw_595 (v := .ref (h0 3)) rfl dX8_head_22 ?_
        refine lv_iconst (v := (0 : Int32)) hx hb dX8_head_25 (by decide) ?_
        refine va_iald hx hb hK hP 3 0 rfl rfl (vin_lit (by decide)) dX8_head_26 ?_
        refine lv_iconst (v := (5 : Int32)) hx hb dX8_head_27 (by decide) ?_
        refine lv_icmp_le (tgt := 46) hx hb dX8_head_28 (by decide) (fun hc => ?_) (fun hc => ?_)
        · have hf := it_t hc hf
          exact k46 (w0 0) (w0 9) x1 H locs ls hP hD hS (lv_sub hl [0, 1] rfl) hf
        · have hf := it_f hc hf
          refine lv_aload_n hx hb dX8_head_31 rfl (lv_at hl 0 rfl) ?_
          refine lv_iload_n hx hb dX8_head_32 rfl (lv_at hl 1 rfl) ?_
          obtain ⟨r13, hq12, hf⟩ := ob1_d hf
          refine zroV (q := (RX8, TX8, 37)) (As := [.int x1]) (rest := []) (r := r13) ⟨hx, hb, hml, hown, hts⟩ (kX8_through l dC dI cy h0 (ups (ups w0 0 (w0 0)) 9 (w0 9)) x1 r13 hq12) mw_760 mw_761 mw_913 mw_9 mw_762 hdX8_through rfl rfl ⟨Nat.le_of_ble_eq_true rfl, Nat.le_of_ble_eq_true rfl⟩ hP hK hG hS 0 rfl rfl [0, 1, 2, 3, 4, 5, 6, 7, 8, 9, 10, 11, 12, 13] rfl rfl hl.1 rfl (Nat.le_of_ble_eq_true rfl) dX8_head_33 ⟨Nat.zero_le _, Nat.zero_le _⟩ ?_
          refine lv_if_eq (tgt := 46) hx hb dX8_head_36 (by decide) (fun hc => ?_) (fun hc => ?_)
          · have hf := it_t hc hf
            exact k46 (w0 0) (w0 9) x1 H locs ls hP hD hS (lv_sub hl [0, 1] rfl) hf
          · have hf := it_f hc hf
            exact k39 (w0 0) (w0 9) H locs ls hP hD hS (lv_sub hl [0] rfl) hf
    · have hf := it_t hc hf
      refine lv_aload_n hx hb dX8_head_7 rfl (lv_at hl 0 rfl) ?_
      refine lv_iconst (v := (-1 : Int32)) hx hb dX8_head_8 (by decide) ?_
      obtain ⟨r15, u16, hq14, hf⟩ := ob2_d hf
      refine zwiV (q := (RX8, TX8, 37)) (As := [.int (-1 : Int32)]) (rest := []) (r := r15) (u := u16) (wn := (zW_8 cy h0 (ups (ups w0 0 (w0 0)) 9 u16))) ⟨hx, hb, hml, hown, hts⟩ (kX8_no l dC dI cy h0 (ups (ups w0 0 (w0 0)) 9 (w0 9)) (-1 : Int32) H.size (r15, u16) hq14) mw_668 mw_669 mw_898 mw_9 mw_670 hdX8_no rfl rfl ⟨Nat.le_of_ble_eq_true rfl, Nat.le_of_ble_eq_true rfl⟩ hP hK hG hS 0 rfl rfl hD hA [0, 1, 2, 3, 4, 5, 6, 7, 8, 9, 10, 11, 12, 13] [] [0, 1, 2, 3, 4, 5, 6, 7, 8, 9, 10, 11, 12, 13] rfl rfl rfl rfl (by decide) rfl rfl rfl hl.1 rfl (Nat.le_of_ble_eq_true rfl) dX8_head_9 ⟨Nat.zero_le _, Nat.zero_le _⟩ (fun H locs hP hD hS => ?_)
      exact zretI hx hb hr hlocks hP hK hD hS hf rfl dX8_head_12
  exact kE s.heap [] hP hD hS
set_option maxHeartbeats 4000000 in
set_option maxRecDepth 100000 in
theorem kX8_wears (l : Launch) (dC : Nat → ClassId) (dI : Nat → Nat → Nat) (cy : ClassId) (h0 : Nat → Nat) (w0 : Nat → Nat → Int32) (x1 : Int32) (sz : Nat) (z : (Nat → Int32)) (hf : fX8_wears w0 x1 = some z) : Met l yX8_wears (wsM yX8_wears cX8_wears 2 none) ({ frames := 3, cells := 0, slots := 0, locals := 66 } : Room) (va_Pc [.ref (h0 0), .int x1] (pWR (dC, dI) vwCl [(cy, .int)] (zW_8 cy h0 w0) sz)) (va_Qv (fun (v : (Nat → Int32)) => v = z) (fun v => aWR (dC, dI) vwCl [(cy, .int)] (va_A (zW_8 cy h0 w0) sz) (zW_8 cy h0 (ups w0 0 v))) (va_A (zW_8 cy h0 w0) sz)) 0 0 (va_A (zW_8 cy h0 w0) sz) := by
  refine Met.ofW (cc := cX8_wears) (maxL := 2) (ret := none) (by decide) rfl ?_
  intro p e s m args below meth c s₁ B hml hv
  obtain ⟨ha, hsz, hP, hK, hD0, hG⟩ := hv
  have hx := B.exec
  have hb := B.bytes
  have hr := B.returns
  have hts : ∀ w ∈ wsA, w.before args s = true := fun w h => atoms_spec (ws := wsM yX8_wears cX8_wears 2 none) B.pre w (List.mem_cons_of_mem _ h)
  have hown : s.vm.findClass RX8 = some m.cls := findClass_of_methodNamed B.named
  have hlocks := B.notSynchronized
  subst hsz
  have hD := hD0.self (sz := s.heap.size)
  generalize hAe : va_A (zW_8 cy h0 w0) s.heap.size = A at hD hG ⊢
  have hA : ∀ q : Nat, s.heap.size ≤ q → A q := fun q h => by rw [← hAe]; exact Or.inr h
  have hS : va_S A s.heap s.heap [] := va_S.rf
  have hP : va_P (dC, dI) vwCl (zW_8 cy h0 (ups w0 0 (w0 0))) s.heap := hP
  have hD : va_D A (zW_8 cy h0 (ups w0 0 (w0 0))) := hD
  obtain ⟨ls, hl, he⟩ := zent (m := m) (n := 2) (L := [(0, .ref (h0 0)), (1, .int x1)]) ha (Nat.le_of_ble_eq_true rfl) rfl
  refine W.eq he ?_
  unfold fX8_wears at hf
  have kE : ∀ (H : Heap) (locs : List Loc), va_P (dC, dI) vwCl (zW_8 cy h0 (ups w0 0 (w0 0))) H → va_D A (zW_8 cy h0 (ups w0 0 (w0 0))) → va_S A s.heap H locs → W p l e ({ frames := 3, cells := 0, slots := 0, locals := 66 } : Room) s m args below meth c H locs 0 0 (MQ below (va_Qv (fun (v : (Nat → Int32)) => v = z) (fun v => aWR (dC, dI) vwCl [(cy, .int)] A (zW_8 cy h0 (ups w0 0 v))) A) args s 0 0 A) (F0 m 0 ls []) := by
    intro H locs hP hD hS
    refine lv_aload_n hx hb dX8_wears_0 rfl (lv_at hl 0 rfl) ?_
    refine lv_iload_n hx hb dX8_wears_1 rfl (lv_at hl 1 rfl) ?_
    refine zput hx hb hts hown hK hP hD hS hin_8 tyX8 tyX8_ok nmX8 0 rfl rfl 14 (by decide) mw_604 rfl (v := .int x1) rfl rfl (Nat.le_of_ble_eq_true rfl) (wn := (zW_8 cy h0 (ups w0 0 (ups (w0 0) 14 x1)))) rfl dX8_wears_2 (fun H locs hP hD hS => ?_)
    refine lv_aload_n hx hb dX8_wears_5 rfl (lv_at hl 0 rfl) ?_
    refine lv_aload_n hx hb dX8_wears_6 rfl (lv_at hl 0 rfl) ?_
    refine lv_aload_n hx hb dX8_wears_7 rfl (lv_at hl 0 rfl) ?_
    refine zget hx hb hts hown hK hP hin_8 0 rfl rfl 21 (by decide) mw_611 (v := .int (w0 0 21)) rfl dX8_wears_8 ?_
    obtain ⟨r2, hq1, hf⟩ := ob1_d hf
    refine zroV (q := (RX8, TX8, 37)) (As := [.int (w0 0 21)]) (rest := [.ref (h0 0)]) (r := r2) ⟨hx, hb, hml, hown, hts⟩ (kX8_wind_ l dC dI cy h0 (ups w0 0 (ups (w0 0) 14 x1)) (w0 0 21) r2 hq1) mw_716 mw_717 mw_904 mw_9 mw_718 hdX8_wind_ rfl rfl ⟨Nat.le_of_ble_eq_true rfl, Nat.le_of_ble_eq_true rfl⟩ hP hK hG hS 0 rfl rfl [0, 1, 2, 3, 4, 5, 6, 7, 8, 9, 10, 11, 12, 13] rfl rfl hl.1 rfl (Nat.le_of_ble_eq_true rfl) dX8_wears_11 ⟨Nat.zero_le _, Nat.zero_le _⟩ ?_
    refine lv_iconst (v := (4 : Int32)) hx hb dX8_wears_14 (by decide) ?_
    refine lv_iadd hx hb dX8_wears_15 ?_
    refine lv_bipush (v := (8 : Int32)) hx hb dX8_wears_16 (by decide) ?_
    refine lv_zrem hx hb dX8_wears_18 (by decide) ?_
    obtain ⟨u4, hq3, hf⟩ := ob1_d hf
    refine zwvV (q := (RX8, TX8, 37)) (As := [.int (zrem (r2 + (4 : Int32)) (8 : Int32))]) (rest := []) (u := u4) (wn := (zW_8 cy h0 (ups w0 0 u4))) ⟨hx, hb, hml, hown, hts⟩ (kX8_into l dC dI cy h0 (ups w0 0 (ups (w0 0) 14 x1)) (zrem (r2 + (4 : Int32)) (8 : Int32)) H.size u4 hq3) mw_740 mw_741 mw_909 mw_9 mw_742 hdX8_into rfl rfl ⟨Nat.le_of_ble_eq_true rfl, Nat.le_of_ble_eq_true rfl⟩ hP hK hG hS 0 rfl rfl hD hA [0, 1, 2, 3, 4, 5, 6, 7, 8, 9, 10, 11, 12, 13] [] [0, 1, 2, 3, 4, 5, 6, 7, 8, 9, 10, 11, 12, 13] rfl rfl rfl rfl (by decide) rfl rfl rfl hl.1 rfl (Nat.le_of_ble_eq_true rfl) dX8_wears_19 ⟨Nat.zero_le _, Nat.zero_le _⟩ (fun H locs hP hD hS => ?_)
    refine lv_aload_n hx hb dX8_wears_22 rfl (lv_at hl 0 rfl) ?_
    obtain ⟨r6, hq5, hf⟩ := ob1_d hf
    refine zroV (q := (RX8, TX8, 37)) (As := []) (rest := []) (r := r6) ⟨hx, hb, hml, hown, hts⟩ (kX8_ended l dC dI cy h0 (ups w0 0 u4) r6 hq5) mw_737 mw_738 mw_908 mw_9 mw_739 hdX8_ended rfl rfl ⟨Nat.le_of_ble_eq_true rfl, Nat.le_of_ble_eq_true rfl⟩ hP hK hG hS 0 rfl rfl [0, 1, 2, 3, 4, 5, 6, 7, 8, 9, 10, 11, 12, 13] rfl rfl hl.1 rfl (Nat.le_of_ble_eq_true rfl) dX8_wears_23 ⟨Nat.zero_le _, Nat.zero_le _⟩ ?_
    refine lv_if_ne (tgt := 34) hx hb dX8_wears_26 (by decide) (fun hc => ?_) (fun hc => ?_)
    · have hf := it_f hc hf
      exact zretV hx hb hr hlocks hP hK hD hS hf rfl dX8_wears_34
    · have hf := it_t hc hf
      refine lv_aload_n hx hb dX8_wears_29 rfl (lv_at hl 0 rfl) ?_
      refine lv_iconst (v := (2 : Int32)) hx hb dX8_wears_30 (by decide) ?_
      refine zput hx hb hts hown hK hP hD hS hin_8 tyX8 tyX8_ok nmX8 0 rfl rfl 22 (by decide) mw_612 rfl (v := .int (2 : Int32)) rfl rfl (Nat.le_of_ble_eq_true rfl) (wn := (zW_8 cy h0 (ups w0 0 (ups u4 22 (2 : Int32))))) rfl dX8_wears_31 (fun H locs hP hD hS => ?_)
      exact zretV hx hb hr hlocks hP hK hD hS hf rfl dX8_wears_34
  exact kE s.heap [] hP hD hS
set_option maxHeartbeats 4000000 in
set_option maxRecDepth 100000 in
theorem kX8_wear (l : Launch) (dC : Nat → ClassId) (dI : Nat → Nat → Nat) (cy : ClassId) (h0 : Nat → Nat) (w0 : Nat → Nat → Int32) (x1 : Int32) (sz : Nat) (z : Int32 × (Nat → Int32) × (Nat → Int32)) (hf : fX8_wear w0 x1 = some z) : Met l yX8_wear (wsM yX8_wear cX8_wear 2 (some .int)) ({ frames := 4, cells := 0, slots := 0, locals := 87 } : Room) (va_Pc [.ref (h0 0), .int x1] (pWR (dC, dI) vwCl [(cy, .int)] (zW_8 cy h0 w0) sz)) (va_Qi (fun (q : Int32) (v : (Nat → Int32) × (Nat → Int32)) => (q, v) = z) (fun v => aWR (dC, dI) vwCl [(cy, .int)] (va_A (zW_8 cy h0 w0) sz) (zW_8 cy h0 (ups (ups w0 0 v.1) 9 v.2))) (va_A (zW_8 cy h0 w0) sz)) 0 0 (va_A (zW_8 cy h0 w0) sz) := by
  refine Met.ofW (cc := cX8_wear) (maxL := 2) (ret := (some .int)) (by decide) rfl ?_
  intro p e s m args below meth c s₁ B hml hv
  obtain ⟨ha, hsz, hP, hK, hD0, hG⟩ := hv
  have hx := B.exec
  have hb := B.bytes
  have hr := B.returns
  have hts : ∀ w ∈ wsA, w.before args s = true := fun w h => atoms_spec (ws := wsM yX8_wear cX8_wear 2 (some .int)) B.pre w (List.mem_cons_of_mem _ h)
  have hown : s.vm.findClass RX8 = some m.cls := findClass_of_methodNamed B.named
  have hlocks := B.notSynchronized
  subst hsz
  have hD := hD0.self (sz := s.heap.size)
  generalize hAe : va_A (zW_8 cy h0 w0) s.heap.size = A at hD hG ⊢
  have hA : ∀ q : Nat, s.heap.size ≤ q → A q := fun q h => by rw [← hAe]; exact Or.inr h
  have hS : va_S A s.heap s.heap [] := va_S.rf
  have hP : va_P (dC, dI) vwCl (zW_8 cy h0 (ups (ups w0 0 (w0 0)) 9 (w0 9))) s.heap := hP
  have hD : va_D A (zW_8 cy h0 (ups (ups w0 0 (w0 0)) 9 (w0 9))) := hD
  obtain ⟨ls, hl, he⟩ := zent (m := m) (n := 2) (L := [(0, .ref (h0 0)), (1, .int x1)]) ha (Nat.le_of_ble_eq_true rfl) rfl
  refine W.eq he ?_
  unfold fX8_wear at hf
  have kE : ∀ (H : Heap) (locs : List Loc), va_P (dC, dI) vwCl (zW_8 cy h0 (ups (ups w0 0 (w0 0)) 9 (w0 9))) H → va_D A (zW_8 cy h0 (ups (ups w0 0 (w0 0)) 9 (w0 9))) → va_S A s.heap H locs → W p l e ({ frames := 4, cells := 0, slots := 0, locals := 87 } : Room) s m args below meth c H locs 0 0 (MQ below (va_Qi (fun (q : Int32) (v : (Nat → Int32) × (Nat → Int32)) => (q, v) = z) (fun v => aWR (dC, dI) vwCl [(cy, .int)] A (zW_8 cy h0 (ups (ups w0 0 v.1) 9 v.2))) A) args s 0 0 A) (F0 m 0 ls []) := by
    intro H locs hP hD hS
    refine lv_iload_n hx hb dX8_wear_0 rfl (lv_at hl 1 rfl) ?_
    obtain ⟨r2, hq1, hf⟩ := ob1_d hf
    refine zroS (As := [.int x1]) (rest := []) (r := r2) ⟨hx, hb, hml, hown, hts⟩ (kX8_isDirection l dC dI cy x1 r2 hq1) mw_696 mw_697 mw_9 mw_698 hdX8_isDirection rfl rfl ⟨Nat.le_of_ble_eq_true rfl, Nat.le_of_ble_eq_true rfl⟩ hP hK hG hS [] rfl rfl hl.1 rfl (Nat.le_of_ble_eq_true rfl) dX8_wear_1 ⟨Nat.zero_le _, Nat.zero_le _⟩ ?_
    refine lv_if_ne (tgt := 13) hx hb dX8_wear_4 (by decide) (fun hc => ?_) (fun hc => ?_)
    · have hf := it_f hc hf
      refine lv_aload_n hx hb dX8_wear_13 rfl (lv_at hl 0 rfl) ?_
      refine lv_iload_n hx hb dX8_wear_14 rfl (lv_at hl 1 rfl) ?_
      obtain ⟨r4, hq3, hf⟩ := ob1_d hf
      refine zroV (q := (RX8, TX8, 37)) (As := [.int x1]) (rest := []) (r := r4) ⟨hx, hb, hml, hown, hts⟩ (kX8_mayTurn l dC dI cy h0 (ups (ups w0 0 (w0 0)) 9 (w0 9)) x1 r4 hq3) mw_757 mw_758 mw_912 mw_9 mw_759 hdX8_mayTurn rfl rfl ⟨Nat.le_of_ble_eq_true rfl, Nat.le_of_ble_eq_true rfl⟩ hP hK hG hS 0 rfl rfl [0, 1, 2, 3, 4, 5, 6, 7, 8, 9, 10, 11, 12, 13] rfl rfl hl.1 rfl (Nat.le_of_ble_eq_true rfl) dX8_wear_15 ⟨Nat.zero_le _, Nat.zero_le _⟩ ?_
      refine lv_if_ne (tgt := 28) hx hb dX8_wear_18 (by decide) (fun hc => ?_) (fun hc => ?_)
      · have hf := it_f hc hf
        refine lv_aload_n hx hb dX8_wear_28 rfl (lv_at hl 0 rfl) ?_
        refine lv_iload_n hx hb dX8_wear_29 rfl (lv_at hl 1 rfl) ?_
        obtain ⟨u6, hq5, hf⟩ := ob1_d hf
        refine zwvV (q := (RX8, TX8, 37)) (As := [.int x1]) (rest := []) (u := u6) (wn := (zW_8 cy h0 (ups (ups w0 0 u6) 9 (w0 9)))) ⟨hx, hb, hml, hown, hts⟩ (kX8_wears l dC dI cy h0 (ups (ups w0 0 (w0 0)) 9 (w0 9)) x1 H.size u6 hq5) mw_767 mw_768 mw_914 mw_9 mw_769 hdX8_wears rfl rfl ⟨Nat.le_of_ble_eq_true rfl, Nat.le_of_ble_eq_true rfl⟩ hP hK hG hS 0 rfl rfl hD hA [0, 1, 2, 3, 4, 5, 6, 7, 8, 9, 10, 11, 12, 13] [] [0, 1, 2, 3, 4, 5, 6, 7, 8, 9, 10, 11, 12, 13] rfl rfl rfl rfl (by decide) rfl rfl rfl hl.1 rfl (Nat.le_of_ble_eq_true rfl) dX8_wear_30 ⟨Nat.zero_le _, Nat.zero_le _⟩ (fun H locs hP hD hS => ?_)
        refine lv_aload_n hx hb dX8_wear_33 rfl (lv_at hl 0 rfl) ?_
        refine zget hx hb hts hown hK hP hin_8 0 rfl rfl 22 (by decide) mw_612 (v := .int (u6 22)) rfl dX8_wear_34 ?_
        exact zretI hx hb hr hlocks hP hK hD hS hf rfl dX8_wear_37
      · have hf := it_t hc hf
        refine lv_aload_n hx hb dX8_wear_21 rfl (lv_at hl 0 rfl) ?_
        refine lv_bipush (v := (-3 : Int32)) hx hb dX8_wear_22 (by decide) ?_
        obtain ⟨r8, u9, hq7, hf⟩ := ob2_d hf
        refine zwiV (q := (RX8, TX8, 37)) (As := [.int (-3 : Int32)]) (rest := []) (r := r8) (u := u9) (wn := (zW_8 cy h0 (ups (ups w0 0 (w0 0)) 9 u9))) ⟨hx, hb, hml, hown, hts⟩ (kX8_no l dC dI cy h0 (ups (ups w0 0 (w0 0)) 9 (w0 9)) (-3 : Int32) H.size (r8, u9) hq7) mw_668 mw_669 mw_898 mw_9 mw_670 hdX8_no rfl rfl ⟨Nat.le_of_ble_eq_true rfl, Nat.le_of_ble_eq_true rfl⟩ hP hK hG hS 0 rfl rfl hD hA [0, 1, 2, 3, 4, 5, 6, 7, 8, 9, 10, 11, 12, 13] [] [0, 1, 2, 3, 4, 5, 6, 7, 8, 9, 10, 11, 12, 13] rfl rfl rfl rfl (by decide) rfl rfl rfl hl.1 rfl (Nat.le_of_ble_eq_true rfl) dX8_wear_24 ⟨Nat.zero_le _, Nat.zero_le _⟩ (fun H locs hP hD hS => ?_)
        exact zretI hx hb hr hlocks hP hK hD hS hf rfl dX8_wear_27
    · have hf := it_t hc hf
      refine lv_aload_n hx hb dX8_wear_7 rfl (lv_at hl 0 rfl) ?_
      refine lv_iconst (v := (-1 : Int32)) hx hb dX8_wear_8 (by decide) ?_
      obtain ⟨r11, u12, hq10, hf⟩ := ob2_d hf
      refine zwiV (q := (RX8, TX8, 37)) (As := [.int (-1 : Int32)]) (rest := []) (r := r11) (u := u12) (wn := (zW_8 cy h0 (ups (ups w0 0 (w0 0)) 9 u12))) ⟨hx, hb, hml, hown, hts⟩ (kX8_no l dC dI cy h0 (ups (ups w0 0 (w0 0)) 9 (w0 9)) (-1 : Int32) H.size (r11, u12) hq10) mw_668 mw_669 mw_898 mw_9 mw_670 hdX8_no rfl rfl ⟨Nat.le_of_ble_eq_true rfl, Nat.le_of_ble_eq_true rfl⟩ hP hK hG hS 0 rfl rfl hD hA [0, 1, 2, 3, 4, 5, 6, 7, 8, 9, 10, 11, 12, 13] [] [0, 1, 2, 3, 4, 5, 6, 7, 8, 9, 10, 11, 12, 13] rfl rfl rfl rfl (by decide) rfl rfl rfl hl.1 rfl (Nat.le_of_ble_eq_true rfl) dX8_wear_9 ⟨Nat.zero_le _, Nat.zero_le _⟩ (fun H locs hP hD hS => ?_)
      exact zretI hx hb hr hlocks hP hK hD hS hf rfl dX8_wear_12
  exact kE s.heap [] hP hD hS
set_option maxHeartbeats 4000000 in
set_option maxRecDepth 100000 in
theorem kX8_haul (l : Launch) (dC : Nat → ClassId) (dI : Nat → Nat → Nat) (cy : ClassId) (h0 : Nat → Nat) (w0 : Nat → Nat → Int32) (x1 : Int32) (sz : Nat) (z : Int32 × (Nat → Int32) × (Nat → Int32)) (hf : fX8_haul w0 x1 = some z) : Met l yX8_haul (wsM yX8_haul cX8_haul 2 (some .int)) ({ frames := 2, cells := 0, slots := 0, locals := 45 } : Room) (va_Pc [.ref (h0 0), .int x1] (pWR (dC, dI) vwCl [(cy, .int)] (zW_8 cy h0 w0) sz)) (va_Qi (fun (q : Int32) (v : (Nat → Int32) × (Nat → Int32)) => (q, v) = z) (fun v => aWR (dC, dI) vwCl [(cy, .int)] (va_A (zW_8 cy h0 w0) sz) (zW_8 cy h0 (ups (ups w0 0 v.1) 9 v.2))) (va_A (zW_8 cy h0 w0) sz)) 0 0 (va_A (zW_8 cy h0 w0) sz) := by
  refine Met.ofW (cc := cX8_haul) (maxL := 2) (ret := (some .int)) (by decide) rfl ?_
  intro p e s m args below meth c s₁ B hml hv
  obtain ⟨ha, hsz, hP, hK, hD0, hG⟩ := hv
  have hx := B.exec
  have hb := B.bytes
  have hr := B.returns
  have hts : ∀ w ∈ wsA, w.before args s = true := fun w h => atoms_spec (ws := wsM yX8_haul cX8_haul 2 (some .int)) B.pre w (List.mem_cons_of_mem _ h)
  have hown : s.vm.findClass RX8 = some m.cls := findClass_of_methodNamed B.named
  have hlocks := B.notSynchronized
  subst hsz
  have hD := hD0.self (sz := s.heap.size)
  generalize hAe : va_A (zW_8 cy h0 w0) s.heap.size = A at hD hG ⊢
  have hA : ∀ q : Nat, s.heap.size ≤ q → A q := fun q h => by rw [← hAe]; exact Or.inr h
  have hS : va_S A s.heap s.heap [] := va_S.rf
  have hP : va_P (dC, dI) vwCl (zW_8 cy h0 (ups (ups w0 0 (w0 0)) 9 (w0 9))) s.heap := hP
  have hD : va_D A (zW_8 cy h0 (ups (ups w0 0 (w0 0)) 9 (w0 9))) := hD
  have k28 : ∀ (c0_0 : (Nat → Int32)) (c0_9 : (Nat → Int32)) (H : Heap) (locs : List Loc) (ls : Array Slot), va_P (dC, dI) vwCl (zW_8 cy h0 (ups (ups w0 0 c0_0) 9 c0_9)) H → va_D A (zW_8 cy h0 (ups (ups w0 0 c0_0) 9 c0_9)) → va_S A s.heap H locs → lv_has ls 2 [(0, .ref (h0 0))] → (fX8_haul_28 w0) c0_0 c0_9 = some z → W p l e ({ frames := 2, cells := 0, slots := 0, locals := 45 } : Room) s m args below meth c H locs 0 0 (MQ below (va_Qi (fun (q : Int32) (v : (Nat → Int32) × (Nat → Int32)) => (q, v) = z) (fun v => aWR (dC, dI) vwCl [(cy, .int)] A (zW_8 cy h0 (ups (ups w0 0 v.1) 9 v.2))) A) args s 0 0 A) (F0 m 28 ls []) := by
    intro c0_0 c0_9 H locs ls hP hD hS hl hf
    unfold fX8_haul_28 at hf
    refine lv_aload_n hx hb dX8_haul_28 rfl (lv_at hl 0 rfl) ?_
    refine lv_bipush (v := (-3 : Int32)) hx hb dX8_haul_29 (by decide) ?_
    obtain ⟨r6, u7, hq5, hf⟩ := ob2_d hf
    refine zwiV (q := (RX8, TX8, 37)) (As := [.int (-3 : Int32)]) (rest := []) (r := r6) (u := u7) (wn := (zW_8 cy h0 (ups (ups w0 0 c0_0) 9 u7))) ⟨hx, hb, hml, hown, hts⟩ (kX8_no l dC dI cy h0 (ups (ups w0 0 c0_0) 9 c0_9) (-3 : Int32) H.size (r6, u7) hq5) mw_668 mw_669 mw_898 mw_9 mw_670 hdX8_no rfl rfl ⟨Nat.le_of_ble_eq_true rfl, Nat.le_of_ble_eq_true rfl⟩ hP hK hG hS 0 rfl rfl hD hA [0, 1, 2, 3, 4, 5, 6, 7, 8, 9, 10, 11, 12, 13] [] [0, 1, 2, 3, 4, 5, 6, 7, 8, 9, 10, 11, 12, 13] rfl rfl rfl rfl (by decide) rfl rfl rfl hl.1 rfl (Nat.le_of_ble_eq_true rfl) dX8_haul_31 ⟨Nat.zero_le _, Nat.zero_le _⟩ (fun H locs hP hD hS => ?_)
    exact zretI hx hb hr hlocks hP hK hD hS hf rfl dX8_haul_34
  obtain ⟨ls, hl, he⟩ := zent (m := m) (n := 2) (L := [(0, .ref (h0 0)), (1, .int x1)]) ha (Nat.le_of_ble_eq_true rfl) rfl
  refine W.eq he ?_
  unfold fX8_haul at hf
  have kE : ∀ (H : Heap) (locs : List Loc), va_P (dC, dI) vwCl (zW_8 cy h0 (ups (ups w0 0 (w0 0)) 9 (w0 9))) H → va_D A (zW_8 cy h0 (ups (ups w0 0 (w0 0)) 9 (w0 9))) → va_S A s.heap H locs → W p l e ({ frames := 2, cells := 0, slots := 0, locals := 45 } : Room) s m args below meth c H locs 0 0 (MQ below (va_Qi (fun (q : Int32) (v : (Nat → Int32) × (Nat → Int32)) => (q, v) = z) (fun v => aWR (dC, dI) vwCl [(cy, .int)] A (zW_8 cy h0 (ups (ups w0 0 v.1) 9 v.2))) A) args s 0 0 A) (F0 m 0 ls []) := by
    intro H locs hP hD hS
    refine lv_iload_n hx hb dX8_haul_0 rfl (lv_at hl 1 rfl) ?_
    obtain ⟨r2, hq1, hf⟩ := ob1_d hf
    refine zroS (As := [.int x1]) (rest := []) (r := r2) ⟨hx, hb, hml, hown, hts⟩ (kX8_isDirection l dC dI cy x1 r2 hq1) mw_696 mw_697 mw_9 mw_698 hdX8_isDirection rfl rfl ⟨Nat.le_of_ble_eq_true rfl, Nat.le_of_ble_eq_true rfl⟩ hP hK hG hS [] rfl rfl hl.1 rfl (Nat.le_of_ble_eq_true rfl) dX8_haul_1 ⟨Nat.zero_le _, Nat.zero_le _⟩ ?_
    refine lv_if_ne (tgt := 13) hx hb dX8_haul_4 (by decide) (fun hc => ?_) (fun hc => ?_)
    · have hf := it_f hc hf
      refine lv_aload_n hx hb dX8_haul_13 rfl (lv_at hl 0 rfl) ?_
      refine lv_iload_n hx hb dX8_haul_14 rfl (lv_at hl 1 rfl) ?_
      obtain ⟨r4, hq3, hf⟩ := ob1_d hf
      refine zroV (q := (RX8, TX8, 37)) (As := [.int x1]) (rest := []) (r := r4) ⟨hx, hb, hml, hown, hts⟩ (kX8_mayTurn l dC dI cy h0 (ups (ups w0 0 (w0 0)) 9 (w0 9)) x1 r4 hq3) mw_757 mw_758 mw_912 mw_9 mw_759 hdX8_mayTurn rfl rfl ⟨Nat.le_of_ble_eq_true rfl, Nat.le_of_ble_eq_true rfl⟩ hP hK hG hS 0 rfl rfl [0, 1, 2, 3, 4, 5, 6, 7, 8, 9, 10, 11, 12, 13] rfl rfl hl.1 rfl (Nat.le_of_ble_eq_true rfl) dX8_haul_15 ⟨Nat.zero_le _, Nat.zero_le _⟩ ?_
      refine lv_if_eq (tgt := 28) hx hb dX8_haul_18 (by decide) (fun hc => ?_) (fun hc => ?_)
      · have hf := it_t hc hf
        exact k28 (w0 0) (w0 9) H locs ls hP hD hS (lv_sub hl [0] rfl) hf
      · have hf := it_f hc hf
        refine lv_aload_n hx hb dX8_haul_21 rfl (lv_at hl 0 rfl) ?_
        refine zget hx hb hts hown hK hP hin_8 0 rfl rfl 17 (by decide) mw_607 (v := .int (w0 0 17)) rfl dX8_haul_22 ?_
        refine lv_if_ne (tgt := 35) hx hb dX8_haul_25 (by decide) (fun hc => ?_) (fun hc => ?_)
        · have hf := it_f hc hf
          refine lv_aload_n hx hb dX8_haul_35 rfl (lv_at hl 0 rfl) ?_
          refine lv_iload_n hx hb dX8_haul_36 rfl (lv_at hl 1 rfl) ?_
          refine zput hx hb hts hown hK hP hD hS hin_8 tyX8 tyX8_ok nmX8 0 rfl rfl 14 (by decide) mw_604 rfl (v := .int x1) rfl rfl (Nat.le_of_ble_eq_true rfl) (wn := (zW_8 cy h0 (ups (ups w0 0 (ups (w0 0) 14 x1)) 9 (w0 9)))) rfl dX8_haul_37 (fun H locs hP hD hS => ?_)
          refine lv_aload_n hx hb dX8_haul_40 rfl (lv_at hl 0 rfl) ?_
          refine lv_iconst (v := (3 : Int32)) hx hb dX8_haul_41 (by decide) ?_
          refine zput hx hb hts hown hK hP hD hS hin_8 tyX8 tyX8_ok nmX8 0 rfl rfl 22 (by decide) mw_612 rfl (v := .int (3 : Int32)) rfl rfl (Nat.le_of_ble_eq_true rfl) (wn := (zW_8 cy h0 (ups (ups w0 0 (ups (ups (w0 0) 14 x1) 22 (3 : Int32))) 9 (w0 9)))) rfl dX8_haul_42 (fun H locs hP hD hS => ?_)
          refine lv_aload_n hx hb dX8_haul_45 rfl (lv_at hl 0 rfl) ?_
          refine lv_dup hx hb dX8_haul_46 rfl ?_
          refine zget hx hb hts hown hK hP hin_8 0 rfl rfl 17 (by decide) mw_607 (v := .int (w0 0 17)) rfl dX8_haul_47 ?_
          refine lv_iconst (v := (1 : Int32)) hx hb dX8_haul_50 (by decide) ?_
          refine lv_isub hx hb dX8_haul_51 ?_
          refine lv_dup_x1 hx hb dX8_haul_52 rfl rfl ?_
          refine zput hx hb hts hown hK hP hD hS hin_8 tyX8 tyX8_ok nmX8 0 rfl rfl 17 (by decide) mw_607 rfl (v := .int ((w0 0 17) - (1 : Int32))) rfl rfl (Nat.le_of_ble_eq_true rfl) (wn := (zW_8 cy h0 (ups (ups w0 0 (ups (ups (ups (w0 0) 14 x1) 22 (3 : Int32)) 17 ((w0 0 17) - (1 : Int32)))) 9 (w0 9)))) rfl dX8_haul_53 (fun H locs hP hD hS => ?_)
          exact zretI hx hb hr hlocks hP hK hD hS hf rfl dX8_haul_56
        · have hf := it_t hc hf
          exact k28 (w0 0) (w0 9) H locs ls hP hD hS (lv_sub hl [0] rfl) hf
    · have hf := it_t hc hf
      refine lv_aload_n hx hb dX8_haul_7 rfl (lv_at hl 0 rfl) ?_
      refine lv_iconst (v := (-1 : Int32)) hx hb dX8_haul_8 (by decide) ?_
      obtain ⟨r9, u10, hq8, hf⟩ := ob2_d hf
      refine zwiV (q := (RX8, TX8, 37)) (As := [.int (-1 : Int32)]) (rest := []) (r := r9) (u := u10) (wn := (zW_8 cy h0 (ups (ups w0 0 (w0 0)) 9 u10))) ⟨hx, hb, hml, hown, hts⟩ (kX8_no l dC dI cy h0 (ups (ups w0 0 (w0 0)) 9 (w0 9)) (-1 : Int32) H.size (r9, u10) hq8) mw_668 mw_669 mw_898 mw_9 mw_670 hdX8_no rfl rfl ⟨Nat.le_of_ble_eq_true rfl, Nat.le_of_ble_eq_true rfl⟩ hP hK hG hS 0 rfl rfl hD hA [0, 1, 2, 3, 4, 5, 6, 7, 8, 9, 10, 11, 12, 13] [] [0, 1, 2, 3, 4, 5, 6, 7, 8, 9, 10, 11, 12, 13] rfl rfl rfl rfl (by decide) rfl rfl rfl hl.1 rfl (Nat.le_of_ble_eq_true rfl) dX8_haul_9 ⟨Nat.zero_le _, Nat.zero_le _⟩ (fun H locs hP hD hS => ?_)
      exact zretI hx hb hr hlocks hP hK hD hS hf rfl dX8_haul_12
  exact kE s.heap [] hP hD hS
set_option maxHeartbeats 4000000 in
set_option maxRecDepth 100000 in
theorem kX8_sail (l : Launch) (dC : Nat → ClassId) (dI : Nat → Nat → Nat) (cy : ClassId) (h0 : Nat → Nat) (w0 : Nat → Nat → Int32) (x1 : Int32) (sz : Nat) (z : Int32 × (Nat → Int32) × (Nat → Int32)) (hf : fX8_sail w0 x1 = some z) : Met l yX8_sail (wsM yX8_sail cX8_sail 3 (some .int)) ({ frames := 1, cells := 0, slots := 0, locals := 21 } : Room) (va_Pc [.ref (h0 0), .int x1] (pWR (dC, dI) vwCl [(cy, .int)] (zW_8 cy h0 w0) sz)) (va_Qi (fun (q : Int32) (v : (Nat → Int32) × (Nat → Int32)) => (q, v) = z) (fun v => aWR (dC, dI) vwCl [(cy, .int)] (va_A (zW_8 cy h0 w0) sz) (zW_8 cy h0 (ups (ups w0 0 v.1) 9 v.2))) (va_A (zW_8 cy h0 w0) sz)) 0 0 (va_A (zW_8 cy h0 w0) sz) := by
  refine Met.ofW (cc := cX8_sail) (maxL := 3) (ret := (some .int)) (by decide) rfl ?_
  intro p e s m args below meth c s₁ B hml hv
  obtain ⟨ha, hsz, hP, hK, hD0, hG⟩ := hv
  have hx := B.exec
  have hb := B.bytes
  have hr := B.returns
  have hts : ∀ w ∈ wsA, w.before args s = true := fun w h => atoms_spec (ws := wsM yX8_sail cX8_sail 3 (some .int)) B.pre w (List.mem_cons_of_mem _ h)
  have hown : s.vm.findClass RX8 = some m.cls := findClass_of_methodNamed B.named
  have hlocks := B.notSynchronized
  subst hsz
  have hD := hD0.self (sz := s.heap.size)
  generalize hAe : va_A (zW_8 cy h0 w0) s.heap.size = A at hD hG ⊢
  have hA : ∀ q : Nat, s.heap.size ≤ q → A q := fun q h => by rw [← hAe]; exact Or.inr h
  have hS : va_S A s.heap s.heap [] := va_S.rf
  have hP : va_P (dC, dI) vwCl (zW_8 cy h0 (ups (ups w0 0 (w0 0)) 9 (w0 9))) s.heap := hP
  have hD : va_D A (zW_8 cy h0 (ups (ups w0 0 (w0 0)) 9 (w0 9))) := hD
  have k37 : ∀ (c0_0 : (Nat → Int32)) (c0_9 : (Nat → Int32)) (H : Heap) (locs : List Loc) (ls : Array Slot), va_P (dC, dI) vwCl (zW_8 cy h0 (ups (ups w0 0 c0_0) 9 c0_9)) H → va_D A (zW_8 cy h0 (ups (ups w0 0 c0_0) 9 c0_9)) → va_S A s.heap H locs → lv_has ls 3 [(0, .ref (h0 0))] → (fX8_sail_37 w0) c0_0 c0_9 = some z → W p l e ({ frames := 1, cells := 0, slots := 0, locals := 21 } : Room) s m args below meth c H locs 0 0 (MQ below (va_Qi (fun (q : Int32) (v : (Nat → Int32) × (Nat → Int32)) => (q, v) = z) (fun v => aWR (dC, dI) vwCl [(cy, .int)] A (zW_8 cy h0 (ups (ups w0 0 v.1) 9 v.2))) A) args s 0 0 A) (F0 m 37 ls []) := by
    intro c0_0 c0_9 H locs ls hP hD hS hl hf
    unfold fX8_sail_37 at hf
    refine lv_aload_n hx hb dX8_sail_37 rfl (lv_at hl 0 rfl) ?_
    refine lv_bipush (v := (-3 : Int32)) hx hb dX8_sail_38 (by decide) ?_
    obtain ⟨r2, u3, hq1, hf⟩ := ob2_d hf
    refine zwiV (q := (RX8, TX8, 37)) (As := [.int (-3 : Int32)]) (rest := []) (r := r2) (u := u3) (wn := (zW_8 cy h0 (ups (ups w0 0 c0_0) 9 u3))) ⟨hx, hb, hml, hown, hts⟩ (kX8_no l dC dI cy h0 (ups (ups w0 0 c0_0) 9 c0_9) (-3 : Int32) H.size (r2, u3) hq1) mw_668 mw_669 mw_898 mw_9 mw_670 hdX8_no rfl rfl ⟨Nat.le_of_ble_eq_true rfl, Nat.le_of_ble_eq_true rfl⟩ hP hK hG hS 0 rfl rfl hD hA [0, 1, 2, 3, 4, 5, 6, 7, 8, 9, 10, 11, 12, 13] [] [0, 1, 2, 3, 4, 5, 6, 7, 8, 9, 10, 11, 12, 13] rfl rfl rfl rfl (by decide) rfl rfl rfl hl.1 rfl (Nat.le_of_ble_eq_true rfl) dX8_sail_40 ⟨Nat.zero_le _, Nat.zero_le _⟩ (fun H locs hP hD hS => ?_)
    exact zretI hx hb hr hlocks hP hK hD hS hf rfl dX8_sail_43
  obtain ⟨ls, hl, he⟩ := zent (m := m) (n := 3) (L := [(0, .ref (h0 0)), (1, .int x1)]) ha (Nat.le_of_ble_eq_true rfl) rfl
  refine W.eq he ?_
  unfold fX8_sail at hf
  have kE : ∀ (H : Heap) (locs : List Loc), va_P (dC, dI) vwCl (zW_8 cy h0 (ups (ups w0 0 (w0 0)) 9 (w0 9))) H → va_D A (zW_8 cy h0 (ups (ups w0 0 (w0 0)) 9 (w0 9))) → va_S A s.heap H locs → W p l e ({ frames := 1, cells := 0, slots := 0, locals := 21 } : Room) s m args below meth c H locs 0 0 (MQ below (va_Qi (fun (q : Int32) (v : (Nat → Int32) × (Nat → Int32)) => (q, v) = z) (fun v => aWR (dC, dI) vwCl [(cy, .int)] A (zW_8 cy h0 (ups (ups w0 0 v.1) 9 v.2))) A) args s 0 0 A) (F0 m 0 ls []) := by
    intro H locs hP hD hS
    refine lv_iload_n hx hb dX8_sail_0 rfl (lv_at hl 1 rfl) ?_
    refine lv_if_ge (tgt := 11) hx hb dX8_sail_1 (by decide) (fun hc => ?_) (fun hc => ?_)
    · have hf := it_t hc hf
      refine lv_iload_n hx hb dX8_sail_11 rfl (lv_at hl 1 rfl) ?_
      refine lv_iconst (v := (3 : Int32)) hx hb dX8_sail_12 (by decide) ?_
      refine lv_icmp_le (tgt := 23) hx hb dX8_sail_13 (by decide) (fun hc => ?_) (fun hc => ?_)
      · have hf := it_t hc hf
        refine lv_aload_n hx hb dX8_sail_23 rfl (lv_at hl 0 rfl) ?_
        refine zget hx hb hts hown hK hP hin_8 0 rfl rfl 12 (by decide) mw_602 (v := .int (w0 0 12)) rfl dX8_sail_24 ?_
        refine lv_if_eq (tgt := 37) hx hb dX8_sail_27 (by decide) (fun hc => ?_) (fun hc => ?_)
        · have hf := it_t hc hf
          exact k37 (w0 0) (w0 9) H locs ls hP hD hS (lv_sub hl [0] rfl) hf
        · have hf := it_f hc hf
          refine lv_aload_n hx hb dX8_sail_30 rfl (lv_at hl 0 rfl) ?_
          obtain ⟨r5, hq4, hf⟩ := ob1_d hf
          refine zroV (q := (RX8, TX8, 37)) (As := []) (rest := []) (r := r5) ⟨hx, hb, hml, hown, hts⟩ (kX8_ended l dC dI cy h0 (ups (ups w0 0 (w0 0)) 9 (w0 9)) r5 hq4) mw_737 mw_738 mw_908 mw_9 mw_739 hdX8_ended rfl rfl ⟨Nat.le_of_ble_eq_true rfl, Nat.le_of_ble_eq_true rfl⟩ hP hK hG hS 0 rfl rfl [0, 1, 2, 3, 4, 5, 6, 7, 8, 9, 10, 11, 12, 13] rfl rfl hl.1 rfl (Nat.le_of_ble_eq_true rfl) dX8_sail_31 ⟨Nat.zero_le _, Nat.zero_le _⟩ ?_
          refine lv_if_eq (tgt := 44) hx hb dX8_sail_34 (by decide) (fun hc => ?_) (fun hc => ?_)
          · have hf := it_t hc hf
            refine lv_aload_n hx hb dX8_sail_44 rfl (lv_at hl 0 rfl) ?_
            refine zget hx hb hts hown hK hP hin_8 0 rfl rfl 15 (by decide) mw_605 (v := .int (w0 0 15)) rfl dX8_sail_45 ?_
            refine lv_istore_n (lv' := [(2, .int (w0 0 15)), (0, .ref (h0 0)), (1, .int x1)]) hx hb dX8_sail_48 rfl hl (by decide) rfl (fun ls hl => ?_)
            refine lv_aload_n hx hb dX8_sail_49 rfl (lv_at hl 1 rfl) ?_
            refine lv_iload_n hx hb dX8_sail_50 rfl (lv_at hl 2 rfl) ?_
            refine zput hx hb hts hown hK hP hD hS hin_8 tyX8 tyX8_ok nmX8 0 rfl rfl 15 (by decide) mw_605 rfl (v := .int x1) rfl rfl (Nat.le_of_ble_eq_true rfl) (wn := (zW_8 cy h0 (ups (ups w0 0 (ups (w0 0) 15 x1)) 9 (w0 9)))) rfl dX8_sail_51 (fun H locs hP hD hS => ?_)
            refine lv_iload_n hx hb dX8_sail_54 rfl (lv_at hl 0 rfl) ?_
            exact zretI hx hb hr hlocks hP hK hD hS hf rfl dX8_sail_55
          · have hf := it_f hc hf
            exact k37 (w0 0) (w0 9) H locs ls hP hD hS (lv_sub hl [0] rfl) hf
      · have hf := it_f hc hf
        refine lv_aload_n hx hb dX8_sail_16 rfl (lv_at hl 0 rfl) ?_
        refine lv_bipush (v := (-6 : Int32)) hx hb dX8_sail_17 (by decide) ?_
        obtain ⟨r7, u8, hq6, hf⟩ := ob2_d hf
        refine zwiV (q := (RX8, TX8, 37)) (As := [.int (-6 : Int32)]) (rest := []) (r := r7) (u := u8) (wn := (zW_8 cy h0 (ups (ups w0 0 (w0 0)) 9 u8))) ⟨hx, hb, hml, hown, hts⟩ (kX8_no l dC dI cy h0 (ups (ups w0 0 (w0 0)) 9 (w0 9)) (-6 : Int32) H.size (r7, u8) hq6) mw_668 mw_669 mw_898 mw_9 mw_670 hdX8_no rfl rfl ⟨Nat.le_of_ble_eq_true rfl, Nat.le_of_ble_eq_true rfl⟩ hP hK hG hS 0 rfl rfl hD hA [0, 1, 2, 3, 4, 5, 6, 7, 8, 9, 10, 11, 12, 13] [] [0, 1, 2, 3, 4, 5, 6, 7, 8, 9, 10, 11, 12, 13] rfl rfl rfl rfl (by decide) rfl rfl rfl hl.1 rfl (Nat.le_of_ble_eq_true rfl) dX8_sail_19 ⟨Nat.zero_le _, Nat.zero_le _⟩ (fun H locs hP hD hS => ?_)
        exact zretI hx hb hr hlocks hP hK hD hS hf rfl dX8_sail_22
    · have hf := it_f hc hf
      refine lv_aload_n hx hb dX8_sail_4 rfl (lv_at hl 0 rfl) ?_
      refine lv_bipush (v := (-4 : Int32)) hx hb dX8_sail_5 (by decide) ?_
      obtain ⟨r10, u11, hq9, hf⟩ := ob2_d hf
      refine zwiV (q := (RX8, TX8, 37)) (As := [.int (-4 : Int32)]) (rest := []) (r := r10) (u := u11) (wn := (zW_8 cy h0 (ups (ups w0 0 (w0 0)) 9 u11))) ⟨hx, hb, hml, hown, hts⟩ (kX8_no l dC dI cy h0 (ups (ups w0 0 (w0 0)) 9 (w0 9)) (-4 : Int32) H.size (r10, u11) hq9) mw_668 mw_669 mw_898 mw_9 mw_670 hdX8_no rfl rfl ⟨Nat.le_of_ble_eq_true rfl, Nat.le_of_ble_eq_true rfl⟩ hP hK hG hS 0 rfl rfl hD hA [0, 1, 2, 3, 4, 5, 6, 7, 8, 9, 10, 11, 12, 13] [] [0, 1, 2, 3, 4, 5, 6, 7, 8, 9, 10, 11, 12, 13] rfl rfl rfl rfl (by decide) rfl rfl rfl hl.1 rfl (Nat.le_of_ble_eq_true rfl) dX8_sail_7 ⟨Nat.zero_le _, Nat.zero_le _⟩ (fun H locs hP hD hS => ?_)
      exact zretI hx hb hr hlocks hP hK hD hS hf rfl dX8_sail_10
  exact kE s.heap [] hP hD hS
set_option maxHeartbeats 4000000 in
set_option maxRecDepth 100000 in
theorem kX8_mayAnchor (l : Launch) (dC : Nat → ClassId) (dI : Nat → Nat → Nat) (cy : ClassId) (h0 : Nat → Nat) (w0 : Nat → Nat → Int32) (z : Int32) (hf : fX8_mayAnchor w0 = some z) : Met l yX8_mayAnchor (wsM yX8_mayAnchor cX8_mayAnchor 1 (some .boolean)) ({ frames := 1, cells := 0, slots := 0, locals := 20 } : Room) (va_Pc [.ref (h0 0)] (pRO (dC, dI) vwCl [(cy, .int)] (zW_8 cy h0 w0))) (vp_Si (fun q => q = z)) 0 0 (fun _ => False) := by
  refine Met.ofW (cc := cX8_mayAnchor) (maxL := 1) (ret := (some .boolean)) (by decide) rfl ?_
  intro p e s m args below meth c s₁ B hml hv
  obtain ⟨ha, hP, hK, hG⟩ := hv
  have hx := B.exec
  have hb := B.bytes
  have hr := B.returns
  have hts : ∀ w ∈ wsA, w.before args s = true := fun w h => atoms_spec (ws := wsM yX8_mayAnchor cX8_mayAnchor 1 (some .boolean)) B.pre w (List.mem_cons_of_mem _ h)
  have hown : s.vm.findClass RX8 = some m.cls := findClass_of_methodNamed B.named
  have hlocks := B.notSynchronized
  have hS : va_S (fun _ => False) s.heap s.heap [] := va_S.rf
  obtain ⟨ls, hl, he⟩ := zent (m := m) (n := 1) (L := [(0, .ref (h0 0))]) ha (Nat.le_of_ble_eq_true rfl) rfl
  refine W.eq he ?_
  unfold fX8_mayAnchor at hf
  have kE : W p l e ({ frames := 1, cells := 0, slots := 0, locals := 20 } : Room) s m args below meth c s.heap [] 0 0 (MQ below (vp_Si (fun q => q = z)) args s 0 0 (fun _ => False)) (F0 m 0 ls []) := by
    refine lv_aload_n hx hb dX8_mayAnchor_0 rfl (lv_at hl 0 rfl) ?_
    refine zget hx hb hts hown hK hP hin_8 0 rfl rfl 12 (by decide) mw_602 (v := .int (w0 0 12)) rfl dX8_mayAnchor_1 ?_
    refine lv_if_eq (tgt := 33) hx hb dX8_mayAnchor_4 (by decide) (fun hc => ?_) (fun hc => ?_)
    · have hf := it_t hc hf
      refine lv_iconst (v := (0 : Int32)) hx hb dX8_mayAnchor_33 (by decide) ?_
      exact zretRZ hx hb hr hlocks rfl hf dX8_mayAnchor_34
    · have hf := it_f hc hf
      refine lv_aload_n hx hb dX8_mayAnchor_7 rfl (lv_at hl 0 rfl) ?_
      obtain ⟨r2, hq1, hf⟩ := ob1_d hf
      refine zroV (q := (RX8, TX8, 37)) (As := []) (rest := []) (r := r2) ⟨hx, hb, hml, hown, hts⟩ (kX8_ended l dC dI cy h0 w0 r2 hq1) mw_737 mw_738 mw_908 mw_9 mw_739 hdX8_ended rfl rfl ⟨Nat.le_of_ble_eq_true rfl, Nat.le_of_ble_eq_true rfl⟩ hP hK hG hS 0 rfl rfl [0, 1, 2, 3, 4, 5, 6, 7, 8, 9, 10, 11, 12, 13] rfl rfl hl.1 rfl (Nat.le_of_ble_eq_true rfl) dX8_mayAnchor_8 ⟨Nat.zero_le _, Nat.zero_le _⟩ ?_
      refine lv_if_ne (tgt := 33) hx hb dX8_mayAnchor_11 (by decide) (fun hc => ?_) (fun hc => ?_)
      · have hf := it_f hc hf
        refine lv_iconst (v := (0 : Int32)) hx hb dX8_mayAnchor_33 (by decide) ?_
        exact zretRZ hx hb hr hlocks rfl hf dX8_mayAnchor_34
      · have hf := it_t hc hf
        refine lv_aload_n hx hb dX8_mayAnchor_14 rfl (lv_at hl 0 rfl) ?_
        refine zget hx hb hts hown hK hP hin_8 0 rfl rfl 22 (by decide) mw_612 (v := .int (w0 0 22)) rfl dX8_mayAnchor_15 ?_
        refine lv_iconst (v := (4 : Int32)) hx hb dX8_mayAnchor_18 (by decide) ?_
        refine lv_icmp_eq (tgt := 33) hx hb dX8_mayAnchor_19 (by decide) (fun hc => ?_) (fun hc => ?_)
        · have hf := it_t hc hf
          refine lv_iconst (v := (0 : Int32)) hx hb dX8_mayAnchor_33 (by decide) ?_
          exact zretRZ hx hb hr hlocks rfl hf dX8_mayAnchor_34
        · have hf := it_f hc hf
          refine lv_aload_n hx hb dX8_mayAnchor_22 rfl (lv_at hl 0 rfl) ?_
          refine zget hx hb hts hown hK hP hin_8 0 rfl rfl 17 (by decide) mw_607 (v := .int (w0 0 17)) rfl dX8_mayAnchor_23 ?_
          refine lv_if_le (tgt := 33) hx hb dX8_mayAnchor_26 (by decide) (fun hc => ?_) (fun hc => ?_)
          · have hf := it_t hc hf
            refine lv_iconst (v := (0 : Int32)) hx hb dX8_mayAnchor_33 (by decide) ?_
            exact zretRZ hx hb hr hlocks rfl hf dX8_mayAnchor_34
          · have hf := it_f hc hf
            refine lv_iconst (v := (1 : Int32)) hx hb dX8_mayAnchor_29 (by decide) ?_
            refine lv_goto (tgt := 34) hx hb dX8_mayAnchor_30 (by decide) ?_
            exact zretRZ hx hb hr hlocks rfl hf dX8_mayAnchor_34
  exact kE
set_option maxHeartbeats 4000000 in
set_option maxRecDepth 100000 in
theorem kX8_anchor (l : Launch) (dC : Nat → ClassId) (dI : Nat → Nat → Nat) (cy : ClassId) (h0 : Nat → Nat) (w0 : Nat → Nat → Int32) (sz : Nat) (z : Int32 × (Nat → Int32) × (Nat → Int32)) (hf : fX8_anchor w0 = some z) : Met l yX8_anchor (wsM yX8_anchor cX8_anchor 1 (some .int)) ({ frames := 2, cells := 0, slots := 0, locals := 40 } : Room) (va_Pc [.ref (h0 0)] (pWR (dC, dI) vwCl [(cy, .int)] (zW_8 cy h0 w0) sz)) (va_Qi (fun (q : Int32) (v : (Nat → Int32) × (Nat → Int32)) => (q, v) = z) (fun v => aWR (dC, dI) vwCl [(cy, .int)] (va_A (zW_8 cy h0 w0) sz) (zW_8 cy h0 (ups (ups w0 0 v.1) 9 v.2))) (va_A (zW_8 cy h0 w0) sz)) 0 0 (va_A (zW_8 cy h0 w0) sz) := by
  refine Met.ofW (cc := cX8_anchor) (maxL := 1) (ret := (some .int)) (by decide) rfl ?_
  intro p e s m args below meth c s₁ B hml hv
  obtain ⟨ha, hsz, hP, hK, hD0, hG⟩ := hv
  have hx := B.exec
  have hb := B.bytes
  have hr := B.returns
  have hts : ∀ w ∈ wsA, w.before args s = true := fun w h => atoms_spec (ws := wsM yX8_anchor cX8_anchor 1 (some .int)) B.pre w (List.mem_cons_of_mem _ h)
  have hown : s.vm.findClass RX8 = some m.cls := findClass_of_methodNamed B.named
  have hlocks := B.notSynchronized
  subst hsz
  have hD := hD0.self (sz := s.heap.size)
  generalize hAe : va_A (zW_8 cy h0 w0) s.heap.size = A at hD hG ⊢
  have hA : ∀ q : Nat, s.heap.size ≤ q → A q := fun q h => by rw [← hAe]; exact Or.inr h
  have hS : va_S A s.heap s.heap [] := va_S.rf
  have hP : va_P (dC, dI) vwCl (zW_8 cy h0 (ups (ups w0 0 (w0 0)) 9 (w0 9))) s.heap := hP
  have hD : va_D A (zW_8 cy h0 (ups (ups w0 0 (w0 0)) 9 (w0 9))) := hD
  obtain ⟨ls, hl, he⟩ := zent (m := m) (n := 1) (L := [(0, .ref (h0 0))]) ha (Nat.le_of_ble_eq_true rfl) rfl
  refine W.eq he ?_
  unfold fX8_anchor at hf
  have kE : ∀ (H : Heap) (locs : List Loc), va_P (dC, dI) vwCl (zW_8 cy h0 (ups (ups w0 0 (w0 0)) 9 (w0 9))) H → va_D A (zW_8 cy h0 (ups (ups w0 0 (w0 0)) 9 (w0 9))) → va_S A s.heap H locs → W p l e ({ frames := 2, cells := 0, slots := 0, locals := 40 } : Room) s m args below meth c H locs 0 0 (MQ below (va_Qi (fun (q : Int32) (v : (Nat → Int32) × (Nat → Int32)) => (q, v) = z) (fun v => aWR (dC, dI) vwCl [(cy, .int)] A (zW_8 cy h0 (ups (ups w0 0 v.1) 9 v.2))) A) args s 0 0 A) (F0 m 0 ls []) := by
    intro H locs hP hD hS
    refine lv_aload_n hx hb dX8_anchor_0 rfl (lv_at hl 0 rfl) ?_
    obtain ⟨r2, hq1, hf⟩ := ob1_d hf
    refine zroV (q := (RX8, TX8, 37)) (As := []) (rest := []) (r := r2) ⟨hx, hb, hml, hown, hts⟩ (kX8_mayAnchor l dC dI cy h0 (ups (ups w0 0 (w0 0)) 9 (w0 9)) r2 hq1) mw_782 mw_783 mw_915 mw_9 mw_784 hdX8_mayAnchor rfl rfl ⟨Nat.le_of_ble_eq_true rfl, Nat.le_of_ble_eq_true rfl⟩ hP hK hG hS 0 rfl rfl [0, 1, 2, 3, 4, 5, 6, 7, 8, 9, 10, 11, 12, 13] rfl rfl hl.1 rfl (Nat.le_of_ble_eq_true rfl) dX8_anchor_1 ⟨Nat.zero_le _, Nat.zero_le _⟩ ?_
    refine lv_if_ne (tgt := 14) hx hb dX8_anchor_4 (by decide) (fun hc => ?_) (fun hc => ?_)
    · have hf := it_f hc hf
      refine lv_aload_n hx hb dX8_anchor_14 rfl (lv_at hl 0 rfl) ?_
      refine lv_iconst (v := (4 : Int32)) hx hb dX8_anchor_15 (by decide) ?_
      refine zput hx hb hts hown hK hP hD hS hin_8 tyX8 tyX8_ok nmX8 0 rfl rfl 22 (by decide) mw_612 rfl (v := .int (4 : Int32)) rfl rfl (Nat.le_of_ble_eq_true rfl) (wn := (zW_8 cy h0 (ups (ups w0 0 (ups (w0 0) 22 (4 : Int32))) 9 (w0 9)))) rfl dX8_anchor_16 (fun H locs hP hD hS => ?_)
      refine lv_aload_n hx hb dX8_anchor_19 rfl (lv_at hl 0 rfl) ?_
      refine zget hx hb hts hown hK hP hin_8 0 rfl rfl 17 (by decide) mw_607 (v := .int (w0 0 17)) rfl dX8_anchor_20 ?_
      exact zretI hx hb hr hlocks hP hK hD hS hf rfl dX8_anchor_23
    · have hf := it_t hc hf
      refine lv_aload_n hx hb dX8_anchor_7 rfl (lv_at hl 0 rfl) ?_
      refine lv_bipush (v := (-3 : Int32)) hx hb dX8_anchor_8 (by decide) ?_
      obtain ⟨r4, u5, hq3, hf⟩ := ob2_d hf
      refine zwiV (q := (RX8, TX8, 37)) (As := [.int (-3 : Int32)]) (rest := []) (r := r4) (u := u5) (wn := (zW_8 cy h0 (ups (ups w0 0 (w0 0)) 9 u5))) ⟨hx, hb, hml, hown, hts⟩ (kX8_no l dC dI cy h0 (ups (ups w0 0 (w0 0)) 9 (w0 9)) (-3 : Int32) H.size (r4, u5) hq3) mw_668 mw_669 mw_898 mw_9 mw_670 hdX8_no rfl rfl ⟨Nat.le_of_ble_eq_true rfl, Nat.le_of_ble_eq_true rfl⟩ hP hK hG hS 0 rfl rfl hD hA [0, 1, 2, 3, 4, 5, 6, 7, 8, 9, 10, 11, 12, 13] [] [0, 1, 2, 3, 4, 5, 6, 7, 8, 9, 10, 11, 12, 13] rfl rfl rfl rfl (by decide) rfl rfl rfl hl.1 rfl (Nat.le_of_ble_eq_true rfl) dX8_anchor_10 ⟨Nat.zero_le _, Nat.zero_le _⟩ (fun H locs hP hD hS => ?_)
      exact zretI hx hb hr hlocks hP hK hD hS hf rfl dX8_anchor_13
  exact kE s.heap [] hP hD hS
set_option maxHeartbeats 4000000 in
set_option maxRecDepth 100000 in
theorem kX8_cut (l : Launch) (dC : Nat → ClassId) (dI : Nat → Nat → Nat) (cy : ClassId) (h0 : Nat → Nat) (w0 : Nat → Nat → Int32) (sz : Nat) (z : Int32 × (Nat → Int32) × (Nat → Int32)) (hf : fX8_cut w0 = some z) : Met l yX8_cut (wsM yX8_cut cX8_cut 1 (some .int)) ({ frames := 1, cells := 0, slots := 0, locals := 21 } : Room) (va_Pc [.ref (h0 0)] (pWR (dC, dI) vwCl [(cy, .int)] (zW_8 cy h0 w0) sz)) (va_Qi (fun (q : Int32) (v : (Nat → Int32) × (Nat → Int32)) => (q, v) = z) (fun v => aWR (dC, dI) vwCl [(cy, .int)] (va_A (zW_8 cy h0 w0) sz) (zW_8 cy h0 (ups (ups w0 0 v.1) 9 v.2))) (va_A (zW_8 cy h0 w0) sz)) 0 0 (va_A (zW_8 cy h0 w0) sz) := by
  refine Met.ofW (cc := cX8_cut) (maxL := 1) (ret := (some .int)) (by decide) rfl ?_
  intro p e s m args below meth c s₁ B hml hv
  obtain ⟨ha, hsz, hP, hK, hD0, hG⟩ := hv
  have hx := B.exec
  have hb := B.bytes
  have hr := B.returns
  have hts : ∀ w ∈ wsA, w.before args s = true := fun w h => atoms_spec (ws := wsM yX8_cut cX8_cut 1 (some .int)) B.pre w (List.mem_cons_of_mem _ h)
  have hown : s.vm.findClass RX8 = some m.cls := findClass_of_methodNamed B.named
  have hlocks := B.notSynchronized
  subst hsz
  have hD := hD0.self (sz := s.heap.size)
  generalize hAe : va_A (zW_8 cy h0 w0) s.heap.size = A at hD hG ⊢
  have hA : ∀ q : Nat, s.heap.size ≤ q → A q := fun q h => by rw [← hAe]; exact Or.inr h
  have hS : va_S A s.heap s.heap [] := va_S.rf
  have hP : va_P (dC, dI) vwCl (zW_8 cy h0 (ups (ups w0 0 (w0 0)) 9 (w0 9))) s.heap := hP
  have hD : va_D A (zW_8 cy h0 (ups (ups w0 0 (w0 0)) 9 (w0 9))) := hD
  have k15 : ∀ (c0_0 : (Nat → Int32)) (c0_9 : (Nat → Int32)) (H : Heap) (locs : List Loc) (ls : Array Slot), va_P (dC, dI) vwCl (zW_8 cy h0 (ups (ups w0 0 c0_0) 9 c0_9)) H → va_D A (zW_8 cy h0 (ups (ups w0 0 c0_0) 9 c0_9)) → va_S A s.heap H locs → lv_has ls 1 [(0, .ref (h0 0))] → (fX8_cut_15 w0) c0_0 c0_9 = some z → W p l e ({ frames := 1, cells := 0, slots := 0, locals := 21 } : Room) s m args below meth c H locs 0 0 (MQ below (va_Qi (fun (q : Int32) (v : (Nat → Int32) × (Nat → Int32)) => (q, v) = z) (fun v => aWR (dC, dI) vwCl [(cy, .int)] A (zW_8 cy h0 (ups (ups w0 0 v.1) 9 v.2))) A) args s 0 0 A) (F0 m 15 ls []) := by
    intro c0_0 c0_9 H locs ls hP hD hS hl hf
    unfold fX8_cut_15 at hf
    refine lv_aload_n hx hb dX8_cut_15 rfl (lv_at hl 0 rfl) ?_
    refine lv_bipush (v := (-3 : Int32)) hx hb dX8_cut_16 (by decide) ?_
    obtain ⟨r2, u3, hq1, hf⟩ := ob2_d hf
    refine zwiV (q := (RX8, TX8, 37)) (As := [.int (-3 : Int32)]) (rest := []) (r := r2) (u := u3) (wn := (zW_8 cy h0 (ups (ups w0 0 c0_0) 9 u3))) ⟨hx, hb, hml, hown, hts⟩ (kX8_no l dC dI cy h0 (ups (ups w0 0 c0_0) 9 c0_9) (-3 : Int32) H.size (r2, u3) hq1) mw_668 mw_669 mw_898 mw_9 mw_670 hdX8_no rfl rfl ⟨Nat.le_of_ble_eq_true rfl, Nat.le_of_ble_eq_true rfl⟩ hP hK hG hS 0 rfl rfl hD hA [0, 1, 2, 3, 4, 5, 6, 7, 8, 9, 10, 11, 12, 13] [] [0, 1, 2, 3, 4, 5, 6, 7, 8, 9, 10, 11, 12, 13] rfl rfl rfl rfl (by decide) rfl rfl rfl hl.1 rfl (Nat.le_of_ble_eq_true rfl) dX8_cut_18 ⟨Nat.zero_le _, Nat.zero_le _⟩ (fun H locs hP hD hS => ?_)
    exact zretI hx hb hr hlocks hP hK hD hS hf rfl dX8_cut_21
  obtain ⟨ls, hl, he⟩ := zent (m := m) (n := 1) (L := [(0, .ref (h0 0))]) ha (Nat.le_of_ble_eq_true rfl) rfl
  refine W.eq he ?_
  unfold fX8_cut at hf
  have kE : ∀ (H : Heap) (locs : List Loc), va_P (dC, dI) vwCl (zW_8 cy h0 (ups (ups w0 0 (w0 0)) 9 (w0 9))) H → va_D A (zW_8 cy h0 (ups (ups w0 0 (w0 0)) 9 (w0 9))) → va_S A s.heap H locs → W p l e ({ frames := 1, cells := 0, slots := 0, locals := 21 } : Room) s m args below meth c H locs 0 0 (MQ below (va_Qi (fun (q : Int32) (v : (Nat → Int32) × (Nat → Int32)) => (q, v) = z) (fun v => aWR (dC, dI) vwCl [(cy, .int)] A (zW_8 cy h0 (ups (ups w0 0 v.1) 9 v.2))) A) args s 0 0 A) (F0 m 0 ls []) := by
    intro H locs hP hD hS
    refine lv_aload_n hx hb dX8_cut_0 rfl (lv_at hl 0 rfl) ?_
    refine zget hx hb hts hown hK hP hin_8 0 rfl rfl 12 (by decide) mw_602 (v := .int (w0 0 12)) rfl dX8_cut_1 ?_
    refine lv_if_eq (tgt := 15) hx hb dX8_cut_4 (by decide) (fun hc => ?_) (fun hc => ?_)
    · have hf := it_t hc hf
      exact k15 (w0 0) (w0 9) H locs ls hP hD hS (lv_sub hl [0] rfl) hf
    · have hf := it_f hc hf
      refine lv_aload_n hx hb dX8_cut_7 rfl (lv_at hl 0 rfl) ?_
      refine zget hx hb hts hown hK hP hin_8 0 rfl rfl 22 (by decide) mw_612 (v := .int (w0 0 22)) rfl dX8_cut_8 ?_
      refine lv_iconst (v := (4 : Int32)) hx hb dX8_cut_11 (by decide) ?_
      refine lv_icmp_eq (tgt := 22) hx hb dX8_cut_12 (by decide) (fun hc => ?_) (fun hc => ?_)
      · have hf := it_t hc hf
        refine lv_aload_n hx hb dX8_cut_22 rfl (lv_at hl 0 rfl) ?_
        refine lv_iconst (v := (1 : Int32)) hx hb dX8_cut_23 (by decide) ?_
        refine zput hx hb hts hown hK hP hD hS hin_8 tyX8 tyX8_ok nmX8 0 rfl rfl 22 (by decide) mw_612 rfl (v := .int (1 : Int32)) rfl rfl (Nat.le_of_ble_eq_true rfl) (wn := (zW_8 cy h0 (ups (ups w0 0 (ups (w0 0) 22 (1 : Int32))) 9 (w0 9)))) rfl dX8_cut_24 (fun H locs hP hD hS => ?_)
        refine lv_aload_n hx hb dX8_cut_27 rfl (lv_at hl 0 rfl) ?_
        refine lv_dup hx hb dX8_cut_28 rfl ?_
        refine zget hx hb hts hown hK hP hin_8 0 rfl rfl 17 (by decide) mw_607 (v := .int (w0 0 17)) rfl dX8_cut_29 ?_
        refine lv_iconst (v := (1 : Int32)) hx hb dX8_cut_32 (by decide) ?_
        refine lv_isub hx hb dX8_cut_33 ?_
        refine lv_dup_x1 hx hb dX8_cut_34 rfl rfl ?_
        refine zput hx hb hts hown hK hP hD hS hin_8 tyX8 tyX8_ok nmX8 0 rfl rfl 17 (by decide) mw_607 rfl (v := .int ((w0 0 17) - (1 : Int32))) rfl rfl (Nat.le_of_ble_eq_true rfl) (wn := (zW_8 cy h0 (ups (ups w0 0 (ups (ups (w0 0) 22 (1 : Int32)) 17 ((w0 0 17) - (1 : Int32)))) 9 (w0 9)))) rfl dX8_cut_35 (fun H locs hP hD hS => ?_)
        exact zretI hx hb hr hlocks hP hK hD hS hf rfl dX8_cut_38
      · have hf := it_f hc hf
        exact k15 (w0 0) (w0 9) H locs ls hP hD hS (lv_sub hl [0] rfl) hf
  exact kE s.heap [] hP hD hS
set_option maxHeartbeats 4000000 in
set_option maxRecDepth 100000 in
theorem kX8_axe (l : Launch) (dC : Nat → ClassId) (dI : Nat → Nat → Nat) (cy : ClassId) (h0 : Nat → Nat) (w0 : Nat → Nat → Int32) (sz : Nat) (z : Int32 × (Nat → Int32) × (Nat → Int32)) (hf : fX8_axe w0 = some z) : Met l yX8_axe (wsM yX8_axe cX8_axe 1 (some .int)) ({ frames := 1, cells := 0, slots := 0, locals := 21 } : Room) (va_Pc [.ref (h0 0)] (pWR (dC, dI) vwCl [(cy, .int)] (zW_8 cy h0 w0) sz)) (va_Qi (fun (q : Int32) (v : (Nat → Int32) × (Nat → Int32)) => (q, v) = z) (fun v => aWR (dC, dI) vwCl [(cy, .int)] (va_A (zW_8 cy h0 w0) sz) (zW_8 cy h0 (ups (ups w0 0 v.1) 9 v.2))) (va_A (zW_8 cy h0 w0) sz)) 0 0 (va_A (zW_8 cy h0 w0) sz) := by
  refine Met.ofW (cc := cX8_axe) (maxL := 1) (ret := (some .int)) (by decide) rfl ?_
  intro p e s m args below meth c s₁ B hml hv
  obtain ⟨ha, hsz, hP, hK, hD0, hG⟩ := hv
  have hx := B.exec
  have hb := B.bytes
  have hr := B.returns
  have hts : ∀ w ∈ wsA, w.before args s = true := fun w h => atoms_spec (ws := wsM yX8_axe cX8_axe 1 (some .int)) B.pre w (List.mem_cons_of_mem _ h)
  have hown : s.vm.findClass RX8 = some m.cls := findClass_of_methodNamed B.named
  have hlocks := B.notSynchronized
  subst hsz
  have hD := hD0.self (sz := s.heap.size)
  generalize hAe : va_A (zW_8 cy h0 w0) s.heap.size = A at hD hG ⊢
  have hA : ∀ q : Nat, s.heap.size ≤ q → A q := fun q h => by rw [← hAe]; exact Or.inr h
  have hS : va_S A s.heap s.heap [] := va_S.rf
  have hP : va_P (dC, dI) vwCl (zW_8 cy h0 (ups (ups w0 0 (w0 0)) 9 (w0 9))) s.heap := hP
  have hD : va_D A (zW_8 cy h0 (ups (ups w0 0 (w0 0)) 9 (w0 9))) := hD
  have k21 : ∀ (c0_0 : (Nat → Int32)) (c0_9 : (Nat → Int32)) (H : Heap) (locs : List Loc) (ls : Array Slot), va_P (dC, dI) vwCl (zW_8 cy h0 (ups (ups w0 0 c0_0) 9 c0_9)) H → va_D A (zW_8 cy h0 (ups (ups w0 0 c0_0) 9 c0_9)) → va_S A s.heap H locs → lv_has ls 1 [(0, .ref (h0 0))] → (fX8_axe_21 w0) c0_0 c0_9 = some z → W p l e ({ frames := 1, cells := 0, slots := 0, locals := 21 } : Room) s m args below meth c H locs 0 0 (MQ below (va_Qi (fun (q : Int32) (v : (Nat → Int32) × (Nat → Int32)) => (q, v) = z) (fun v => aWR (dC, dI) vwCl [(cy, .int)] A (zW_8 cy h0 (ups (ups w0 0 v.1) 9 v.2))) A) args s 0 0 A) (F0 m 21 ls []) := by
    intro c0_0 c0_9 H locs ls hP hD hS hl hf
    unfold fX8_axe_21 at hf
    refine lv_aload_n hx hb dX8_axe_21 rfl (lv_at hl 0 rfl) ?_
    refine lv_bipush (v := (-3 : Int32)) hx hb dX8_axe_22 (by decide) ?_
    obtain ⟨r2, u3, hq1, hf⟩ := ob2_d hf
    refine zwiV (q := (RX8, TX8, 37)) (As := [.int (-3 : Int32)]) (rest := []) (r := r2) (u := u3) (wn := (zW_8 cy h0 (ups (ups w0 0 c0_0) 9 u3))) ⟨hx, hb, hml, hown, hts⟩ (kX8_no l dC dI cy h0 (ups (ups w0 0 c0_0) 9 c0_9) (-3 : Int32) H.size (r2, u3) hq1) mw_668 mw_669 mw_898 mw_9 mw_670 hdX8_no rfl rfl ⟨Nat.le_of_ble_eq_true rfl, Nat.le_of_ble_eq_true rfl⟩ hP hK hG hS 0 rfl rfl hD hA [0, 1, 2, 3, 4, 5, 6, 7, 8, 9, 10, 11, 12, 13] [] [0, 1, 2, 3, 4, 5, 6, 7, 8, 9, 10, 11, 12, 13] rfl rfl rfl rfl (by decide) rfl rfl rfl hl.1 rfl (Nat.le_of_ble_eq_true rfl) dX8_axe_24 ⟨Nat.zero_le _, Nat.zero_le _⟩ (fun H locs hP hD hS => ?_)
    exact zretI hx hb hr hlocks hP hK hD hS hf rfl dX8_axe_27
  obtain ⟨ls, hl, he⟩ := zent (m := m) (n := 1) (L := [(0, .ref (h0 0))]) ha (Nat.le_of_ble_eq_true rfl) rfl
  refine W.eq he ?_
  unfold fX8_axe at hf
  have kE : ∀ (H : Heap) (locs : List Loc), va_P (dC, dI) vwCl (zW_8 cy h0 (ups (ups w0 0 (w0 0)) 9 (w0 9))) H → va_D A (zW_8 cy h0 (ups (ups w0 0 (w0 0)) 9 (w0 9))) → va_S A s.heap H locs → W p l e ({ frames := 1, cells := 0, slots := 0, locals := 21 } : Room) s m args below meth c H locs 0 0 (MQ below (va_Qi (fun (q : Int32) (v : (Nat → Int32) × (Nat → Int32)) => (q, v) = z) (fun v => aWR (dC, dI) vwCl [(cy, .int)] A (zW_8 cy h0 (ups (ups w0 0 v.1) 9 v.2))) A) args s 0 0 A) (F0 m 0 ls []) := by
    intro H locs hP hD hS
    refine lv_aload_n hx hb dX8_axe_0 rfl (lv_at hl 0 rfl) ?_
    refine zget hx hb hts hown hK hP hin_8 0 rfl rfl 12 (by decide) mw_602 (v := .int (w0 0 12)) rfl dX8_axe_1 ?_
    refine lv_if_eq (tgt := 21) hx hb dX8_axe_4 (by decide) (fun hc => ?_) (fun hc => ?_)
    · have hf := it_t hc hf
      exact k21 (w0 0) (w0 9) H locs ls hP hD hS (lv_sub hl [0] rfl) hf
    · have hf := it_f hc hf
      refine lv_aload_n hx hb dX8_axe_7 rfl (lv_at hl 0 rfl) ?_
      obtain ⟨r5, hq4, hf⟩ := ob1_d hf
      refine zroV (q := (RX8, TX8, 37)) (As := []) (rest := []) (r := r5) ⟨hx, hb, hml, hown, hts⟩ (kX8_ended l dC dI cy h0 (ups (ups w0 0 (w0 0)) 9 (w0 9)) r5 hq4) mw_737 mw_738 mw_908 mw_9 mw_739 hdX8_ended rfl rfl ⟨Nat.le_of_ble_eq_true rfl, Nat.le_of_ble_eq_true rfl⟩ hP hK hG hS 0 rfl rfl [0, 1, 2, 3, 4, 5, 6, 7, 8, 9, 10, 11, 12, 13] rfl rfl hl.1 rfl (Nat.le_of_ble_eq_true rfl) dX8_axe_8 ⟨Nat.zero_le _, Nat.zero_le _⟩ ?_
      refine lv_if_ne (tgt := 21) hx hb dX8_axe_11 (by decide) (fun hc => ?_) (fun hc => ?_)
      · have hf := it_f hc hf
        exact k21 (w0 0) (w0 9) H locs ls hP hD hS (lv_sub hl [0] rfl) hf
      · have hf := it_t hc hf
        refine lv_aload_n hx hb dX8_axe_14 rfl (lv_at hl 0 rfl) ?_
        refine zget hx hb hts hown hK hP hin_8 0 rfl rfl 16 (by decide) mw_606 (v := .int (w0 0 16)) rfl dX8_axe_15 ?_
        refine lv_if_ne (tgt := 28) hx hb dX8_axe_18 (by decide) (fun hc => ?_) (fun hc => ?_)
        · have hf := it_f hc hf
          refine lv_aload_n hx hb dX8_axe_28 rfl (lv_at hl 0 rfl) ?_
          refine lv_dup hx hb dX8_axe_29 rfl ?_
          refine zget hx hb hts hown hK hP hin_8 0 rfl rfl 16 (by decide) mw_606 (v := .int (w0 0 16)) rfl dX8_axe_30 ?_
          refine lv_iconst (v := (1 : Int32)) hx hb dX8_axe_33 (by decide) ?_
          refine lv_isub hx hb dX8_axe_34 ?_
          refine lv_dup_x1 hx hb dX8_axe_35 rfl rfl ?_
          refine zput hx hb hts hown hK hP hD hS hin_8 tyX8 tyX8_ok nmX8 0 rfl rfl 16 (by decide) mw_606 rfl (v := .int ((w0 0 16) - (1 : Int32))) rfl rfl (Nat.le_of_ble_eq_true rfl) (wn := (zW_8 cy h0 (ups (ups w0 0 (ups (w0 0) 16 ((w0 0 16) - (1 : Int32)))) 9 (w0 9)))) rfl dX8_axe_36 (fun H locs hP hD hS => ?_)
          exact zretI hx hb hr hlocks hP hK hD hS hf rfl dX8_axe_39
        · have hf := it_t hc hf
          exact k21 (w0 0) (w0 9) H locs ls hP hD hS (lv_sub hl [0] rfl) hf
  exact kE s.heap [] hP hD hS
set_option maxHeartbeats 4000000 in
set_option maxRecDepth 100000 in
theorem kX8_over (l : Launch) (dC : Nat → ClassId) (dI : Nat → Nat → Nat) (cy : ClassId) (h0 : Nat → Nat) (w0 : Nat → Nat → Int32) (sz : Nat) (z : Int32 × (Nat → Int32) × (Nat → Int32)) (hf : fX8_over w0 = some z) : Met l yX8_over (wsM yX8_over cX8_over 1 (some .int)) ({ frames := 1, cells := 0, slots := 0, locals := 21 } : Room) (va_Pc [.ref (h0 0)] (pWR (dC, dI) vwCl [(cy, .int)] (zW_8 cy h0 w0) sz)) (va_Qi (fun (q : Int32) (v : (Nat → Int32) × (Nat → Int32)) => (q, v) = z) (fun v => aWR (dC, dI) vwCl [(cy, .int)] (va_A (zW_8 cy h0 w0) sz) (zW_8 cy h0 (ups (ups w0 3 v.1) 9 v.2))) (va_A (zW_8 cy h0 w0) sz)) 0 0 (va_A (zW_8 cy h0 w0) sz) := by
  refine Met.ofW (cc := cX8_over) (maxL := 1) (ret := (some .int)) (by decide) rfl ?_
  intro p e s m args below meth c s₁ B hml hv
  obtain ⟨ha, hsz, hP, hK, hD0, hG⟩ := hv
  have hx := B.exec
  have hb := B.bytes
  have hr := B.returns
  have hts : ∀ w ∈ wsA, w.before args s = true := fun w h => atoms_spec (ws := wsM yX8_over cX8_over 1 (some .int)) B.pre w (List.mem_cons_of_mem _ h)
  have hown : s.vm.findClass RX8 = some m.cls := findClass_of_methodNamed B.named
  have hlocks := B.notSynchronized
  subst hsz
  have hD := hD0.self (sz := s.heap.size)
  generalize hAe : va_A (zW_8 cy h0 w0) s.heap.size = A at hD hG ⊢
  have hA : ∀ q : Nat, s.heap.size ≤ q → A q := fun q h => by rw [← hAe]; exact Or.inr h
  have hS : va_S A s.heap s.heap [] := va_S.rf
  have hP : va_P (dC, dI) vwCl (zW_8 cy h0 (ups (ups w0 3 (w0 3)) 9 (w0 9))) s.heap := hP
  have hD : va_D A (zW_8 cy h0 (ups (ups w0 3 (w0 3)) 9 (w0 9))) := hD
  have k23 : ∀ (c0_3 : (Nat → Int32)) (c0_9 : (Nat → Int32)) (H : Heap) (locs : List Loc) (ls : Array Slot), va_P (dC, dI) vwCl (zW_8 cy h0 (ups (ups w0 3 c0_3) 9 c0_9)) H → va_D A (zW_8 cy h0 (ups (ups w0 3 c0_3) 9 c0_9)) → va_S A s.heap H locs → lv_has ls 1 [(0, .ref (h0 0))] → (fX8_over_23 w0) c0_3 c0_9 = some z → W p l e ({ frames := 1, cells := 0, slots := 0, locals := 21 } : Room) s m args below meth c H locs 0 0 (MQ below (va_Qi (fun (q : Int32) (v : (Nat → Int32) × (Nat → Int32)) => (q, v) = z) (fun v => aWR (dC, dI) vwCl [(cy, .int)] A (zW_8 cy h0 (ups (ups w0 3 v.1) 9 v.2))) A) args s 0 0 A) (F0 m 23 ls []) := by
    intro c0_3 c0_9 H locs ls hP hD hS hl hf
    unfold fX8_over_23 at hf
    refine lv_aload_n hx hb dX8_over_23 rfl (lv_at hl 0 rfl) ?_
    refine lv_bipush (v := (-3 : Int32)) hx hb dX8_over_24 (by decide) ?_
    obtain ⟨r2, u3, hq1, hf⟩ := ob2_d hf
    refine zwiV (q := (RX8, TX8, 37)) (As := [.int (-3 : Int32)]) (rest := []) (r := r2) (u := u3) (wn := (zW_8 cy h0 (ups (ups w0 3 c0_3) 9 u3))) ⟨hx, hb, hml, hown, hts⟩ (kX8_no l dC dI cy h0 (ups (ups w0 3 c0_3) 9 c0_9) (-3 : Int32) H.size (r2, u3) hq1) mw_668 mw_669 mw_898 mw_9 mw_670 hdX8_no rfl rfl ⟨Nat.le_of_ble_eq_true rfl, Nat.le_of_ble_eq_true rfl⟩ hP hK hG hS 0 rfl rfl hD hA [0, 1, 2, 3, 4, 5, 6, 7, 8, 9, 10, 11, 12, 13] [] [0, 1, 2, 3, 4, 5, 6, 7, 8, 9, 10, 11, 12, 13] rfl rfl rfl rfl (by decide) rfl rfl rfl hl.1 rfl (Nat.le_of_ble_eq_true rfl) dX8_over_26 ⟨Nat.zero_le _, Nat.zero_le _⟩ (fun H locs hP hD hS => ?_)
    exact zretI hx hb hr hlocks hP hK hD hS hf rfl dX8_over_29
  obtain ⟨ls, hl, he⟩ := zent (m := m) (n := 1) (L := [(0, .ref (h0 0))]) ha (Nat.le_of_ble_eq_true rfl) rfl
  refine W.eq he ?_
  unfold fX8_over at hf
  have kE : ∀ (H : Heap) (locs : List Loc), va_P (dC, dI) vwCl (zW_8 cy h0 (ups (ups w0 3 (w0 3)) 9 (w0 9))) H → va_D A (zW_8 cy h0 (ups (ups w0 3 (w0 3)) 9 (w0 9))) → va_S A s.heap H locs → W p l e ({ frames := 1, cells := 0, slots := 0, locals := 21 } : Room) s m args below meth c H locs 0 0 (MQ below (va_Qi (fun (q : Int32) (v : (Nat → Int32) × (Nat → Int32)) => (q, v) = z) (fun v => aWR (dC, dI) vwCl [(cy, .int)] A (zW_8 cy h0 (ups (ups w0 3 v.1) 9 v.2))) A) args s 0 0 A) (F0 m 0 ls []) := by
    intro H locs hP hD hS
    refine lv_aload_n hx hb dX8_over_0 rfl (lv_at hl 0 rfl) ?_
    refine zget hx hb hts hown hK hP hin_8 0 rfl rfl 12 (by decide) mw_602 (v := .int (w0 0 12)) rfl dX8_over_1 ?_
    refine lv_if_eq (tgt := 23) hx hb dX8_over_4 (by decide) (fun hc => ?_) (fun hc => ?_)
    · have hf := it_t hc hf
      exact k23 (w0 3) (w0 9) H locs ls hP hD hS (lv_sub hl [0] rfl) hf
    · have hf := it_f hc hf
      refine lv_aload_n hx hb dX8_over_7 rfl (lv_at hl 0 rfl) ?_
      obtain ⟨r5, hq4, hf⟩ := ob1_d hf
      refine zroV (q := (RX8, TX8, 37)) (As := []) (rest := []) (r := r5) ⟨hx, hb, hml, hown, hts⟩ (kX8_ended l dC dI cy h0 (ups (ups w0 3 (w0 3)) 9 (w0 9)) r5 hq4) mw_737 mw_738 mw_908 mw_9 mw_739 hdX8_ended rfl rfl ⟨Nat.le_of_ble_eq_true rfl, Nat.le_of_ble_eq_true rfl⟩ hP hK hG hS 0 rfl rfl [0, 1, 2, 3, 4, 5, 6, 7, 8, 9, 10, 11, 12, 13] rfl rfl hl.1 rfl (Nat.le_of_ble_eq_true rfl) dX8_over_8 ⟨Nat.zero_le _, Nat.zero_le _⟩ ?_
      refine lv_if_ne (tgt := 23) hx hb dX8_over_11 (by decide) (fun hc => ?_) (fun hc => ?_)
      · have hf := it_f hc hf
        exact k23 (w0 3) (w0 9) H locs ls hP hD hS (lv_sub hl [0] rfl) hf
      · have hf := it_t hc hf
        refine lv_aload_n hx hb dX8_over_14 rfl (lv_at hl 0 rfl) ?_
        refine zget hx hb hts hown hK hP hin_8 0 rfl rfl 5 (by decide) mw_595 (v := .ref (h0 3)) rfl dX8_over_15 ?_
        refine lv_iconst (v := (5 : Int32)) hx hb dX8_over_18 (by decide) ?_
        refine va_iald hx hb hK hP 3 0 rfl rfl (vin_lit (by decide)) dX8_over_19 ?_
        refine lv_if_ne (tgt := 30) hx hb dX8_over_20 (by decide) (fun hc => ?_) (fun hc => ?_)
        · have hf := it_f hc hf
          refine lv_aload_n hx hb dX8_over_30 rfl (lv_at hl 0 rfl) ?_
          refine zget hx hb hts hown hK hP hin_8 0 rfl rfl 5 (by decide) mw_595 (v := .ref (h0 3)) rfl dX8_over_31 ?_
          refine lv_iconst (v := (5 : Int32)) hx hb dX8_over_34 (by decide) ?_
          refine lv_dup2_11 hx hb dX8_over_35 rfl rfl ?_
          refine va_iald hx hb hK hP 3 0 rfl rfl (vin_lit (by decide)) dX8_over_36 ?_
          refine lv_iconst (v := (1 : Int32)) hx hb dX8_over_37 (by decide) ?_
          refine lv_isub hx hb dX8_over_38 ?_
          refine lv_dup_x2 hx hb dX8_over_39 rfl rfl rfl ?_
          obtain ⟨g6, hg6, hf⟩ := nm_d hf
          refine zast hx hb hK hP hD hS 3 (wn := (zW_8 cy h0 (ups (ups w0 3 g6) 9 (w0 9)))) hg6 rfl rfl (vin_lit (by decide)) rfl dX8_over_40 (fun H locs hP hD hS => ?_)
          exact zretI hx hb hr hlocks hP hK hD hS hf rfl dX8_over_41
        · have hf := it_t hc hf
          exact k23 (w0 3) (w0 9) H locs ls hP hD hS (lv_sub hl [0] rfl) hf
  exact kE s.heap [] hP hD hS
set_option maxHeartbeats 4000000 in
set_option maxRecDepth 100000 in
theorem kX8_keep (l : Launch) (dC : Nat → ClassId) (dI : Nat → Nat → Nat) (cy : ClassId) (h0 : Nat → Nat) (w0 : Nat → Nat → Int32) (sz : Nat) (z : (Nat → Int32)) (hf : fX8_keep w0 = some z) : Met l yX8_keep (wsM yX8_keep cX8_keep 1 none) ({ frames := 0, cells := 0, slots := 0, locals := 0 } : Room) (va_Pc [.ref (h0 0)] (pWR (dC, dI) vwCl [(cy, .int)] (zW_8 cy h0 w0) sz)) (va_Qv (fun (v : (Nat → Int32)) => v = z) (fun v => aWR (dC, dI) vwCl [(cy, .int)] (va_A (zW_8 cy h0 w0) sz) (zW_8 cy h0 (ups w0 11 v))) (va_A (zW_8 cy h0 w0) sz)) 0 0 (va_A (zW_8 cy h0 w0) sz) := by
  refine Met.ofW (cc := cX8_keep) (maxL := 1) (ret := none) (by decide) rfl ?_
  intro p e s m args below meth c s₁ B hml hv
  obtain ⟨ha, hsz, hP, hK, hD0, hG⟩ := hv
  have hx := B.exec
  have hb := B.bytes
  have hr := B.returns
  have hts : ∀ w ∈ wsA, w.before args s = true := fun w h => atoms_spec (ws := wsM yX8_keep cX8_keep 1 none) B.pre w (List.mem_cons_of_mem _ h)
  have hown : s.vm.findClass RX8 = some m.cls := findClass_of_methodNamed B.named
  have hlocks := B.notSynchronized
  subst hsz
  have hD := hD0.self (sz := s.heap.size)
  generalize hAe : va_A (zW_8 cy h0 w0) s.heap.size = A at hD hG ⊢
  have hA : ∀ q : Nat, s.heap.size ≤ q → A q := fun q h => by rw [← hAe]; exact Or.inr h
  have hS : va_S A s.heap s.heap [] := va_S.rf
  have hP : va_P (dC, dI) vwCl (zW_8 cy h0 (ups w0 11 (w0 11))) s.heap := hP
  have hD : va_D A (zW_8 cy h0 (ups w0 11 (w0 11))) := hD
  have k133 : ∀ (c0_11 : (Nat → Int32)) (t1 : Int32) (t2 : Int32) (H : Heap) (locs : List Loc) (ls : Array Slot), va_P (dC, dI) vwCl (zW_8 cy h0 (ups w0 11 c0_11)) H → va_D A (zW_8 cy h0 (ups w0 11 c0_11)) → va_S A s.heap H locs → lv_has ls 1 [(0, .ref (h0 0))] → (fX8_keep_133 w0) c0_11 t1 t2 = some z → W p l e ({ frames := 0, cells := 0, slots := 0, locals := 0 } : Room) s m args below meth c H locs 0 0 (MQ below (va_Qv (fun (v : (Nat → Int32)) => v = z) (fun v => aWR (dC, dI) vwCl [(cy, .int)] A (zW_8 cy h0 (ups w0 11 v))) A) args s 0 0 A) (F0 m 133 ls [.int t2, .int t1, .ref (h0 11)]) := by
    intro c0_11 t1 t2 H locs ls hP hD hS hl hf
    unfold fX8_keep_133 at hf
    obtain ⟨hin12, hf⟩ := gd_d hf
    obtain ⟨g13, hg13, hf⟩ := nm_d hf
    refine zast hx hb hK hP hD hS 11 (wn := (zW_8 cy h0 (ups w0 11 g13))) hg13 rfl rfl hin12 rfl dX8_keep_133 (fun H locs hP hD hS => ?_)
    refine lv_aload_n hx hb dX8_keep_134 rfl (lv_at hl 0 rfl) ?_
    refine zget hx hb hts hown hK hP hin_8 0 rfl rfl 33 (by decide) mw_623 (v := .ref (h0 11)) rfl dX8_keep_135 ?_
    refine lv_bipush (v := (12 : Int32)) hx hb dX8_keep_138 (by decide) ?_
    refine lv_aload_n hx hb dX8_keep_140 rfl (lv_at hl 0 rfl) ?_
    refine zget hx hb hts hown hK hP hin_8 0 rfl rfl 5 (by decide) mw_595 (v := .ref (h0 3)) rfl dX8_keep_141 ?_
    refine lv_iconst (v := (5 : Int32)) hx hb dX8_keep_144 (by decide) ?_
    refine va_iald hx hb hK hP 3 0 rfl rfl (vin_lit (by decide)) dX8_keep_145 ?_
    obtain ⟨g14, hg14, hf⟩ := nm_d hf
    refine zast hx hb hK hP hD hS 11 (wn := (zW_8 cy h0 (ups w0 11 g14))) hg14 rfl rfl (vin_lit (by decide)) rfl dX8_keep_146 (fun H locs hP hD hS => ?_)
    exact zretV hx hb hr hlocks hP hK hD hS hf rfl dX8_keep_147
  obtain ⟨ls, hl, he⟩ := zent (m := m) (n := 1) (L := [(0, .ref (h0 0))]) ha (Nat.le_of_ble_eq_true rfl) rfl
  refine W.eq he ?_
  unfold fX8_keep at hf
  have kE : ∀ (H : Heap) (locs : List Loc), va_P (dC, dI) vwCl (zW_8 cy h0 (ups w0 11 (w0 11))) H → va_D A (zW_8 cy h0 (ups w0 11 (w0 11))) → va_S A s.heap H locs → W p l e ({ frames := 0, cells := 0, slots := 0, locals := 0 } : Room) s m args below meth c H locs 0 0 (MQ below (va_Qv (fun (v : (Nat → Int32)) => v = z) (fun v => aWR (dC, dI) vwCl [(cy, .int)] A (zW_8 cy h0 (ups w0 11 v))) A) args s 0 0 A) (F0 m 0 ls []) := by
    intro H locs hP hD hS
    refine lv_aload_n hx hb dX8_keep_0 rfl (lv_at hl 0 rfl) ?_
    refine zget hx hb hts hown hK hP hin_8 0 rfl rfl 33 (by decide) mw_623 (v := .ref (h0 11)) rfl dX8_keep_1 ?_
    refine lv_iconst (v := (0 : Int32)) hx hb dX8_keep_4 (by decide) ?_
    refine lv_aload_n hx hb dX8_keep_5 rfl (lv_at hl 0 rfl) ?_
    refine zget hx hb hts hown hK hP hin_8 0 rfl rfl 13 (by decide) mw_603 (v := .int (w0 0 13)) rfl dX8_keep_6 ?_
    obtain ⟨g1, hg1, hf⟩ := nm_d hf
    refine zast hx hb hK hP hD hS 11 (wn := (zW_8 cy h0 (ups w0 11 g1))) hg1 rfl rfl (vin_lit (by decide)) rfl dX8_keep_9 (fun H locs hP hD hS => ?_)
    refine lv_aload_n hx hb dX8_keep_10 rfl (lv_at hl 0 rfl) ?_
    refine zget hx hb hts hown hK hP hin_8 0 rfl rfl 33 (by decide) mw_623 (v := .ref (h0 11)) rfl dX8_keep_11 ?_
    refine lv_iconst (v := (1 : Int32)) hx hb dX8_keep_14 (by decide) ?_
    refine lv_aload_n hx hb dX8_keep_15 rfl (lv_at hl 0 rfl) ?_
    refine zget hx hb hts hown hK hP hin_8 0 rfl rfl 14 (by decide) mw_604 (v := .int (w0 0 14)) rfl dX8_keep_16 ?_
    obtain ⟨g2, hg2, hf⟩ := nm_d hf
    refine zast hx hb hK hP hD hS 11 (wn := (zW_8 cy h0 (ups w0 11 g2))) hg2 rfl rfl (vin_lit (by decide)) rfl dX8_keep_19 (fun H locs hP hD hS => ?_)
    refine lv_aload_n hx hb dX8_keep_20 rfl (lv_at hl 0 rfl) ?_
    refine zget hx hb hts hown hK hP hin_8 0 rfl rfl 33 (by decide) mw_623 (v := .ref (h0 11)) rfl dX8_keep_21 ?_
    refine lv_iconst (v := (2 : Int32)) hx hb dX8_keep_24 (by decide) ?_
    refine lv_aload_n hx hb dX8_keep_25 rfl (lv_at hl 0 rfl) ?_
    refine zget hx hb hts hown hK hP hin_8 0 rfl rfl 15 (by decide) mw_605 (v := .int (w0 0 15)) rfl dX8_keep_26 ?_
    obtain ⟨g3, hg3, hf⟩ := nm_d hf
    refine zast hx hb hK hP hD hS 11 (wn := (zW_8 cy h0 (ups w0 11 g3))) hg3 rfl rfl (vin_lit (by decide)) rfl dX8_keep_29 (fun H locs hP hD hS => ?_)
    refine lv_aload_n hx hb dX8_keep_30 rfl (lv_at hl 0 rfl) ?_
    refine zget hx hb hts hown hK hP hin_8 0 rfl rfl 33 (by decide) mw_623 (v := .ref (h0 11)) rfl dX8_keep_31 ?_
    refine lv_iconst (v := (3 : Int32)) hx hb dX8_keep_34 (by decide) ?_
    refine lv_aload_n hx hb dX8_keep_35 rfl (lv_at hl 0 rfl) ?_
    refine zget hx hb hts hown hK hP hin_8 0 rfl rfl 16 (by decide) mw_606 (v := .int (w0 0 16)) rfl dX8_keep_36 ?_
    obtain ⟨g4, hg4, hf⟩ := nm_d hf
    refine zast hx hb hK hP hD hS 11 (wn := (zW_8 cy h0 (ups w0 11 g4))) hg4 rfl rfl (vin_lit (by decide)) rfl dX8_keep_39 (fun H locs hP hD hS => ?_)
    refine lv_aload_n hx hb dX8_keep_40 rfl (lv_at hl 0 rfl) ?_
    refine zget hx hb hts hown hK hP hin_8 0 rfl rfl 33 (by decide) mw_623 (v := .ref (h0 11)) rfl dX8_keep_41 ?_
    refine lv_iconst (v := (4 : Int32)) hx hb dX8_keep_44 (by decide) ?_
    refine lv_aload_n hx hb dX8_keep_45 rfl (lv_at hl 0 rfl) ?_
    refine zget hx hb hts hown hK hP hin_8 0 rfl rfl 17 (by decide) mw_607 (v := .int (w0 0 17)) rfl dX8_keep_46 ?_
    obtain ⟨g5, hg5, hf⟩ := nm_d hf
    refine zast hx hb hK hP hD hS 11 (wn := (zW_8 cy h0 (ups w0 11 g5))) hg5 rfl rfl (vin_lit (by decide)) rfl dX8_keep_49 (fun H locs hP hD hS => ?_)
    refine lv_aload_n hx hb dX8_keep_50 rfl (lv_at hl 0 rfl) ?_
    refine zget hx hb hts hown hK hP hin_8 0 rfl rfl 33 (by decide) mw_623 (v := .ref (h0 11)) rfl dX8_keep_51 ?_
    refine lv_iconst (v := (5 : Int32)) hx hb dX8_keep_54 (by decide) ?_
    refine lv_aload_n hx hb dX8_keep_55 rfl (lv_at hl 0 rfl) ?_
    refine zget hx hb hts hown hK hP hin_8 0 rfl rfl 18 (by decide) mw_608 (v := .int (w0 0 18)) rfl dX8_keep_56 ?_
    obtain ⟨g6, hg6, hf⟩ := nm_d hf
    refine zast hx hb hK hP hD hS 11 (wn := (zW_8 cy h0 (ups w0 11 g6))) hg6 rfl rfl (vin_lit (by decide)) rfl dX8_keep_59 (fun H locs hP hD hS => ?_)
    refine lv_aload_n hx hb dX8_keep_60 rfl (lv_at hl 0 rfl) ?_
    refine zget hx hb hts hown hK hP hin_8 0 rfl rfl 33 (by decide) mw_623 (v := .ref (h0 11)) rfl dX8_keep_61 ?_
    refine lv_bipush (v := (6 : Int32)) hx hb dX8_keep_64 (by decide) ?_
    refine lv_aload_n hx hb dX8_keep_66 rfl (lv_at hl 0 rfl) ?_
    refine zget hx hb hts hown hK hP hin_8 0 rfl rfl 19 (by decide) mw_609 (v := .int (w0 0 19)) rfl dX8_keep_67 ?_
    obtain ⟨g7, hg7, hf⟩ := nm_d hf
    refine zast hx hb hK hP hD hS 11 (wn := (zW_8 cy h0 (ups w0 11 g7))) hg7 rfl rfl (vin_lit (by decide)) rfl dX8_keep_70 (fun H locs hP hD hS => ?_)
    refine lv_aload_n hx hb dX8_keep_71 rfl (lv_at hl 0 rfl) ?_
    refine zget hx hb hts hown hK hP hin_8 0 rfl rfl 33 (by decide) mw_623 (v := .ref (h0 11)) rfl dX8_keep_72 ?_
    refine lv_bipush (v := (7 : Int32)) hx hb dX8_keep_75 (by decide) ?_
    refine lv_aload_n hx hb dX8_keep_77 rfl (lv_at hl 0 rfl) ?_
    refine zget hx hb hts hown hK hP hin_8 0 rfl rfl 20 (by decide) mw_610 (v := .int (w0 0 20)) rfl dX8_keep_78 ?_
    obtain ⟨g8, hg8, hf⟩ := nm_d hf
    refine zast hx hb hK hP hD hS 11 (wn := (zW_8 cy h0 (ups w0 11 g8))) hg8 rfl rfl (vin_lit (by decide)) rfl dX8_keep_81 (fun H locs hP hD hS => ?_)
    refine lv_aload_n hx hb dX8_keep_82 rfl (lv_at hl 0 rfl) ?_
    refine zget hx hb hts hown hK hP hin_8 0 rfl rfl 33 (by decide) mw_623 (v := .ref (h0 11)) rfl dX8_keep_83 ?_
    refine lv_bipush (v := (8 : Int32)) hx hb dX8_keep_86 (by decide) ?_
    refine lv_aload_n hx hb dX8_keep_88 rfl (lv_at hl 0 rfl) ?_
    refine zget hx hb hts hown hK hP hin_8 0 rfl rfl 21 (by decide) mw_611 (v := .int (w0 0 21)) rfl dX8_keep_89 ?_
    obtain ⟨g9, hg9, hf⟩ := nm_d hf
    refine zast hx hb hK hP hD hS 11 (wn := (zW_8 cy h0 (ups w0 11 g9))) hg9 rfl rfl (vin_lit (by decide)) rfl dX8_keep_92 (fun H locs hP hD hS => ?_)
    refine lv_aload_n hx hb dX8_keep_93 rfl (lv_at hl 0 rfl) ?_
    refine zget hx hb hts hown hK hP hin_8 0 rfl rfl 33 (by decide) mw_623 (v := .ref (h0 11)) rfl dX8_keep_94 ?_
    refine lv_bipush (v := (9 : Int32)) hx hb dX8_keep_97 (by decide) ?_
    refine lv_aload_n hx hb dX8_keep_99 rfl (lv_at hl 0 rfl) ?_
    refine zget hx hb hts hown hK hP hin_8 0 rfl rfl 22 (by decide) mw_612 (v := .int (w0 0 22)) rfl dX8_keep_100 ?_
    obtain ⟨g10, hg10, hf⟩ := nm_d hf
    refine zast hx hb hK hP hD hS 11 (wn := (zW_8 cy h0 (ups w0 11 g10))) hg10 rfl rfl (vin_lit (by decide)) rfl dX8_keep_103 (fun H locs hP hD hS => ?_)
    refine lv_aload_n hx hb dX8_keep_104 rfl (lv_at hl 0 rfl) ?_
    refine zget hx hb hts hown hK hP hin_8 0 rfl rfl 33 (by decide) mw_623 (v := .ref (h0 11)) rfl dX8_keep_105 ?_
    refine lv_bipush (v := (10 : Int32)) hx hb dX8_keep_108 (by decide) ?_
    refine lv_aload_n hx hb dX8_keep_110 rfl (lv_at hl 0 rfl) ?_
    refine zget hx hb hts hown hK hP hin_8 0 rfl rfl 23 (by decide) mw_613 (v := .int (w0 0 23)) rfl dX8_keep_111 ?_
    obtain ⟨g11, hg11, hf⟩ := nm_d hf
    refine zast hx hb hK hP hD hS 11 (wn := (zW_8 cy h0 (ups w0 11 g11))) hg11 rfl rfl (vin_lit (by decide)) rfl dX8_keep_114 (fun H locs hP hD hS => ?_)
    refine lv_aload_n hx hb dX8_keep_115 rfl (lv_at hl 0 rfl) ?_
    refine zget hx hb hts hown hK hP hin_8 0 rfl rfl 33 (by decide) mw_623 (v := .ref (h0 11)) rfl dX8_keep_116 ?_
    refine lv_bipush (v := (11 : Int32)) hx hb dX8_keep_119 (by decide) ?_
    refine lv_aload_n hx hb dX8_keep_121 rfl (lv_at hl 0 rfl) ?_
    refine zget hx hb hts hown hK hP hin_8 0 rfl rfl 24 (by decide) mw_614 (v := .int (w0 0 24)) rfl dX8_keep_122 ?_
    refine lv_if_eq (tgt := 132) hx hb dX8_keep_125 (by decide) (fun hc => ?_) (fun hc => ?_)
    · have hf := it_t hc hf
      refine lv_iconst (v := (0 : Int32)) hx hb dX8_keep_132 (by decide) ?_
      exact k133 g11 (11 : Int32) (0 : Int32) H locs ls hP hD hS (lv_sub hl [0] rfl) hf
    · have hf := it_f hc hf
      refine lv_iconst (v := (1 : Int32)) hx hb dX8_keep_128 (by decide) ?_
      refine lv_goto (tgt := 133) hx hb dX8_keep_129 (by decide) ?_
      exact k133 g11 (11 : Int32) (1 : Int32) H locs ls hP hD hS (lv_sub hl [0] rfl) hf
  exact kE s.heap [] hP hD hS
set_option maxHeartbeats 4000000 in
set_option maxRecDepth 100000 in
theorem kX8_again (l : Launch) (dC : Nat → ClassId) (dI : Nat → Nat → Nat) (cy : ClassId) (h0 : Nat → Nat) (w0 : Nat → Nat → Int32) (sz : Nat) (z : (Nat → Int32) × (Nat → Int32)) (hf : fX8_again w0 = some z) : Met l yX8_again (wsM yX8_again cX8_again 1 none) ({ frames := 0, cells := 0, slots := 0, locals := 0 } : Room) (va_Pc [.ref (h0 0)] (pWR (dC, dI) vwCl [(cy, .int)] (zW_8 cy h0 w0) sz)) (va_Qv (fun (v : (Nat → Int32) × (Nat → Int32)) => v = z) (fun v => aWR (dC, dI) vwCl [(cy, .int)] (va_A (zW_8 cy h0 w0) sz) (zW_8 cy h0 (ups (ups w0 0 v.1) 3 v.2))) (va_A (zW_8 cy h0 w0) sz)) 0 0 (va_A (zW_8 cy h0 w0) sz) := by
  refine Met.ofW (cc := cX8_again) (maxL := 1) (ret := none) (by decide) rfl ?_
  intro p e s m args below meth c s₁ B hml hv
  obtain ⟨ha, hsz, hP, hK, hD0, hG⟩ := hv
  have hx := B.exec
  have hb := B.bytes
  have hr := B.returns
  have hts : ∀ w ∈ wsA, w.before args s = true := fun w h => atoms_spec (ws := wsM yX8_again cX8_again 1 none) B.pre w (List.mem_cons_of_mem _ h)
  have hown : s.vm.findClass RX8 = some m.cls := findClass_of_methodNamed B.named
  have hlocks := B.notSynchronized
  subst hsz
  have hD := hD0.self (sz := s.heap.size)
  generalize hAe : va_A (zW_8 cy h0 w0) s.heap.size = A at hD hG ⊢
  have hA : ∀ q : Nat, s.heap.size ≤ q → A q := fun q h => by rw [← hAe]; exact Or.inr h
  have hS : va_S A s.heap s.heap [] := va_S.rf
  have hP : va_P (dC, dI) vwCl (zW_8 cy h0 (ups (ups w0 0 (w0 0)) 3 (w0 3))) s.heap := hP
  have hD : va_D A (zW_8 cy h0 (ups (ups w0 0 (w0 0)) 3 (w0 3))) := hD
  have k132 : ∀ (c0_0 : (Nat → Int32)) (c0_3 : (Nat → Int32)) (t1 : Int32) (H : Heap) (locs : List Loc) (ls : Array Slot), va_P (dC, dI) vwCl (zW_8 cy h0 (ups (ups w0 0 c0_0) 3 c0_3)) H → va_D A (zW_8 cy h0 (ups (ups w0 0 c0_0) 3 c0_3)) → va_S A s.heap H locs → lv_has ls 1 [(0, .ref (h0 0))] → (fX8_again_132 w0) c0_0 c0_3 t1 = some z → W p l e ({ frames := 0, cells := 0, slots := 0, locals := 0 } : Room) s m args below meth c H locs 0 0 (MQ below (va_Qv (fun (v : (Nat → Int32) × (Nat → Int32)) => v = z) (fun v => aWR (dC, dI) vwCl [(cy, .int)] A (zW_8 cy h0 (ups (ups w0 0 v.1) 3 v.2))) A) args s 0 0 A) (F0 m 132 ls [.int t1, .ref (h0 0)]) := by
    intro c0_0 c0_3 t1 H locs ls hP hD hS hl hf
    unfold fX8_again_132 at hf
    obtain ⟨hz1, hf⟩ := gz_d hf
    refine zput hx hb hts hown hK hP hD hS hin_8 tyX8 tyX8_ok nmX8 0 rfl rfl 24 (by decide) mw_614 rfl (v := .int t1) (gz_n hz1) (gz_f hz1) (Nat.le_of_ble_eq_true rfl) (wn := (zW_8 cy h0 (ups (ups w0 0 (ups c0_0 24 t1)) 3 c0_3))) rfl dX8_again_132 (fun H locs hP hD hS => ?_)
    refine lv_aload_n hx hb dX8_again_135 rfl (lv_at hl 0 rfl) ?_
    refine zget hx hb hts hown hK hP hin_8 0 rfl rfl 5 (by decide) mw_595 (v := .ref (h0 3)) rfl dX8_again_136 ?_
    refine lv_iconst (v := (5 : Int32)) hx hb dX8_again_139 (by decide) ?_
    refine lv_aload_n hx hb dX8_again_140 rfl (lv_at hl 0 rfl) ?_
    refine zget hx hb hts hown hK hP hin_8 0 rfl rfl 33 (by decide) mw_623 (v := .ref (h0 11)) rfl dX8_again_141 ?_
    refine lv_bipush (v := (12 : Int32)) hx hb dX8_again_144 (by decide) ?_
    refine va_iald hx hb hK hP 11 0 rfl rfl (vin_lit (by decide)) dX8_again_146 ?_
    obtain ⟨g2, hg2, hf⟩ := nm_d hf
    refine zast hx hb hK hP hD hS 3 (wn := (zW_8 cy h0 (ups (ups w0 0 (ups c0_0 24 t1)) 3 g2))) hg2 rfl rfl (vin_lit (by decide)) rfl dX8_again_147 (fun H locs hP hD hS => ?_)
    refine lv_aload_n hx hb dX8_again_148 rfl (lv_at hl 0 rfl) ?_
    refine lv_iconst (v := (0 : Int32)) hx hb dX8_again_149 (by decide) ?_
    refine zput hx hb hts hown hK hP hD hS hin_8 tyX8 tyX8_ok nmX8 0 rfl rfl 25 (by decide) mw_615 rfl (v := .int (0 : Int32)) rfl rfl (Nat.le_of_ble_eq_true rfl) (wn := (zW_8 cy h0 (ups (ups w0 0 (ups (ups c0_0 24 t1) 25 (0 : Int32))) 3 g2))) rfl dX8_again_150 (fun H locs hP hD hS => ?_)
    refine lv_aload_n hx hb dX8_again_153 rfl (lv_at hl 0 rfl) ?_
    refine lv_iconst (v := (-1 : Int32)) hx hb dX8_again_154 (by decide) ?_
    refine zput hx hb hts hown hK hP hD hS hin_8 tyX8 tyX8_ok nmX8 0 rfl rfl 26 (by decide) mw_616 rfl (v := .int (-1 : Int32)) rfl rfl (Nat.le_of_ble_eq_true rfl) (wn := (zW_8 cy h0 (ups (ups w0 0 (ups (ups (ups c0_0 24 t1) 25 (0 : Int32)) 26 (-1 : Int32))) 3 g2))) rfl dX8_again_155 (fun H locs hP hD hS => ?_)
    exact zretV hx hb hr hlocks hP hK hD hS hf rfl dX8_again_158
  obtain ⟨ls, hl, he⟩ := zent (m := m) (n := 1) (L := [(0, .ref (h0 0))]) ha (Nat.le_of_ble_eq_true rfl) rfl
  refine W.eq he ?_
  unfold fX8_again at hf
  have kE : ∀ (H : Heap) (locs : List Loc), va_P (dC, dI) vwCl (zW_8 cy h0 (ups (ups w0 0 (w0 0)) 3 (w0 3))) H → va_D A (zW_8 cy h0 (ups (ups w0 0 (w0 0)) 3 (w0 3))) → va_S A s.heap H locs → W p l e ({ frames := 0, cells := 0, slots := 0, locals := 0 } : Room) s m args below meth c H locs 0 0 (MQ below (va_Qv (fun (v : (Nat → Int32) × (Nat → Int32)) => v = z) (fun v => aWR (dC, dI) vwCl [(cy, .int)] A (zW_8 cy h0 (ups (ups w0 0 v.1) 3 v.2))) A) args s 0 0 A) (F0 m 0 ls []) := by
    intro H locs hP hD hS
    refine lv_aload_n hx hb dX8_again_0 rfl (lv_at hl 0 rfl) ?_
    refine lv_aload_n hx hb dX8_again_1 rfl (lv_at hl 0 rfl) ?_
    refine zget hx hb hts hown hK hP hin_8 0 rfl rfl 33 (by decide) mw_623 (v := .ref (h0 11)) rfl dX8_again_2 ?_
    refine lv_iconst (v := (0 : Int32)) hx hb dX8_again_5 (by decide) ?_
    refine va_iald hx hb hK hP 11 0 rfl rfl (vin_lit (by decide)) dX8_again_6 ?_
    refine zput hx hb hts hown hK hP hD hS hin_8 tyX8 tyX8_ok nmX8 0 rfl rfl 13 (by decide) mw_603 rfl (v := .int ((w0 11) ((0 : Int32)).toNatClampNeg)) rfl rfl (Nat.le_of_ble_eq_true rfl) (wn := (zW_8 cy h0 (ups (ups w0 0 (ups (w0 0) 13 ((w0 11) ((0 : Int32)).toNatClampNeg))) 3 (w0 3)))) rfl dX8_again_7 (fun H locs hP hD hS => ?_)
    refine lv_aload_n hx hb dX8_again_10 rfl (lv_at hl 0 rfl) ?_
    refine lv_aload_n hx hb dX8_again_11 rfl (lv_at hl 0 rfl) ?_
    refine zget hx hb hts hown hK hP hin_8 0 rfl rfl 33 (by decide) mw_623 (v := .ref (h0 11)) rfl dX8_again_12 ?_
    refine lv_iconst (v := (1 : Int32)) hx hb dX8_again_15 (by decide) ?_
    refine va_iald hx hb hK hP 11 0 rfl rfl (vin_lit (by decide)) dX8_again_16 ?_
    refine zput hx hb hts hown hK hP hD hS hin_8 tyX8 tyX8_ok nmX8 0 rfl rfl 14 (by decide) mw_604 rfl (v := .int ((w0 11) ((1 : Int32)).toNatClampNeg)) rfl rfl (Nat.le_of_ble_eq_true rfl) (wn := (zW_8 cy h0 (ups (ups w0 0 (ups (ups (w0 0) 13 ((w0 11) ((0 : Int32)).toNatClampNeg)) 14 ((w0 11) ((1 : Int32)).toNatClampNeg))) 3 (w0 3)))) rfl dX8_again_17 (fun H locs hP hD hS => ?_)
    refine lv_aload_n hx hb dX8_again_20 rfl (lv_at hl 0 rfl) ?_
    refine lv_aload_n hx hb dX8_again_21 rfl (lv_at hl 0 rfl) ?_
    refine zget hx hb hts hown hK hP hin_8 0 rfl rfl 33 (by decide) mw_623 (v := .ref (h0 11)) rfl dX8_again_22 ?_
    refine lv_iconst (v := (2 : Int32)) hx hb dX8_again_25 (by decide) ?_
    refine va_iald hx hb hK hP 11 0 rfl rfl (vin_lit (by decide)) dX8_again_26 ?_
    refine zput hx hb hts hown hK hP hD hS hin_8 tyX8 tyX8_ok nmX8 0 rfl rfl 15 (by decide) mw_605 rfl (v := .int ((w0 11) ((2 : Int32)).toNatClampNeg)) rfl rfl (Nat.le_of_ble_eq_true rfl) (wn := (zW_8 cy h0 (ups (ups w0 0 (ups (ups (ups (w0 0) 13 ((w0 11) ((0 : Int32)).toNatClampNeg)) 14 ((w0 11) ((1 : Int32)).toNatClampNeg)) 15 ((w0 11) ((2 : Int32)).toNatClampNeg))) 3 (w0 3)))) rfl dX8_again_27 (fun H locs hP hD hS => ?_)
    refine lv_aload_n hx hb dX8_again_30 rfl (lv_at hl 0 rfl) ?_
    refine lv_aload_n hx hb dX8_again_31 rfl (lv_at hl 0 rfl) ?_
    refine zget hx hb hts hown hK hP hin_8 0 rfl rfl 33 (by decide) mw_623 (v := .ref (h0 11)) rfl dX8_again_32 ?_
    refine lv_iconst (v := (3 : Int32)) hx hb dX8_again_35 (by decide) ?_
    refine va_iald hx hb hK hP 11 0 rfl rfl (vin_lit (by decide)) dX8_again_36 ?_
    refine zput hx hb hts hown hK hP hD hS hin_8 tyX8 tyX8_ok nmX8 0 rfl rfl 16 (by decide) mw_606 rfl (v := .int ((w0 11) ((3 : Int32)).toNatClampNeg)) rfl rfl (Nat.le_of_ble_eq_true rfl) (wn := (zW_8 cy h0 (ups (ups w0 0 (ups (ups (ups (ups (w0 0) 13 ((w0 11) ((0 : Int32)).toNatClampNeg)) 14 ((w0 11) ((1 : Int32)).toNatClampNeg)) 15 ((w0 11) ((2 : Int32)).toNatClampNeg)) 16 ((w0 11) ((3 : Int32)).toNatClampNeg))) 3 (w0 3)))) rfl dX8_again_37 (fun H locs hP hD hS => ?_)
    refine lv_aload_n hx hb dX8_again_40 rfl (lv_at hl 0 rfl) ?_
    refine lv_aload_n hx hb dX8_again_41 rfl (lv_at hl 0 rfl) ?_
    refine zget hx hb hts hown hK hP hin_8 0 rfl rfl 33 (by decide) mw_623 (v := .ref (h0 11)) rfl dX8_again_42 ?_
    refine lv_iconst (v := (4 : Int32)) hx hb dX8_again_45 (by decide) ?_
    refine va_iald hx hb hK hP 11 0 rfl rfl (vin_lit (by decide)) dX8_again_46 ?_
    refine zput hx hb hts hown hK hP hD hS hin_8 tyX8 tyX8_ok nmX8 0 rfl rfl 17 (by decide) mw_607 rfl (v := .int ((w0 11) ((4 : Int32)).toNatClampNeg)) rfl rfl (Nat.le_of_ble_eq_true rfl) (wn := (zW_8 cy h0 (ups (ups w0 0 (ups (ups (ups (ups (ups (w0 0) 13 ((w0 11) ((0 : Int32)).toNatClampNeg)) 14 ((w0 11) ((1 : Int32)).toNatClampNeg)) 15 ((w0 11) ((2 : Int32)).toNatClampNeg)) 16 ((w0 11) ((3 : Int32)).toNatClampNeg)) 17 ((w0 11) ((4 : Int32)).toNatClampNeg))) 3 (w0 3)))) rfl dX8_again_47 (fun H locs hP hD hS => ?_)
    refine lv_aload_n hx hb dX8_again_50 rfl (lv_at hl 0 rfl) ?_
    refine lv_aload_n hx hb dX8_again_51 rfl (lv_at hl 0 rfl) ?_
    refine zget hx hb hts hown hK hP hin_8 0 rfl rfl 33 (by decide) mw_623 (v := .ref (h0 11)) rfl dX8_again_52 ?_
    refine lv_iconst (v := (5 : Int32)) hx hb dX8_again_55 (by decide) ?_
    refine va_iald hx hb hK hP 11 0 rfl rfl (vin_lit (by decide)) dX8_again_56 ?_
    refine zput hx hb hts hown hK hP hD hS hin_8 tyX8 tyX8_ok nmX8 0 rfl rfl 18 (by decide) mw_608 rfl (v := .int ((w0 11) ((5 : Int32)).toNatClampNeg)) rfl rfl (Nat.le_of_ble_eq_true rfl) (wn := (zW_8 cy h0 (ups (ups w0 0 (ups (ups (ups (ups (ups (ups (w0 0) 13 ((w0 11) ((0 : Int32)).toNatClampNeg)) 14 ((w0 11) ((1 : Int32)).toNatClampNeg)) 15 ((w0 11) ((2 : Int32)).toNatClampNeg)) 16 ((w0 11) ((3 : Int32)).toNatClampNeg)) 17 ((w0 11) ((4 : Int32)).toNatClampNeg)) 18 ((w0 11) ((5 : Int32)).toNatClampNeg))) 3 (w0 3)))) rfl dX8_again_57 (fun H locs hP hD hS => ?_)
    refine lv_aload_n hx hb dX8_again_60 rfl (lv_at hl 0 rfl) ?_
    refine lv_aload_n hx hb dX8_again_61 rfl (lv_at hl 0 rfl) ?_
    refine zget hx hb hts hown hK hP hin_8 0 rfl rfl 33 (by decide) mw_623 (v := .ref (h0 11)) rfl dX8_again_62 ?_
    refine lv_bipush (v := (6 : Int32)) hx hb dX8_again_65 (by decide) ?_
    refine va_iald hx hb hK hP 11 0 rfl rfl (vin_lit (by decide)) dX8_again_67 ?_
    refine zput hx hb hts hown hK hP hD hS hin_8 tyX8 tyX8_ok nmX8 0 rfl rfl 19 (by decide) mw_609 rfl (v := .int ((w0 11) ((6 : Int32)).toNatClampNeg)) rfl rfl (Nat.le_of_ble_eq_true rfl) (wn := (zW_8 cy h0 (ups (ups w0 0 (ups (ups (ups (ups (ups (ups (ups (w0 0) 13 ((w0 11) ((0 : Int32)).toNatClampNeg)) 14 ((w0 11) ((1 : Int32)).toNatClampNeg)) 15 ((w0 11) ((2 : Int32)).toNatClampNeg)) 16 ((w0 11) ((3 : Int32)).toNatClampNeg)) 17 ((w0 11) ((4 : Int32)).toNatClampNeg)) 18 ((w0 11) ((5 : Int32)).toNatClampNeg)) 19 ((w0 11) ((6 : Int32)).toNatClampNeg))) 3 (w0 3)))) rfl dX8_again_68 (fun H locs hP hD hS => ?_)
    refine lv_aload_n hx hb dX8_again_71 rfl (lv_at hl 0 rfl) ?_
    refine lv_aload_n hx hb dX8_again_72 rfl (lv_at hl 0 rfl) ?_
    refine zget hx hb hts hown hK hP hin_8 0 rfl rfl 33 (by decide) mw_623 (v := .ref (h0 11)) rfl dX8_again_73 ?_
    refine lv_bipush (v := (7 : Int32)) hx hb dX8_again_76 (by decide) ?_
    refine va_iald hx hb hK hP 11 0 rfl rfl (vin_lit (by decide)) dX8_again_78 ?_
    refine zput hx hb hts hown hK hP hD hS hin_8 tyX8 tyX8_ok nmX8 0 rfl rfl 20 (by decide) mw_610 rfl (v := .int ((w0 11) ((7 : Int32)).toNatClampNeg)) rfl rfl (Nat.le_of_ble_eq_true rfl) (wn := (zW_8 cy h0 (ups (ups w0 0 (ups (ups (ups (ups (ups (ups (ups (ups (w0 0) 13 ((w0 11) ((0 : Int32)).toNatClampNeg)) 14 ((w0 11) ((1 : Int32)).toNatClampNeg)) 15 ((w0 11) ((2 : Int32)).toNatClampNeg)) 16 ((w0 11) ((3 : Int32)).toNatClampNeg)) 17 ((w0 11) ((4 : Int32)).toNatClampNeg)) 18 ((w0 11) ((5 : Int32)).toNatClampNeg)) 19 ((w0 11) ((6 : Int32)).toNatClampNeg)) 20 ((w0 11) ((7 : Int32)).toNatClampNeg))) 3 (w0 3)))) rfl dX8_again_79 (fun H locs hP hD hS => ?_)
    refine lv_aload_n hx hb dX8_again_82 rfl (lv_at hl 0 rfl) ?_
    refine lv_aload_n hx hb dX8_again_83 rfl (lv_at hl 0 rfl) ?_
    refine zget hx hb hts hown hK hP hin_8 0 rfl rfl 33 (by decide) mw_623 (v := .ref (h0 11)) rfl dX8_again_84 ?_
    refine lv_bipush (v := (8 : Int32)) hx hb dX8_again_87 (by decide) ?_
    refine va_iald hx hb hK hP 11 0 rfl rfl (vin_lit (by decide)) dX8_again_89 ?_
    refine zput hx hb hts hown hK hP hD hS hin_8 tyX8 tyX8_ok nmX8 0 rfl rfl 21 (by decide) mw_611 rfl (v := .int ((w0 11) ((8 : Int32)).toNatClampNeg)) rfl rfl (Nat.le_of_ble_eq_true rfl) (wn := (zW_8 cy h0 (ups (ups w0 0 (ups (ups (ups (ups (ups (ups (ups (ups (ups (w0 0) 13 ((w0 11) ((0 : Int32)).toNatClampNeg)) 14 ((w0 11) ((1 : Int32)).toNatClampNeg)) 15 ((w0 11) ((2 : Int32)).toNatClampNeg)) 16 ((w0 11) ((3 : Int32)).toNatClampNeg)) 17 ((w0 11) ((4 : Int32)).toNatClampNeg)) 18 ((w0 11) ((5 : Int32)).toNatClampNeg)) 19 ((w0 11) ((6 : Int32)).toNatClampNeg)) 20 ((w0 11) ((7 : Int32)).toNatClampNeg)) 21 ((w0 11) ((8 : Int32)).toNatClampNeg))) 3 (w0 3)))) rfl dX8_again_90 (fun H locs hP hD hS => ?_)
    refine lv_aload_n hx hb dX8_again_93 rfl (lv_at hl 0 rfl) ?_
    refine lv_aload_n hx hb dX8_again_94 rfl (lv_at hl 0 rfl) ?_
    refine zget hx hb hts hown hK hP hin_8 0 rfl rfl 33 (by decide) mw_623 (v := .ref (h0 11)) rfl dX8_again_95 ?_
    refine lv_bipush (v := (9 : Int32)) hx hb dX8_again_98 (by decide) ?_
    refine va_iald hx hb hK hP 11 0 rfl rfl (vin_lit (by decide)) dX8_again_100 ?_
    refine zput hx hb hts hown hK hP hD hS hin_8 tyX8 tyX8_ok nmX8 0 rfl rfl 22 (by decide) mw_612 rfl (v := .int ((w0 11) ((9 : Int32)).toNatClampNeg)) rfl rfl (Nat.le_of_ble_eq_true rfl) (wn := (zW_8 cy h0 (ups (ups w0 0 (ups (ups (ups (ups (ups (ups (ups (ups (ups (ups (w0 0) 13 ((w0 11) ((0 : Int32)).toNatClampNeg)) 14 ((w0 11) ((1 : Int32)).toNatClampNeg)) 15 ((w0 11) ((2 : Int32)).toNatClampNeg)) 16 ((w0 11) ((3 : Int32)).toNatClampNeg)) 17 ((w0 11) ((4 : Int32)).toNatClampNeg)) 18 ((w0 11) ((5 : Int32)).toNatClampNeg)) 19 ((w0 11) ((6 : Int32)).toNatClampNeg)) 20 ((w0 11) ((7 : Int32)).toNatClampNeg)) 21 ((w0 11) ((8 : Int32)).toNatClampNeg)) 22 ((w0 11) ((9 : Int32)).toNatClampNeg))) 3 (w0 3)))) rfl dX8_again_101 (fun H locs hP hD hS => ?_)
    refine lv_aload_n hx hb dX8_again_104 rfl (lv_at hl 0 rfl) ?_
    refine lv_aload_n hx hb dX8_again_105 rfl (lv_at hl 0 rfl) ?_
    refine zget hx hb hts hown hK hP hin_8 0 rfl rfl 33 (by decide) mw_623 (v := .ref (h0 11)) rfl dX8_again_106 ?_
    refine lv_bipush (v := (10 : Int32)) hx hb dX8_again_109 (by decide) ?_
    refine va_iald hx hb hK hP 11 0 rfl rfl (vin_lit (by decide)) dX8_again_111 ?_
    refine zput hx hb hts hown hK hP hD hS hin_8 tyX8 tyX8_ok nmX8 0 rfl rfl 23 (by decide) mw_613 rfl (v := .int ((w0 11) ((10 : Int32)).toNatClampNeg)) rfl rfl (Nat.le_of_ble_eq_true rfl) (wn := (zW_8 cy h0 (ups (ups w0 0 (ups (ups (ups (ups (ups (ups (ups (ups (ups (ups (ups (w0 0) 13 ((w0 11) ((0 : Int32)).toNatClampNeg)) 14 ((w0 11) ((1 : Int32)).toNatClampNeg)) 15 ((w0 11) ((2 : Int32)).toNatClampNeg)) 16 ((w0 11) ((3 : Int32)).toNatClampNeg)) 17 ((w0 11) ((4 : Int32)).toNatClampNeg)) 18 ((w0 11) ((5 : Int32)).toNatClampNeg)) 19 ((w0 11) ((6 : Int32)).toNatClampNeg)) 20 ((w0 11) ((7 : Int32)).toNatClampNeg)) 21 ((w0 11) ((8 : Int32)).toNatClampNeg)) 22 ((w0 11) ((9 : Int32)).toNatClampNeg)) 23 ((w0 11) ((10 : Int32)).toNatClampNeg))) 3 (w0 3)))) rfl dX8_again_112 (fun H locs hP hD hS => ?_)
    refine lv_aload_n hx hb dX8_again_115 rfl (lv_at hl 0 rfl) ?_
    refine lv_aload_n hx hb dX8_again_116 rfl (lv_at hl 0 rfl) ?_
    refine zget hx hb hts hown hK hP hin_8 0 rfl rfl 33 (by decide) mw_623 (v := .ref (h0 11)) rfl dX8_again_117 ?_
    refine lv_bipush (v := (11 : Int32)) hx hb dX8_again_120 (by decide) ?_
    refine va_iald hx hb hK hP 11 0 rfl rfl (vin_lit (by decide)) dX8_again_122 ?_
    refine lv_iconst (v := (1 : Int32)) hx hb dX8_again_123 (by decide) ?_
    refine lv_icmp_ne (tgt := 131) hx hb dX8_again_124 (by decide) (fun hc => ?_) (fun hc => ?_)
    · have hf := it_f hc hf
      refine lv_iconst (v := (0 : Int32)) hx hb dX8_again_131 (by decide) ?_
      exact k132 (ups (ups (ups (ups (ups (ups (ups (ups (ups (ups (ups (w0 0) 13 ((w0 11) ((0 : Int32)).toNatClampNeg)) 14 ((w0 11) ((1 : Int32)).toNatClampNeg)) 15 ((w0 11) ((2 : Int32)).toNatClampNeg)) 16 ((w0 11) ((3 : Int32)).toNatClampNeg)) 17 ((w0 11) ((4 : Int32)).toNatClampNeg)) 18 ((w0 11) ((5 : Int32)).toNatClampNeg)) 19 ((w0 11) ((6 : Int32)).toNatClampNeg)) 20 ((w0 11) ((7 : Int32)).toNatClampNeg)) 21 ((w0 11) ((8 : Int32)).toNatClampNeg)) 22 ((w0 11) ((9 : Int32)).toNatClampNeg)) 23 ((w0 11) ((10 : Int32)).toNatClampNeg)) (w0 3) (0 : Int32) H locs ls hP hD hS (lv_sub hl [0] rfl) hf
    · have hf := it_t hc hf
      refine lv_iconst (v := (1 : Int32)) hx hb dX8_again_127 (by decide) ?_
      refine lv_goto (tgt := 132) hx hb dX8_again_128 (by decide) ?_
      exact k132 (ups (ups (ups (ups (ups (ups (ups (ups (ups (ups (ups (w0 0) 13 ((w0 11) ((0 : Int32)).toNatClampNeg)) 14 ((w0 11) ((1 : Int32)).toNatClampNeg)) 15 ((w0 11) ((2 : Int32)).toNatClampNeg)) 16 ((w0 11) ((3 : Int32)).toNatClampNeg)) 17 ((w0 11) ((4 : Int32)).toNatClampNeg)) 18 ((w0 11) ((5 : Int32)).toNatClampNeg)) 19 ((w0 11) ((6 : Int32)).toNatClampNeg)) 20 ((w0 11) ((7 : Int32)).toNatClampNeg)) 21 ((w0 11) ((8 : Int32)).toNatClampNeg)) 22 ((w0 11) ((9 : Int32)).toNatClampNeg)) 23 ((w0 11) ((10 : Int32)).toNatClampNeg)) (w0 3) (1 : Int32) H locs ls hP hD hS (lv_sub hl [0] rfl) hf
  exact kE s.heap [] hP hD hS
set_option maxHeartbeats 4000000 in
set_option maxRecDepth 100000 in
theorem kX8_moves (l : Launch) (dC : Nat → ClassId) (dI : Nat → Nat → Nat) (cy : ClassId) (h0 : Nat → Nat) (w0 : Nat → Nat → Int32) (x1 : Int32) (sz : Nat) (z : Int32 × (Nat → Int32) × (Nat → Int32)) (hf : fX8_moves w0 x1 = some z) : Met l yX8_moves (wsM yX8_moves cX8_moves 11 (some .int)) ({ frames := 2, cells := 0, slots := 0, locals := 42 } : Room) (va_Pc [.ref (h0 0), .int x1] (pWR (dC, dI) vwCl [(cy, .int)] (zW_8 cy h0 w0) sz)) (va_Qi (fun (q : Int32) (v : (Nat → Int32) × (Nat → Int32)) => (q, v) = z) (fun v => aWR (dC, dI) vwCl [(cy, .int)] (va_A (zW_8 cy h0 w0) sz) (zW_8 cy h0 (ups (ups w0 12 v.1) 13 v.2))) (va_A (zW_8 cy h0 w0) sz)) 0 0 (va_A (zW_8 cy h0 w0) sz) := by
  refine Met.ofW (cc := cX8_moves) (maxL := 11) (ret := (some .int)) (by decide) rfl ?_
  intro p e s m args below meth c s₁ B hml hv
  obtain ⟨ha, hsz, hP, hK, hD0, hG⟩ := hv
  have hx := B.exec
  have hb := B.bytes
  have hr := B.returns
  have hts : ∀ w ∈ wsA, w.before args s = true := fun w h => atoms_spec (ws := wsM yX8_moves cX8_moves 11 (some .int)) B.pre w (List.mem_cons_of_mem _ h)
  have hown : s.vm.findClass RX8 = some m.cls := findClass_of_methodNamed B.named
  have hlocks := B.notSynchronized
  subst hsz
  have hD := hD0.self (sz := s.heap.size)
  generalize hAe : va_A (zW_8 cy h0 w0) s.heap.size = A at hD hG ⊢
  have hA : ∀ q : Nat, s.heap.size ≤ q → A q := fun q h => by rw [← hAe]; exact Or.inr h
  have hS : va_S A s.heap s.heap [] := va_S.rf
  have hP : va_P (dC, dI) vwCl (zW_8 cy h0 (ups (ups w0 12 (w0 12)) 13 (w0 13))) s.heap := hP
  have hD : va_D A (zW_8 cy h0 (ups (ups w0 12 (w0 12)) 13 (w0 13))) := hD
  have k279 : ∀ (s91 : (Nat → Int32) → (Nat → Int32) → Int32 → Int32 → Int32 → Int32 → Option (Int32 × (Nat → Int32) × (Nat → Int32))) (hs91 : ∀ (c0_12 : (Nat → Int32)) (c0_13 : (Nat → Int32)) (x2 : Int32) (x3 : Int32) (x4 : Int32) (x5 : Int32) (H : Heap) (locs : List Loc) (ls : Array Slot), va_P (dC, dI) vwCl (zW_8 cy h0 (ups (ups w0 12 c0_12) 13 c0_13)) H → va_D A (zW_8 cy h0 (ups (ups w0 12 c0_12) 13 c0_13)) → va_S A s.heap H locs → lv_has ls 11 [(0, .ref (h0 0)), (2, .int x2), (3, .int x3), (4, .int x4), (5, .int x5)] → s91 c0_12 c0_13 x2 x3 x4 x5 = some z → W p l e ({ frames := 2, cells := 0, slots := 0, locals := 42 } : Room) s m args below meth c H locs 0 0 (MQ below (va_Qi (fun (q : Int32) (v : (Nat → Int32) × (Nat → Int32)) => (q, v) = z) (fun v => aWR (dC, dI) vwCl [(cy, .int)] A (zW_8 cy h0 (ups (ups w0 12 v.1) 13 v.2))) A) args s 0 0 A) (F0 m 91 ls [])), ∀ (s121 : (Nat → Int32) → (Nat → Int32) → Int32 → Int32 → Int32 → Int32 → Int32 → Int32 → Int32 → Option (Int32 × (Nat → Int32) × (Nat → Int32))) (hs121 : ∀ (c0_12 : (Nat → Int32)) (c0_13 : (Nat → Int32)) (x2 : Int32) (x3 : Int32) (x4 : Int32) (x5 : Int32) (x6 : Int32) (x7 : Int32) (x8 : Int32) (H : Heap) (locs : List Loc) (ls : Array Slot), va_P (dC, dI) vwCl (zW_8 cy h0 (ups (ups w0 12 c0_12) 13 c0_13)) H → va_D A (zW_8 cy h0 (ups (ups w0 12 c0_12) 13 c0_13)) → va_S A s.heap H locs → lv_has ls 11 [(0, .ref (h0 0)), (2, .int x2), (3, .int x3), (4, .int x4), (5, .int x5), (6, .int x6), (7, .int x7), (8, .int x8)] → s121 c0_12 c0_13 x2 x3 x4 x5 x6 x7 x8 = some z → W p l e ({ frames := 2, cells := 0, slots := 0, locals := 42 } : Room) s m args below meth c H locs 0 0 (MQ below (va_Qi (fun (q : Int32) (v : (Nat → Int32) × (Nat → Int32)) => (q, v) = z) (fun v => aWR (dC, dI) vwCl [(cy, .int)] A (zW_8 cy h0 (ups (ups w0 12 v.1) 13 v.2))) A) args s 0 0 A) (F0 m 121 ls [])), ∀ (c0_12 : (Nat → Int32)) (c0_13 : (Nat → Int32)) (x2 : Int32) (x3 : Int32) (x4 : Int32) (x5 : Int32) (x6 : Int32) (x7 : Int32) (x8 : Int32) (H : Heap) (locs : List Loc) (ls : Array Slot), va_P (dC, dI) vwCl (zW_8 cy h0 (ups (ups w0 12 c0_12) 13 c0_13)) H → va_D A (zW_8 cy h0 (ups (ups w0 12 c0_12) 13 c0_13)) → va_S A s.heap H locs → lv_has ls 11 [(0, .ref (h0 0)), (2, .int x2), (3, .int x3), (4, .int x4), (5, .int x5), (6, .int x6), (7, .int x7), (8, .int x8)] → (fX8_moves_279 w0 s91 s121) c0_12 c0_13 x2 x3 x4 x5 x6 x7 x8 = some z → W p l e ({ frames := 2, cells := 0, slots := 0, locals := 42 } : Room) s m args below meth c H locs 0 0 (MQ below (va_Qi (fun (q : Int32) (v : (Nat → Int32) × (Nat → Int32)) => (q, v) = z) (fun v => aWR (dC, dI) vwCl [(cy, .int)] A (zW_8 cy h0 (ups (ups w0 12 v.1) 13 v.2))) A) args s 0 0 A) (F0 m 279 ls []) := by
    intro s91 hs91 s121 hs121
    intro c0_12 c0_13 x2 x3 x4 x5 x6 x7 x8 H locs ls hP hD hS hl hf
    unfold fX8_moves_279 at hf
    refine lv_zinc (lv' := [(8, .int (x8 + (1 : Int32))), (0, .ref (h0 0)), (2, .int x2), (3, .int x3), (4, .int x4), (5, .int x5), (6, .int x6), (7, .int x7)]) hx hb dX8_moves_279 hl (k := 7) rfl (v := (1 : Int32)) (by decide) (by decide) rfl (fun ls hl => ?_)
    refine lv_goto (tgt := 121) hx hb dX8_moves_282 (by decide) ?_
    exact hs121 c0_12 c0_13 x2 x3 x4 x5 x6 x7 (x8 + (1 : Int32)) H locs ls hP hD hS (lv_sub hl [1, 2, 3, 4, 5, 6, 7, 0] rfl) hf
  have k212 : ∀ (s91 : (Nat → Int32) → (Nat → Int32) → Int32 → Int32 → Int32 → Int32 → Option (Int32 × (Nat → Int32) × (Nat → Int32))) (hs91 : ∀ (c0_12 : (Nat → Int32)) (c0_13 : (Nat → Int32)) (x2 : Int32) (x3 : Int32) (x4 : Int32) (x5 : Int32) (H : Heap) (locs : List Loc) (ls : Array Slot), va_P (dC, dI) vwCl (zW_8 cy h0 (ups (ups w0 12 c0_12) 13 c0_13)) H → va_D A (zW_8 cy h0 (ups (ups w0 12 c0_12) 13 c0_13)) → va_S A s.heap H locs → lv_has ls 11 [(0, .ref (h0 0)), (2, .int x2), (3, .int x3), (4, .int x4), (5, .int x5)] → s91 c0_12 c0_13 x2 x3 x4 x5 = some z → W p l e ({ frames := 2, cells := 0, slots := 0, locals := 42 } : Room) s m args below meth c H locs 0 0 (MQ below (va_Qi (fun (q : Int32) (v : (Nat → Int32) × (Nat → Int32)) => (q, v) = z) (fun v => aWR (dC, dI) vwCl [(cy, .int)] A (zW_8 cy h0 (ups (ups w0 12 v.1) 13 v.2))) A) args s 0 0 A) (F0 m 91 ls [])), ∀ (s121 : (Nat → Int32) → (Nat → Int32) → Int32 → Int32 → Int32 → Int32 → Int32 → Int32 → Int32 → Option (Int32 × (Nat → Int32) × (Nat → Int32))) (hs121 : ∀ (c0_12 : (Nat → Int32)) (c0_13 : (Nat → Int32)) (x2 : Int32) (x3 : Int32) (x4 : Int32) (x5 : Int32) (x6 : Int32) (x7 : Int32) (x8 : Int32) (H : Heap) (locs : List Loc) (ls : Array Slot), va_P (dC, dI) vwCl (zW_8 cy h0 (ups (ups w0 12 c0_12) 13 c0_13)) H → va_D A (zW_8 cy h0 (ups (ups w0 12 c0_12) 13 c0_13)) → va_S A s.heap H locs → lv_has ls 11 [(0, .ref (h0 0)), (2, .int x2), (3, .int x3), (4, .int x4), (5, .int x5), (6, .int x6), (7, .int x7), (8, .int x8)] → s121 c0_12 c0_13 x2 x3 x4 x5 x6 x7 x8 = some z → W p l e ({ frames := 2, cells := 0, slots := 0, locals := 42 } : Room) s m args below meth c H locs 0 0 (MQ below (va_Qi (fun (q : Int32) (v : (Nat → Int32) × (Nat → Int32)) => (q, v) = z) (fun v => aWR (dC, dI) vwCl [(cy, .int)] A (zW_8 cy h0 (ups (ups w0 12 v.1) 13 v.2))) A) args s 0 0 A) (F0 m 121 ls [])), ∀ (c0_12 : (Nat → Int32)) (c0_13 : (Nat → Int32)) (x2 : Int32) (x3 : Int32) (x4 : Int32) (x5 : Int32) (x6 : Int32) (x7 : Int32) (x8 : Int32) (x9 : Int32) (H : Heap) (locs : List Loc) (ls : Array Slot), va_P (dC, dI) vwCl (zW_8 cy h0 (ups (ups w0 12 c0_12) 13 c0_13)) H → va_D A (zW_8 cy h0 (ups (ups w0 12 c0_12) 13 c0_13)) → va_S A s.heap H locs → lv_has ls 11 [(0, .ref (h0 0)), (2, .int x2), (3, .int x3), (4, .int x4), (5, .int x5), (6, .int x6), (7, .int x7), (8, .int x8), (9, .int x9)] → (fX8_moves_212 w0 s91 s121) c0_12 c0_13 x2 x3 x4 x5 x6 x7 x8 x9 = some z → W p l e ({ frames := 2, cells := 0, slots := 0, locals := 42 } : Room) s m args below meth c H locs 0 0 (MQ below (va_Qi (fun (q : Int32) (v : (Nat → Int32) × (Nat → Int32)) => (q, v) = z) (fun v => aWR (dC, dI) vwCl [(cy, .int)] A (zW_8 cy h0 (ups (ups w0 12 v.1) 13 v.2))) A) args s 0 0 A) (F0 m 212 ls []) := by
    intro s91 hs91 s121 hs121
    intro c0_12 c0_13 x2 x3 x4 x5 x6 x7 x8 x9 H locs ls hP hD hS hl hf
    unfold fX8_moves_212 at hf
    refine lv_iload hx hb dX8_moves_212 (lv_at hl 8 rfl) ?_
    refine lv_if_ge (tgt := 227) hx hb dX8_moves_214 (by decide) (fun hc => ?_) (fun hc => ?_)
    · have hf := it_t hc hf
      refine lv_iconst (v := (3 : Int32)) hx hb dX8_moves_227 (by decide) ?_
      refine lv_iload hx hb dX8_moves_228 (lv_at hl 8 rfl) ?_
      refine lv_imul hx hb dX8_moves_230 ?_
      refine lv_iload hx hb dX8_moves_231 (lv_at hl 6 rfl) ?_
      refine lv_iconst (v := (3 : Int32)) hx hb dX8_moves_233 (by decide) ?_
      refine lv_zrem hx hb dX8_moves_234 (by decide) ?_
      refine lv_iadd hx hb dX8_moves_235 ?_
      refine lv_istore (lv' := [(10, .int (((3 : Int32) * x9) + (zrem x7 (3 : Int32)))), (0, .ref (h0 0)), (2, .int x2), (3, .int x3), (4, .int x4), (5, .int x5), (6, .int x6), (7, .int x7), (8, .int x8), (9, .int x9)]) hx hb dX8_moves_236 hl (by decide) rfl (fun ls hl => ?_)
      refine lv_aload_n hx hb dX8_moves_238 rfl (lv_at hl 1 rfl) ?_
      refine zget hx hb hts hown hK hP hin_8 0 rfl rfl 34 (by decide) mw_624 (v := .ref (h0 12)) rfl dX8_moves_239 ?_
      refine lv_iload hx hb dX8_moves_242 (lv_at hl 0 rfl) ?_
      obtain ⟨hin13, hf⟩ := gd_d hf
      refine va_iald hx hb hK hP 12 0 rfl rfl hin13 dX8_moves_244 ?_
      refine lv_if_lt (tgt := 251) hx hb dX8_moves_245 (by decide) (fun hc => ?_) (fun hc => ?_)
      · have hf := it_t hc hf
        refine lv_aload_n hx hb dX8_moves_251 rfl (lv_at hl 1 rfl) ?_
        refine zget hx hb hts hown hK hP hin_8 0 rfl rfl 34 (by decide) mw_624 (v := .ref (h0 12)) rfl dX8_moves_252 ?_
        refine lv_iload hx hb dX8_moves_255 (lv_at hl 0 rfl) ?_
        refine lv_aload_n hx hb dX8_moves_257 rfl (lv_at hl 1 rfl) ?_
        refine zget hx hb hts hown hK hP hin_8 0 rfl rfl 34 (by decide) mw_624 (v := .ref (h0 12)) rfl dX8_moves_258 ?_
        refine lv_iload hx hb dX8_moves_261 (lv_at hl 6 rfl) ?_
        obtain ⟨hin14, hf⟩ := gd_d hf
        refine va_iald hx hb hK hP 12 0 rfl rfl hin14 dX8_moves_263 ?_
        refine lv_iconst (v := (1 : Int32)) hx hb dX8_moves_264 (by decide) ?_
        refine lv_iadd hx hb dX8_moves_265 ?_
        obtain ⟨hin15, hf⟩ := gd_d hf
        obtain ⟨g16, hg16, hf⟩ := nm_d hf
        refine zast hx hb hK hP hD hS 12 (wn := (zW_8 cy h0 (ups (ups w0 12 g16) 13 c0_13))) hg16 rfl rfl hin15 rfl dX8_moves_266 (fun H locs hP hD hS => ?_)
        refine lv_aload_n hx hb dX8_moves_267 rfl (lv_at hl 1 rfl) ?_
        refine zget hx hb hts hown hK hP hin_8 0 rfl rfl 35 (by decide) mw_625 (v := .ref (h0 13)) rfl dX8_moves_268 ?_
        refine lv_iload hx hb dX8_moves_271 (lv_at hl 5 rfl) ?_
        refine lv_zinc (lv' := [(5, .int (x5 + (1 : Int32))), (10, .int (((3 : Int32) * x9) + (zrem x7 (3 : Int32)))), (0, .ref (h0 0)), (2, .int x2), (3, .int x3), (4, .int x4), (6, .int x6), (7, .int x7), (8, .int x8), (9, .int x9)]) hx hb dX8_moves_273 hl (k := 5) rfl (v := (1 : Int32)) (by decide) (by decide) rfl (fun ls hl => ?_)
        refine lv_iload hx hb dX8_moves_276 (lv_at hl 1 rfl) ?_
        obtain ⟨hin17, hf⟩ := gd_d hf
        obtain ⟨g18, hg18, hf⟩ := nm_d hf
        refine zast hx hb hK hP hD hS 13 (wn := (zW_8 cy h0 (ups (ups w0 12 g16) 13 g18))) hg18 rfl rfl hin17 rfl dX8_moves_278 (fun H locs hP hD hS => ?_)
        exact k279 s91 hs91 s121 hs121 g16 g18 x2 x3 x4 (x5 + (1 : Int32)) x6 x7 x8 H locs ls hP hD hS (lv_sub hl [2, 3, 4, 5, 0, 6, 7, 8] rfl) hf
      · have hf := it_f hc hf
        refine lv_goto (tgt := 279) hx hb dX8_moves_248 (by decide) ?_
        exact k279 s91 hs91 s121 hs121 c0_12 c0_13 x2 x3 x4 x5 x6 x7 x8 H locs ls hP hD hS (lv_sub hl [1, 2, 3, 4, 5, 6, 7, 8] rfl) hf
    · have hf := it_f hc hf
      refine lv_aload_n hx hb dX8_moves_217 rfl (lv_at hl 0 rfl) ?_
      refine zget hx hb hts hown hK hP hin_8 0 rfl rfl 34 (by decide) mw_624 (v := .ref (h0 12)) rfl dX8_moves_218 ?_
      refine lv_iload hx hb dX8_moves_221 (lv_at hl 5 rfl) ?_
      obtain ⟨hin19, hf⟩ := gd_d hf
      refine va_iald hx hb hK hP 12 0 rfl rfl hin19 dX8_moves_223 ?_
      refine lv_iconst (v := (1 : Int32)) hx hb dX8_moves_224 (by decide) ?_
      refine lv_iadd hx hb dX8_moves_225 ?_
      exact zretI hx hb hr hlocks hP hK hD hS hf rfl dX8_moves_226
  have k175 : ∀ (s91 : (Nat → Int32) → (Nat → Int32) → Int32 → Int32 → Int32 → Int32 → Option (Int32 × (Nat → Int32) × (Nat → Int32))) (hs91 : ∀ (c0_12 : (Nat → Int32)) (c0_13 : (Nat → Int32)) (x2 : Int32) (x3 : Int32) (x4 : Int32) (x5 : Int32) (H : Heap) (locs : List Loc) (ls : Array Slot), va_P (dC, dI) vwCl (zW_8 cy h0 (ups (ups w0 12 c0_12) 13 c0_13)) H → va_D A (zW_8 cy h0 (ups (ups w0 12 c0_12) 13 c0_13)) → va_S A s.heap H locs → lv_has ls 11 [(0, .ref (h0 0)), (2, .int x2), (3, .int x3), (4, .int x4), (5, .int x5)] → s91 c0_12 c0_13 x2 x3 x4 x5 = some z → W p l e ({ frames := 2, cells := 0, slots := 0, locals := 42 } : Room) s m args below meth c H locs 0 0 (MQ below (va_Qi (fun (q : Int32) (v : (Nat → Int32) × (Nat → Int32)) => (q, v) = z) (fun v => aWR (dC, dI) vwCl [(cy, .int)] A (zW_8 cy h0 (ups (ups w0 12 v.1) 13 v.2))) A) args s 0 0 A) (F0 m 91 ls [])), ∀ (s121 : (Nat → Int32) → (Nat → Int32) → Int32 → Int32 → Int32 → Int32 → Int32 → Int32 → Int32 → Option (Int32 × (Nat → Int32) × (Nat → Int32))) (hs121 : ∀ (c0_12 : (Nat → Int32)) (c0_13 : (Nat → Int32)) (x2 : Int32) (x3 : Int32) (x4 : Int32) (x5 : Int32) (x6 : Int32) (x7 : Int32) (x8 : Int32) (H : Heap) (locs : List Loc) (ls : Array Slot), va_P (dC, dI) vwCl (zW_8 cy h0 (ups (ups w0 12 c0_12) 13 c0_13)) H → va_D A (zW_8 cy h0 (ups (ups w0 12 c0_12) 13 c0_13)) → va_S A s.heap H locs → lv_has ls 11 [(0, .ref (h0 0)), (2, .int x2), (3, .int x3), (4, .int x4), (5, .int x5), (6, .int x6), (7, .int x7), (8, .int x8)] → s121 c0_12 c0_13 x2 x3 x4 x5 x6 x7 x8 = some z → W p l e ({ frames := 2, cells := 0, slots := 0, locals := 42 } : Room) s m args below meth c H locs 0 0 (MQ below (va_Qi (fun (q : Int32) (v : (Nat → Int32) × (Nat → Int32)) => (q, v) = z) (fun v => aWR (dC, dI) vwCl [(cy, .int)] A (zW_8 cy h0 (ups (ups w0 12 v.1) 13 v.2))) A) args s 0 0 A) (F0 m 121 ls [])), ∀ (c0_12 : (Nat → Int32)) (c0_13 : (Nat → Int32)) (x2 : Int32) (x3 : Int32) (x4 : Int32) (x5 : Int32) (x6 : Int32) (x7 : Int32) (x8 : Int32) (x9 : Int32) (H : Heap) (locs : List Loc) (ls : Array Slot), va_P (dC, dI) vwCl (zW_8 cy h0 (ups (ups w0 12 c0_12) 13 c0_13)) H → va_D A (zW_8 cy h0 (ups (ups w0 12 c0_12) 13 c0_13)) → va_S A s.heap H locs → lv_has ls 11 [(0, .ref (h0 0)), (2, .int x2), (3, .int x3), (4, .int x4), (5, .int x5), (6, .int x6), (7, .int x7), (8, .int x8), (9, .int x9)] → (fX8_moves_175 w0 s91 s121) c0_12 c0_13 x2 x3 x4 x5 x6 x7 x8 x9 = some z → W p l e ({ frames := 2, cells := 0, slots := 0, locals := 42 } : Room) s m args below meth c H locs 0 0 (MQ below (va_Qi (fun (q : Int32) (v : (Nat → Int32) × (Nat → Int32)) => (q, v) = z) (fun v => aWR (dC, dI) vwCl [(cy, .int)] A (zW_8 cy h0 (ups (ups w0 12 v.1) 13 v.2))) A) args s 0 0 A) (F0 m 175 ls []) := by
    intro s91 hs91 s121 hs121
    intro c0_12 c0_13 x2 x3 x4 x5 x6 x7 x8 x9 H locs ls hP hD hS hl hf
    unfold fX8_moves_175 at hf
    refine lv_iload hx hb dX8_moves_175 (lv_at hl 8 rfl) ?_
    refine lv_if_lt (tgt := 212) hx hb dX8_moves_177 (by decide) (fun hc => ?_) (fun hc => ?_)
    · have hf := it_t hc hf
      exact k212 s91 hs91 s121 hs121 c0_12 c0_13 x2 x3 x4 x5 x6 x7 x8 x9 H locs ls hP hD hS (lv_sub hl [0, 1, 2, 3, 4, 5, 6, 7, 8] rfl) hf
    · have hf := it_f hc hf
      refine lv_iload hx hb dX8_moves_180 (lv_at hl 6 rfl) ?_
      refine lv_iconst (v := (3 : Int32)) hx hb dX8_moves_182 (by decide) ?_
      refine lv_icmp_ne (tgt := 212) hx hb dX8_moves_183 (by decide) (fun hc => ?_) (fun hc => ?_)
      · have hf := it_f hc hf
        exact k212 s91 hs91 s121 hs121 c0_12 c0_13 x2 x3 x4 x5 x6 x7 x8 x9 H locs ls hP hD hS (lv_sub hl [0, 1, 2, 3, 4, 5, 6, 7, 8] rfl) hf
      · have hf := it_t hc hf
        refine lv_aload_n hx hb dX8_moves_186 rfl (lv_at hl 0 rfl) ?_
        refine lv_iload hx hb dX8_moves_187 (lv_at hl 8 rfl) ?_
        refine lv_iload_n hx hb dX8_moves_189 rfl (lv_at hl 2 rfl) ?_
        obtain ⟨r21, hq20, hf⟩ := ob1_d hf
        refine zroV (q := (RX8, TX8, 37)) (As := [.int x9, .int x3]) (rest := []) (r := r21) ⟨hx, hb, hml, hown, hts⟩ (kX8_beside l dC dI cy h0 (ups (ups w0 12 c0_12) 13 c0_13) x9 x3 r21 hq20) mw_743 mw_744 mw_910 mw_9 mw_745 hdX8_beside rfl rfl ⟨Nat.le_of_ble_eq_true rfl, Nat.le_of_ble_eq_true rfl⟩ hP hK hG hS 0 rfl rfl [0, 1, 2, 3, 4, 5, 6, 7, 8, 9, 10, 11, 12, 13] rfl rfl hl.1 rfl (Nat.le_of_ble_eq_true rfl) dX8_moves_190 ⟨Nat.zero_le _, Nat.zero_le _⟩ ?_
        refine lv_istore (lv' := [(9, .int r21), (0, .ref (h0 0)), (2, .int x2), (3, .int x3), (4, .int x4), (5, .int x5), (6, .int x6), (7, .int x7), (8, .int x8)]) hx hb dX8_moves_193 hl (by decide) rfl (fun ls hl => ?_)
        refine lv_iload hx hb dX8_moves_195 (lv_at hl 0 rfl) ?_
        refine lv_if_lt (tgt := 212) hx hb dX8_moves_197 (by decide) (fun hc => ?_) (fun hc => ?_)
        · have hf := it_t hc hf
          exact k212 s91 hs91 s121 hs121 c0_12 c0_13 x2 x3 x4 x5 x6 x7 x8 r21 H locs ls hP hD hS (lv_sub hl [1, 2, 3, 4, 5, 6, 7, 8, 0] rfl) hf
        · have hf := it_f hc hf
          refine lv_aload_n hx hb dX8_moves_200 rfl (lv_at hl 1 rfl) ?_
          refine lv_iload hx hb dX8_moves_201 (lv_at hl 0 rfl) ?_
          obtain ⟨r23, hq22, hf⟩ := ob1_d hf
          refine zroV (q := (RX8, TX8, 37)) (As := [.int r21]) (rest := []) (r := r23) ⟨hx, hb, hml, hown, hts⟩ (kX8_bears l dC dI cy h0 (ups (ups w0 12 c0_12) 13 c0_13) r21 r23 hq22) mw_707 mw_708 mw_901 mw_9 mw_709 hdX8_bears rfl rfl ⟨Nat.le_of_ble_eq_true rfl, Nat.le_of_ble_eq_true rfl⟩ hP hK hG hS 0 rfl rfl [0, 1, 2, 3, 4, 5, 6, 7, 8, 9, 10, 11, 12, 13] rfl rfl hl.1 rfl (Nat.le_of_ble_eq_true rfl) dX8_moves_203 ⟨Nat.zero_le _, Nat.zero_le _⟩ ?_
          refine lv_if_ne (tgt := 212) hx hb dX8_moves_206 (by decide) (fun hc => ?_) (fun hc => ?_)
          · have hf := it_f hc hf
            exact k212 s91 hs91 s121 hs121 c0_12 c0_13 x2 x3 x4 x5 x6 x7 x8 r21 H locs ls hP hD hS (lv_sub hl [1, 2, 3, 4, 5, 6, 7, 8, 0] rfl) hf
          · have hf := it_t hc hf
            refine lv_goto (tgt := 279) hx hb dX8_moves_209 (by decide) ?_
            exact k279 s91 hs91 s121 hs121 c0_12 c0_13 x2 x3 x4 x5 x6 x7 x8 H locs ls hP hD hS (lv_sub hl [1, 2, 3, 4, 5, 6, 7, 8] rfl) hf
  have k121 : ∀ (s91 : (Nat → Int32) → (Nat → Int32) → Int32 → Int32 → Int32 → Int32 → Option (Int32 × (Nat → Int32) × (Nat → Int32))) (hs91 : ∀ (c0_12 : (Nat → Int32)) (c0_13 : (Nat → Int32)) (x2 : Int32) (x3 : Int32) (x4 : Int32) (x5 : Int32) (H : Heap) (locs : List Loc) (ls : Array Slot), va_P (dC, dI) vwCl (zW_8 cy h0 (ups (ups w0 12 c0_12) 13 c0_13)) H → va_D A (zW_8 cy h0 (ups (ups w0 12 c0_12) 13 c0_13)) → va_S A s.heap H locs → lv_has ls 11 [(0, .ref (h0 0)), (2, .int x2), (3, .int x3), (4, .int x4), (5, .int x5)] → s91 c0_12 c0_13 x2 x3 x4 x5 = some z → W p l e ({ frames := 2, cells := 0, slots := 0, locals := 42 } : Room) s m args below meth c H locs 0 0 (MQ below (va_Qi (fun (q : Int32) (v : (Nat → Int32) × (Nat → Int32)) => (q, v) = z) (fun v => aWR (dC, dI) vwCl [(cy, .int)] A (zW_8 cy h0 (ups (ups w0 12 v.1) 13 v.2))) A) args s 0 0 A) (F0 m 91 ls [])), ∀ n : Nat, ∀ (c0_12 : (Nat → Int32)) (c0_13 : (Nat → Int32)) (x2 : Int32) (x3 : Int32) (x4 : Int32) (x5 : Int32) (x6 : Int32) (x7 : Int32) (x8 : Int32) (H : Heap) (locs : List Loc) (ls : Array Slot), va_P (dC, dI) vwCl (zW_8 cy h0 (ups (ups w0 12 c0_12) 13 c0_13)) H → va_D A (zW_8 cy h0 (ups (ups w0 12 c0_12) 13 c0_13)) → va_S A s.heap H locs → lv_has ls 11 [(0, .ref (h0 0)), (2, .int x2), (3, .int x3), (4, .int x4), (5, .int x5), (6, .int x6), (7, .int x7), (8, .int x8)] → (zl9 (fX8_moves_121 w0 s91) n) c0_12 c0_13 x2 x3 x4 x5 x6 x7 x8 = some z → W p l e ({ frames := 2, cells := 0, slots := 0, locals := 42 } : Room) s m args below meth c H locs 0 0 (MQ below (va_Qi (fun (q : Int32) (v : (Nat → Int32) × (Nat → Int32)) => (q, v) = z) (fun v => aWR (dC, dI) vwCl [(cy, .int)] A (zW_8 cy h0 (ups (ups w0 12 v.1) 13 v.2))) A) args s 0 0 A) (F0 m 121 ls []) := by
    intro s91 hs91
    intro n
    induction n with
    | zero =>
      intro c0_12 c0_13 x2 x3 x4 x5 x6 x7 x8 H locs ls hP hD hS hl hf
      exact z_no hf
    | succ n hs121 =>
      intro c0_12 c0_13 x2 x3 x4 x5 x6 x7 x8 H locs ls hP hD hS hl hf
      have hf : fX8_moves_121 w0 s91 (zl9 (fX8_moves_121 w0 s91) n) c0_12 c0_13 x2 x3 x4 x5 x6 x7 x8 = some z := hf
      generalize zl9 (fX8_moves_121 w0 s91) n = s121 at hs121 hf
      unfold fX8_moves_121 at hf
      refine lv_iload hx hb dX8_moves_121 (lv_at hl 7 rfl) ?_
      refine lv_bipush (v := (8 : Int32)) hx hb dX8_moves_123 (by decide) ?_
      refine lv_icmp_ge (tgt := 285) hx hb dX8_moves_125 (by decide) (fun hc => ?_) (fun hc => ?_)
      · have hf := it_t hc hf
        refine lv_goto (tgt := 91) hx hb dX8_moves_285 (by decide) ?_
        exact hs91 c0_12 c0_13 x2 x3 x4 x5 H locs ls hP hD hS (lv_sub hl [0, 1, 2, 3, 4] rfl) hf
      · have hf := it_f hc hf
        refine lv_iload hx hb dX8_moves_128 (lv_at hl 7 rfl) ?_
        refine lv_iload_n hx hb dX8_moves_130 rfl (lv_at hl 1 rfl) ?_
        obtain ⟨r10, hq9, hf⟩ := ob1_d hf
        refine zroS (As := [.int x8, .int x2]) (rest := []) (r := r10) ⟨hx, hb, hml, hown, hts⟩ (kX8_apart l dC dI cy x8 x2 r10 hq9) mw_749 mw_750 mw_9 mw_751 hdX8_apart rfl rfl ⟨Nat.le_of_ble_eq_true rfl, Nat.le_of_ble_eq_true rfl⟩ hP hK hG hS [] rfl rfl hl.1 rfl (Nat.le_of_ble_eq_true rfl) dX8_moves_131 ⟨Nat.zero_le _, Nat.zero_le _⟩ ?_
        refine lv_aload_n hx hb dX8_moves_134 rfl (lv_at hl 0 rfl) ?_
        refine zget hx hb hts hown hK hP hin_8 0 rfl rfl 5 (by decide) mw_595 (v := .ref (h0 3)) rfl dX8_moves_135 ?_
        refine lv_iconst (v := (4 : Int32)) hx hb dX8_moves_138 (by decide) ?_
        refine va_iald hx hb hK hP 3 0 rfl rfl (vin_lit (by decide)) dX8_moves_139 ?_
        refine lv_icmp_ge (tgt := 146) hx hb dX8_moves_140 (by decide) (fun hc => ?_) (fun hc => ?_)
        · have hf := it_t hc hf
          refine lv_aload_n hx hb dX8_moves_146 rfl (lv_at hl 0 rfl) ?_
          refine lv_iload hx hb dX8_moves_147 (lv_at hl 5 rfl) ?_
          refine lv_iconst (v := (3 : Int32)) hx hb dX8_moves_149 (by decide) ?_
          refine lv_idiv hx hb dX8_moves_150 (by decide) ?_
          refine lv_iload hx hb dX8_moves_151 (lv_at hl 7 rfl) ?_
          obtain ⟨r12, hq11, hf⟩ := ob1_d hf
          refine zroV (q := (RX8, TX8, 37)) (As := [.int (x6 / (3 : Int32)), .int x8]) (rest := []) (r := r12) ⟨hx, hb, hml, hown, hts⟩ (kX8_beside l dC dI cy h0 (ups (ups w0 12 c0_12) 13 c0_13) (x6 / (3 : Int32)) x8 r12 hq11) mw_743 mw_744 mw_910 mw_9 mw_745 hdX8_beside rfl rfl ⟨Nat.le_of_ble_eq_true rfl, Nat.le_of_ble_eq_true rfl⟩ hP hK hG hS 0 rfl rfl [0, 1, 2, 3, 4, 5, 6, 7, 8, 9, 10, 11, 12, 13] rfl rfl hl.1 rfl (Nat.le_of_ble_eq_true rfl) dX8_moves_153 ⟨Nat.zero_le _, Nat.zero_le _⟩ ?_
          refine lv_istore (lv' := [(9, .int r12), (0, .ref (h0 0)), (2, .int x2), (3, .int x3), (4, .int x4), (5, .int x5), (6, .int x6), (7, .int x7), (8, .int x8)]) hx hb dX8_moves_156 hl (by decide) rfl (fun ls hl => ?_)
          refine lv_iload hx hb dX8_moves_158 (lv_at hl 0 rfl) ?_
          refine lv_if_lt (tgt := 175) hx hb dX8_moves_160 (by decide) (fun hc => ?_) (fun hc => ?_)
          · have hf := it_t hc hf
            exact k175 s91 hs91 s121 hs121 c0_12 c0_13 x2 x3 x4 x5 x6 x7 x8 r12 H locs ls hP hD hS (lv_sub hl [1, 2, 3, 4, 5, 6, 7, 8, 0] rfl) hf
          · have hf := it_f hc hf
            refine lv_aload_n hx hb dX8_moves_163 rfl (lv_at hl 1 rfl) ?_
            refine lv_iload hx hb dX8_moves_164 (lv_at hl 0 rfl) ?_
            obtain ⟨r25, hq24, hf⟩ := ob1_d hf
            refine zroV (q := (RX8, TX8, 37)) (As := [.int r12]) (rest := []) (r := r25) ⟨hx, hb, hml, hown, hts⟩ (kX8_bears l dC dI cy h0 (ups (ups w0 12 c0_12) 13 c0_13) r12 r25 hq24) mw_707 mw_708 mw_901 mw_9 mw_709 hdX8_bears rfl rfl ⟨Nat.le_of_ble_eq_true rfl, Nat.le_of_ble_eq_true rfl⟩ hP hK hG hS 0 rfl rfl [0, 1, 2, 3, 4, 5, 6, 7, 8, 9, 10, 11, 12, 13] rfl rfl hl.1 rfl (Nat.le_of_ble_eq_true rfl) dX8_moves_166 ⟨Nat.zero_le _, Nat.zero_le _⟩ ?_
            refine lv_if_ne (tgt := 175) hx hb dX8_moves_169 (by decide) (fun hc => ?_) (fun hc => ?_)
            · have hf := it_f hc hf
              exact k175 s91 hs91 s121 hs121 c0_12 c0_13 x2 x3 x4 x5 x6 x7 x8 r12 H locs ls hP hD hS (lv_sub hl [1, 2, 3, 4, 5, 6, 7, 8, 0] rfl) hf
            · have hf := it_t hc hf
              refine lv_goto (tgt := 279) hx hb dX8_moves_172 (by decide) ?_
              exact k279 s91 hs91 s121 hs121 c0_12 c0_13 x2 x3 x4 x5 x6 x7 x8 H locs ls hP hD hS (lv_sub hl [1, 2, 3, 4, 5, 6, 7, 8] rfl) hf
        · have hf := it_f hc hf
          refine lv_goto (tgt := 279) hx hb dX8_moves_143 (by decide) ?_
          exact k279 s91 hs91 s121 hs121 c0_12 c0_13 x2 x3 x4 x5 x6 x7 x8 H locs ls hP hD hS (lv_sub hl [0, 1, 2, 3, 4, 5, 6, 7] rfl) hf
  have k91 : ∀ n : Nat, ∀ (c0_12 : (Nat → Int32)) (c0_13 : (Nat → Int32)) (x2 : Int32) (x3 : Int32) (x4 : Int32) (x5 : Int32) (H : Heap) (locs : List Loc) (ls : Array Slot), va_P (dC, dI) vwCl (zW_8 cy h0 (ups (ups w0 12 c0_12) 13 c0_13)) H → va_D A (zW_8 cy h0 (ups (ups w0 12 c0_12) 13 c0_13)) → va_S A s.heap H locs → lv_has ls 11 [(0, .ref (h0 0)), (2, .int x2), (3, .int x3), (4, .int x4), (5, .int x5)] → (zl6 (fX8_moves_91 w0) n) c0_12 c0_13 x2 x3 x4 x5 = some z → W p l e ({ frames := 2, cells := 0, slots := 0, locals := 42 } : Room) s m args below meth c H locs 0 0 (MQ below (va_Qi (fun (q : Int32) (v : (Nat → Int32) × (Nat → Int32)) => (q, v) = z) (fun v => aWR (dC, dI) vwCl [(cy, .int)] A (zW_8 cy h0 (ups (ups w0 12 v.1) 13 v.2))) A) args s 0 0 A) (F0 m 91 ls []) := by
    intro n
    induction n with
    | zero =>
      intro c0_12 c0_13 x2 x3 x4 x5 H locs ls hP hD hS hl hf
      exact z_no hf
    | succ n hs91 =>
      intro c0_12 c0_13 x2 x3 x4 x5 H locs ls hP hD hS hl hf
      have hf : fX8_moves_91 w0 (zl6 (fX8_moves_91 w0) n) c0_12 c0_13 x2 x3 x4 x5 = some z := hf
      generalize zl6 (fX8_moves_91 w0) n = s91 at hs91 hf
      unfold fX8_moves_91 at hf
      refine lv_iload hx hb dX8_moves_91 (lv_at hl 3 rfl) ?_
      refine lv_iload hx hb dX8_moves_93 (lv_at hl 4 rfl) ?_
      refine lv_icmp_ge (tgt := 288) hx hb dX8_moves_95 (by decide) (fun hc => ?_) (fun hc => ?_)
      · have hf := it_t hc hf
        refine lv_bipush (v := (-9 : Int32)) hx hb dX8_moves_288 (by decide) ?_
        exact zretI hx hb hr hlocks hP hK hD hS hf rfl dX8_moves_290
      · have hf := it_f hc hf
        refine lv_aload_n hx hb dX8_moves_98 rfl (lv_at hl 0 rfl) ?_
        refine zget hx hb hts hown hK hP hin_8 0 rfl rfl 35 (by decide) mw_625 (v := .ref (h0 13)) rfl dX8_moves_99 ?_
        refine lv_iload hx hb dX8_moves_102 (lv_at hl 3 rfl) ?_
        refine lv_zinc (lv' := [(4, .int (x4 + (1 : Int32))), (0, .ref (h0 0)), (2, .int x2), (3, .int x3), (5, .int x5)]) hx hb dX8_moves_104 hl (k := 3) rfl (v := (1 : Int32)) (by decide) (by decide) rfl (fun ls hl => ?_)
        obtain ⟨hin8, hf⟩ := gd_d hf
        refine va_iald hx hb hK hP 13 0 rfl rfl hin8 dX8_moves_107 ?_
        refine lv_istore (lv' := [(6, .int (c0_13 (x4).toNatClampNeg)), (4, .int (x4 + (1 : Int32))), (0, .ref (h0 0)), (2, .int x2), (3, .int x3), (5, .int x5)]) hx hb dX8_moves_108 hl (by decide) rfl (fun ls hl => ?_)
        refine lv_iload hx hb dX8_moves_110 (lv_at hl 0 rfl) ?_
        refine lv_iconst (v := (3 : Int32)) hx hb dX8_moves_112 (by decide) ?_
        refine lv_zrem hx hb dX8_moves_113 (by decide) ?_
        refine lv_iconst (v := (1 : Int32)) hx hb dX8_moves_114 (by decide) ?_
        refine lv_iadd hx hb dX8_moves_115 ?_
        refine lv_istore (lv' := [(7, .int ((zrem (c0_13 (x4).toNatClampNeg) (3 : Int32)) + (1 : Int32))), (6, .int (c0_13 (x4).toNatClampNeg)), (4, .int (x4 + (1 : Int32))), (0, .ref (h0 0)), (2, .int x2), (3, .int x3), (5, .int x5)]) hx hb dX8_moves_116 hl (by decide) rfl (fun ls hl => ?_)
        refine lv_iconst (v := (0 : Int32)) hx hb dX8_moves_118 (by decide) ?_
        refine lv_istore (lv' := [(8, .int (0 : Int32)), (7, .int ((zrem (c0_13 (x4).toNatClampNeg) (3 : Int32)) + (1 : Int32))), (6, .int (c0_13 (x4).toNatClampNeg)), (4, .int (x4 + (1 : Int32))), (0, .ref (h0 0)), (2, .int x2), (3, .int x3), (5, .int x5)]) hx hb dX8_moves_119 hl (by decide) rfl (fun ls hl => ?_)
        exact k121 s91 hs91 zFU c0_12 c0_13 x2 x3 (x4 + (1 : Int32)) x5 (c0_13 (x4).toNatClampNeg) ((zrem (c0_13 (x4).toNatClampNeg) (3 : Int32)) + (1 : Int32)) (0 : Int32) H locs ls hP hD hS (lv_sub hl [4, 5, 6, 3, 7, 2, 1, 0] rfl) hf
  have k41 : ∀ n : Nat, ∀ (c0_12 : (Nat → Int32)) (c0_13 : (Nat → Int32)) (x1 : Int32) (x2 : Int32) (x3 : Int32) (x4 : Int32) (H : Heap) (locs : List Loc) (ls : Array Slot), va_P (dC, dI) vwCl (zW_8 cy h0 (ups (ups w0 12 c0_12) 13 c0_13)) H → va_D A (zW_8 cy h0 (ups (ups w0 12 c0_12) 13 c0_13)) → va_S A s.heap H locs → lv_has ls 11 [(0, .ref (h0 0)), (1, .int x1), (2, .int x2), (3, .int x3), (4, .int x4)] → (zl6 (fX8_moves_41 w0) n) c0_12 c0_13 x1 x2 x3 x4 = some z → W p l e ({ frames := 2, cells := 0, slots := 0, locals := 42 } : Room) s m args below meth c H locs 0 0 (MQ below (va_Qi (fun (q : Int32) (v : (Nat → Int32) × (Nat → Int32)) => (q, v) = z) (fun v => aWR (dC, dI) vwCl [(cy, .int)] A (zW_8 cy h0 (ups (ups w0 12 v.1) 13 v.2))) A) args s 0 0 A) (F0 m 41 ls []) := by
    intro n
    induction n with
    | zero =>
      intro c0_12 c0_13 x1 x2 x3 x4 H locs ls hP hD hS hl hf
      exact z_no hf
    | succ n hs41 =>
      intro c0_12 c0_13 x1 x2 x3 x4 H locs ls hP hD hS hl hf
      have hf : fX8_moves_41 w0 (zl6 (fX8_moves_41 w0) n) c0_12 c0_13 x1 x2 x3 x4 = some z := hf
      generalize zl6 (fX8_moves_41 w0) n = s41 at hs41 hf
      unfold fX8_moves_41 at hf
      refine lv_iload hx hb dX8_moves_41 (lv_at hl 4 rfl) ?_
      refine lv_sipush (v := (192 : Int32)) hx hb dX8_moves_43 (by decide) ?_
      refine lv_icmp_ge (tgt := 63) hx hb dX8_moves_46 (by decide) (fun hc => ?_) (fun hc => ?_)
      · have hf := it_t hc hf
        refine lv_iconst (v := (0 : Int32)) hx hb dX8_moves_63 (by decide) ?_
        refine lv_istore (lv' := [(4, .int (0 : Int32)), (0, .ref (h0 0)), (1, .int x1), (2, .int x2), (3, .int x3)]) hx hb dX8_moves_64 hl (by decide) rfl (fun ls hl => ?_)
        refine lv_iconst (v := (0 : Int32)) hx hb dX8_moves_66 (by decide) ?_
        refine lv_istore (lv' := [(5, .int (0 : Int32)), (4, .int (0 : Int32)), (0, .ref (h0 0)), (1, .int x1), (2, .int x2), (3, .int x3)]) hx hb dX8_moves_67 hl (by decide) rfl (fun ls hl => ?_)
        refine lv_aload_n hx hb dX8_moves_69 rfl (lv_at hl 2 rfl) ?_
        refine zget hx hb hts hown hK hP hin_8 0 rfl rfl 35 (by decide) mw_625 (v := .ref (h0 13)) rfl dX8_moves_70 ?_
        refine lv_iload hx hb dX8_moves_73 (lv_at hl 0 rfl) ?_
        refine lv_zinc (lv' := [(5, .int ((0 : Int32) + (1 : Int32))), (4, .int (0 : Int32)), (0, .ref (h0 0)), (1, .int x1), (2, .int x2), (3, .int x3)]) hx hb dX8_moves_75 hl (k := 0) rfl (v := (1 : Int32)) (by decide) (by decide) rfl (fun ls hl => ?_)
        refine lv_iconst (v := (3 : Int32)) hx hb dX8_moves_78 (by decide) ?_
        refine lv_iload_n hx hb dX8_moves_79 rfl (lv_at hl 3 rfl) ?_
        refine lv_imul hx hb dX8_moves_80 ?_
        obtain ⟨g5, hg5, hf⟩ := nm_d hf
        refine zast hx hb hK hP hD hS 13 (wn := (zW_8 cy h0 (ups (ups w0 12 c0_12) 13 g5))) hg5 rfl rfl (vin_lit (by decide)) rfl dX8_moves_81 (fun H locs hP hD hS => ?_)
        refine lv_aload_n hx hb dX8_moves_82 rfl (lv_at hl 2 rfl) ?_
        refine zget hx hb hts hown hK hP hin_8 0 rfl rfl 34 (by decide) mw_624 (v := .ref (h0 12)) rfl dX8_moves_83 ?_
        refine lv_iconst (v := (3 : Int32)) hx hb dX8_moves_86 (by decide) ?_
        refine lv_iload_n hx hb dX8_moves_87 rfl (lv_at hl 3 rfl) ?_
        refine lv_imul hx hb dX8_moves_88 ?_
        refine lv_iconst (v := (0 : Int32)) hx hb dX8_moves_89 (by decide) ?_
        obtain ⟨hin6, hf⟩ := gd_d hf
        obtain ⟨g7, hg7, hf⟩ := nm_d hf
        refine zast hx hb hK hP hD hS 12 (wn := (zW_8 cy h0 (ups (ups w0 12 g7) 13 g5))) hg7 rfl rfl hin6 rfl dX8_moves_90 (fun H locs hP hD hS => ?_)
        exact k91 zFU g7 g5 x2 x3 (0 : Int32) ((0 : Int32) + (1 : Int32)) H locs ls hP hD hS (lv_sub hl [2, 4, 5, 1, 0] rfl) hf
      · have hf := it_f hc hf
        refine lv_aload_n hx hb dX8_moves_49 rfl (lv_at hl 0 rfl) ?_
        refine zget hx hb hts hown hK hP hin_8 0 rfl rfl 34 (by decide) mw_624 (v := .ref (h0 12)) rfl dX8_moves_50 ?_
        refine lv_iload hx hb dX8_moves_53 (lv_at hl 4 rfl) ?_
        refine lv_iconst (v := (-1 : Int32)) hx hb dX8_moves_55 (by decide) ?_
        obtain ⟨hin26, hf⟩ := gd_d hf
        obtain ⟨g27, hg27, hf⟩ := nm_d hf
        refine zast hx hb hK hP hD hS 12 (wn := (zW_8 cy h0 (ups (ups w0 12 g27) 13 c0_13))) hg27 rfl rfl hin26 rfl dX8_moves_56 (fun H locs hP hD hS => ?_)
        refine lv_zinc (lv' := [(4, .int (x4 + (1 : Int32))), (0, .ref (h0 0)), (1, .int x1), (2, .int x2), (3, .int x3)]) hx hb dX8_moves_57 hl (k := 4) rfl (v := (1 : Int32)) (by decide) (by decide) rfl (fun ls hl => ?_)
        refine lv_goto (tgt := 41) hx hb dX8_moves_60 (by decide) ?_
        exact hs41 g27 c0_13 x1 x2 x3 (x4 + (1 : Int32)) H locs ls hP hD hS (lv_sub hl [1, 2, 3, 4, 0] rfl) hf
  have k27 : ∀ (c0_12 : (Nat → Int32)) (c0_13 : (Nat → Int32)) (x1 : Int32) (t1 : Int32) (H : Heap) (locs : List Loc) (ls : Array Slot), va_P (dC, dI) vwCl (zW_8 cy h0 (ups (ups w0 12 c0_12) 13 c0_13)) H → va_D A (zW_8 cy h0 (ups (ups w0 12 c0_12) 13 c0_13)) → va_S A s.heap H locs → lv_has ls 11 [(0, .ref (h0 0)), (1, .int x1)] → (fX8_moves_27 w0) c0_12 c0_13 x1 t1 = some z → W p l e ({ frames := 2, cells := 0, slots := 0, locals := 42 } : Room) s m args below meth c H locs 0 0 (MQ below (va_Qi (fun (q : Int32) (v : (Nat → Int32) × (Nat → Int32)) => (q, v) = z) (fun v => aWR (dC, dI) vwCl [(cy, .int)] A (zW_8 cy h0 (ups (ups w0 12 v.1) 13 v.2))) A) args s 0 0 A) (F0 m 27 ls [.int t1, .ref (h0 0)]) := by
    intro c0_12 c0_13 x1 t1 H locs ls hP hD hS hl hf
    unfold fX8_moves_27 at hf
    obtain ⟨r4, hq3, hf⟩ := ob1_d hf
    refine zroV (q := (RX8, TX8, 37)) (As := [.int t1]) (rest := []) (r := r4) ⟨hx, hb, hml, hown, hts⟩ (kX8_wind_ l dC dI cy h0 (ups (ups w0 12 c0_12) 13 c0_13) t1 r4 hq3) mw_716 mw_717 mw_904 mw_9 mw_718 hdX8_wind_ rfl rfl ⟨Nat.le_of_ble_eq_true rfl, Nat.le_of_ble_eq_true rfl⟩ hP hK hG hS 0 rfl rfl [0, 1, 2, 3, 4, 5, 6, 7, 8, 9, 10, 11, 12, 13] rfl rfl hl.1 rfl (Nat.le_of_ble_eq_true rfl) dX8_moves_27 ⟨Nat.zero_le _, Nat.zero_le _⟩ ?_
    refine lv_istore_n (lv' := [(2, .int r4), (0, .ref (h0 0)), (1, .int x1)]) hx hb dX8_moves_30 rfl hl (by decide) rfl (fun ls hl => ?_)
    refine lv_iload_n hx hb dX8_moves_31 rfl (lv_at hl 0 rfl) ?_
    refine lv_iconst (v := (4 : Int32)) hx hb dX8_moves_32 (by decide) ?_
    refine lv_iadd hx hb dX8_moves_33 ?_
    refine lv_bipush (v := (8 : Int32)) hx hb dX8_moves_34 (by decide) ?_
    refine lv_zrem hx hb dX8_moves_36 (by decide) ?_
    refine lv_istore_n (lv' := [(3, .int (zrem (r4 + (4 : Int32)) (8 : Int32))), (2, .int r4), (0, .ref (h0 0)), (1, .int x1)]) hx hb dX8_moves_37 rfl hl (by decide) rfl (fun ls hl => ?_)
    refine lv_iconst (v := (0 : Int32)) hx hb dX8_moves_38 (by decide) ?_
    refine lv_istore (lv' := [(4, .int (0 : Int32)), (3, .int (zrem (r4 + (4 : Int32)) (8 : Int32))), (2, .int r4), (0, .ref (h0 0)), (1, .int x1)]) hx hb dX8_moves_39 hl (by decide) rfl (fun ls hl => ?_)
    exact k41 zFU c0_12 c0_13 x1 r4 (zrem (r4 + (4 : Int32)) (8 : Int32)) (0 : Int32) H locs ls hP hD hS (lv_sub hl [3, 4, 2, 1, 0] rfl) hf
  obtain ⟨ls, hl, he⟩ := zent (m := m) (n := 11) (L := [(0, .ref (h0 0)), (1, .int x1)]) ha (Nat.le_of_ble_eq_true rfl) rfl
  refine W.eq he ?_
  unfold fX8_moves at hf
  have kE : ∀ (H : Heap) (locs : List Loc), va_P (dC, dI) vwCl (zW_8 cy h0 (ups (ups w0 12 (w0 12)) 13 (w0 13))) H → va_D A (zW_8 cy h0 (ups (ups w0 12 (w0 12)) 13 (w0 13))) → va_S A s.heap H locs → W p l e ({ frames := 2, cells := 0, slots := 0, locals := 42 } : Room) s m args below meth c H locs 0 0 (MQ below (va_Qi (fun (q : Int32) (v : (Nat → Int32) × (Nat → Int32)) => (q, v) = z) (fun v => aWR (dC, dI) vwCl [(cy, .int)] A (zW_8 cy h0 (ups (ups w0 12 v.1) 13 v.2))) A) args s 0 0 A) (F0 m 0 ls []) := by
    intro H locs hP hD hS
    refine lv_aload_n hx hb dX8_moves_0 rfl (lv_at hl 0 rfl) ?_
    refine lv_iload_n hx hb dX8_moves_1 rfl (lv_at hl 1 rfl) ?_
    obtain ⟨r2, hq1, hf⟩ := ob1_d hf
    refine zroV (q := (RX8, TX8, 37)) (As := [.int x1]) (rest := []) (r := r2) ⟨hx, hb, hml, hown, hts⟩ (kX8_bears l dC dI cy h0 (ups (ups w0 12 (w0 12)) 13 (w0 13)) x1 r2 hq1) mw_707 mw_708 mw_901 mw_9 mw_709 hdX8_bears rfl rfl ⟨Nat.le_of_ble_eq_true rfl, Nat.le_of_ble_eq_true rfl⟩ hP hK hG hS 0 rfl rfl [0, 1, 2, 3, 4, 5, 6, 7, 8, 9, 10, 11, 12, 13] rfl rfl hl.1 rfl (Nat.le_of_ble_eq_true rfl) dX8_moves_2 ⟨Nat.zero_le _, Nat.zero_le _⟩ ?_
    refine lv_if_ne (tgt := 11) hx hb dX8_moves_5 (by decide) (fun hc => ?_) (fun hc => ?_)
    · have hf := it_f hc hf
      refine lv_aload_n hx hb dX8_moves_11 rfl (lv_at hl 0 rfl) ?_
      refine lv_aload_n hx hb dX8_moves_12 rfl (lv_at hl 0 rfl) ?_
      refine zget hx hb hts hown hK hP hin_8 0 rfl rfl 12 (by decide) mw_602 (v := .int (w0 0 12)) rfl dX8_moves_13 ?_
      refine lv_if_eq (tgt := 26) hx hb dX8_moves_16 (by decide) (fun hc => ?_) (fun hc => ?_)
      · have hf := it_t hc hf
        refine lv_iconst (v := (0 : Int32)) hx hb dX8_moves_26 (by decide) ?_
        exact k27 (w0 12) (w0 13) x1 (0 : Int32) H locs ls hP hD hS (lv_sub hl [0, 1] rfl) hf
      · have hf := it_f hc hf
        refine lv_aload_n hx hb dX8_moves_19 rfl (lv_at hl 0 rfl) ?_
        refine zget hx hb hts hown hK hP hin_8 0 rfl rfl 21 (by decide) mw_611 (v := .int (w0 0 21)) rfl dX8_moves_20 ?_
        refine lv_goto (tgt := 27) hx hb dX8_moves_23 (by decide) ?_
        exact k27 (w0 12) (w0 13) x1 (w0 0 21) H locs ls hP hD hS (lv_sub hl [0, 1] rfl) hf
    · have hf := it_t hc hf
      refine lv_bipush (v := (-9 : Int32)) hx hb dX8_moves_8 (by decide) ?_
      exact zretI hx hb hr hlocks hP hK hD hS hf rfl dX8_moves_10
  exact kE s.heap [] hP hD hS
set_option maxHeartbeats 4000000 in
set_option maxRecDepth 100000 in
theorem kX8_still (l : Launch) (dC : Nat → ClassId) (dI : Nat → Nat → Nat) (cy : ClassId) (h0 : Nat → Nat) (w0 : Nat → Nat → Int32) (x1 : Int32) (sz : Nat) (z : Int32 × (Nat → Int32) × (Nat → Int32) × (Nat → Int32)) (hf : fX8_still w0 x1 = some z) : Met l yX8_still (wsM yX8_still cX8_still 2 (some .int)) ({ frames := 3, cells := 0, slots := 0, locals := 72 } : Room) (va_Pc [.ref (h0 0), .int x1] (pWR (dC, dI) vwCl [(cy, .int)] (zW_8 cy h0 w0) sz)) (va_Qi (fun (q : Int32) (v : (Nat → Int32) × (Nat → Int32) × (Nat → Int32)) => (q, v) = z) (fun v => aWR (dC, dI) vwCl [(cy, .int)] (va_A (zW_8 cy h0 w0) sz) (zW_8 cy h0 (ups (ups (ups w0 9 v.1) 12 v.2.1) 13 v.2.2))) (va_A (zW_8 cy h0 w0) sz)) 0 0 (va_A (zW_8 cy h0 w0) sz) := by
  refine Met.ofW (cc := cX8_still) (maxL := 2) (ret := (some .int)) (by decide) rfl ?_
  intro p e s m args below meth c s₁ B hml hv
  obtain ⟨ha, hsz, hP, hK, hD0, hG⟩ := hv
  have hx := B.exec
  have hb := B.bytes
  have hr := B.returns
  have hts : ∀ w ∈ wsA, w.before args s = true := fun w h => atoms_spec (ws := wsM yX8_still cX8_still 2 (some .int)) B.pre w (List.mem_cons_of_mem _ h)
  have hown : s.vm.findClass RX8 = some m.cls := findClass_of_methodNamed B.named
  have hlocks := B.notSynchronized
  subst hsz
  have hD := hD0.self (sz := s.heap.size)
  generalize hAe : va_A (zW_8 cy h0 w0) s.heap.size = A at hD hG ⊢
  have hA : ∀ q : Nat, s.heap.size ≤ q → A q := fun q h => by rw [← hAe]; exact Or.inr h
  have hS : va_S A s.heap s.heap [] := va_S.rf
  have hP : va_P (dC, dI) vwCl (zW_8 cy h0 (ups (ups (ups w0 9 (w0 9)) 12 (w0 12)) 13 (w0 13))) s.heap := hP
  have hD : va_D A (zW_8 cy h0 (ups (ups (ups w0 9 (w0 9)) 12 (w0 12)) 13 (w0 13))) := hD
  obtain ⟨ls, hl, he⟩ := zent (m := m) (n := 2) (L := [(0, .ref (h0 0)), (1, .int x1)]) ha (Nat.le_of_ble_eq_true rfl) rfl
  refine W.eq he ?_
  unfold fX8_still at hf
  have kE : ∀ (H : Heap) (locs : List Loc), va_P (dC, dI) vwCl (zW_8 cy h0 (ups (ups (ups w0 9 (w0 9)) 12 (w0 12)) 13 (w0 13))) H → va_D A (zW_8 cy h0 (ups (ups (ups w0 9 (w0 9)) 12 (w0 12)) 13 (w0 13))) → va_S A s.heap H locs → W p l e ({ frames := 3, cells := 0, slots := 0, locals := 72 } : Room) s m args below meth c H locs 0 0 (MQ below (va_Qi (fun (q : Int32) (v : (Nat → Int32) × (Nat → Int32) × (Nat → Int32)) => (q, v) = z) (fun v => aWR (dC, dI) vwCl [(cy, .int)] A (zW_8 cy h0 (ups (ups (ups w0 9 v.1) 12 v.2.1) 13 v.2.2))) A) args s 0 0 A) (F0 m 0 ls []) := by
    intro H locs hP hD hS
    refine lv_aload_n hx hb dX8_still_0 rfl (lv_at hl 0 rfl) ?_
    refine lv_iload_n hx hb dX8_still_1 rfl (lv_at hl 1 rfl) ?_
    obtain ⟨r2, hq1, hf⟩ := ob1_d hf
    refine zroV (q := (RX8, TX8, 37)) (As := [.int x1]) (rest := []) (r := r2) ⟨hx, hb, hml, hown, hts⟩ (kX8_isCell l dC dI cy h0 (ups (ups (ups w0 9 (w0 9)) 12 (w0 12)) 13 (w0 13)) x1 r2 hq1) mw_685 mw_686 mw_900 mw_9 mw_687 hdX8_isCell rfl rfl ⟨Nat.le_of_ble_eq_true rfl, Nat.le_of_ble_eq_true rfl⟩ hP hK hG hS 0 rfl rfl [0, 1, 2, 3, 4, 5, 6, 7, 8, 9, 10, 11, 12, 13] rfl rfl hl.1 rfl (Nat.le_of_ble_eq_true rfl) dX8_still_2 ⟨Nat.zero_le _, Nat.zero_le _⟩ ?_
    refine lv_if_eq (tgt := 16) hx hb dX8_still_5 (by decide) (fun hc => ?_) (fun hc => ?_)
    · have hf := it_t hc hf
      refine lv_aload_n hx hb dX8_still_16 rfl (lv_at hl 0 rfl) ?_
      refine lv_iconst (v := (-1 : Int32)) hx hb dX8_still_17 (by decide) ?_
      obtain ⟨r4, u5, hq3, hf⟩ := ob2_d hf
      refine zwiV (q := (RX8, TX8, 37)) (As := [.int (-1 : Int32)]) (rest := []) (r := r4) (u := u5) (wn := (zW_8 cy h0 (ups (ups (ups w0 9 u5) 12 (w0 12)) 13 (w0 13)))) ⟨hx, hb, hml, hown, hts⟩ (kX8_no l dC dI cy h0 (ups (ups (ups w0 9 (w0 9)) 12 (w0 12)) 13 (w0 13)) (-1 : Int32) H.size (r4, u5) hq3) mw_668 mw_669 mw_898 mw_9 mw_670 hdX8_no rfl rfl ⟨Nat.le_of_ble_eq_true rfl, Nat.le_of_ble_eq_true rfl⟩ hP hK hG hS 0 rfl rfl hD hA [0, 1, 2, 3, 4, 5, 6, 7, 8, 9, 10, 11, 12, 13] [] [0, 1, 2, 3, 4, 5, 6, 7, 8, 9, 10, 11, 12, 13] rfl rfl rfl rfl (by decide) rfl rfl rfl hl.1 rfl (Nat.le_of_ble_eq_true rfl) dX8_still_18 ⟨Nat.zero_le _, Nat.zero_le _⟩ (fun H locs hP hD hS => ?_)
      exact zretI hx hb hr hlocks hP hK hD hS hf rfl dX8_still_21
    · have hf := it_f hc hf
      refine lv_aload_n hx hb dX8_still_8 rfl (lv_at hl 0 rfl) ?_
      refine lv_iload_n hx hb dX8_still_9 rfl (lv_at hl 1 rfl) ?_
      obtain ⟨r7, u8, u9, hq6, hf⟩ := ob3_d hf
      refine zwiV (q := (RX8, TX8, 37)) (As := [.int x1]) (rest := []) (r := r7) (u := (u8, u9)) (wn := (zW_8 cy h0 (ups (ups (ups w0 9 (w0 9)) 12 u8) 13 u9))) ⟨hx, hb, hml, hown, hts⟩ (kX8_moves l dC dI cy h0 (ups (ups (ups w0 9 (w0 9)) 12 (w0 12)) 13 (w0 13)) x1 H.size (r7, u8, u9) hq6) mw_801 mw_802 mw_916 mw_9 mw_803 hdX8_moves rfl rfl ⟨Nat.le_of_ble_eq_true rfl, Nat.le_of_ble_eq_true rfl⟩ hP hK hG hS 0 rfl rfl hD hA [0, 1, 2, 3, 4, 5, 6, 7, 8, 9, 10, 11, 12, 13] [] [0, 1, 2, 3, 4, 5, 6, 7, 8, 9, 10, 11, 12, 13] rfl rfl rfl rfl (by decide) rfl rfl rfl hl.1 rfl (Nat.le_of_ble_eq_true rfl) dX8_still_10 ⟨Nat.zero_le _, Nat.zero_le _⟩ (fun H locs hP hD hS => ?_)
      refine lv_goto (tgt := 21) hx hb dX8_still_13 (by decide) ?_
      exact zretI hx hb hr hlocks hP hK hD hS hf rfl dX8_still_21
  exact kE s.heap [] hP hD hS
set_option maxHeartbeats 4000000 in
set_option maxRecDepth 100000 in
theorem kX8_clears (l : Launch) (dC : Nat → ClassId) (dI : Nat → Nat → Nat) (cy : ClassId) (h0 : Nat → Nat) (w0 : Nat → Nat → Int32) (sz : Nat) (z : Int32 × (Nat → Int32) × (Nat → Int32)) (hf : fX8_clears w0 = some z) : Met l yX8_clears (wsM yX8_clears cX8_clears 3 (some .int)) ({ frames := 3, cells := 0, slots := 0, locals := 72 } : Room) (va_Pc [.ref (h0 0)] (pWR (dC, dI) vwCl [(cy, .int)] (zW_8 cy h0 w0) sz)) (va_Qi (fun (q : Int32) (v : (Nat → Int32) × (Nat → Int32)) => (q, v) = z) (fun v => aWR (dC, dI) vwCl [(cy, .int)] (va_A (zW_8 cy h0 w0) sz) (zW_8 cy h0 (ups (ups w0 12 v.1) 13 v.2))) (va_A (zW_8 cy h0 w0) sz)) 0 0 (va_A (zW_8 cy h0 w0) sz) := by
  refine Met.ofW (cc := cX8_clears) (maxL := 3) (ret := (some .int)) (by decide) rfl ?_
  intro p e s m args below meth c s₁ B hml hv
  obtain ⟨ha, hsz, hP, hK, hD0, hG⟩ := hv
  have hx := B.exec
  have hb := B.bytes
  have hr := B.returns
  have hts : ∀ w ∈ wsA, w.before args s = true := fun w h => atoms_spec (ws := wsM yX8_clears cX8_clears 3 (some .int)) B.pre w (List.mem_cons_of_mem _ h)
  have hown : s.vm.findClass RX8 = some m.cls := findClass_of_methodNamed B.named
  have hlocks := B.notSynchronized
  subst hsz
  have hD := hD0.self (sz := s.heap.size)
  generalize hAe : va_A (zW_8 cy h0 w0) s.heap.size = A at hD hG ⊢
  have hA : ∀ q : Nat, s.heap.size ≤ q → A q := fun q h => by rw [← hAe]; exact Or.inr h
  have hS : va_S A s.heap s.heap [] := va_S.rf
  have hP : va_P (dC, dI) vwCl (zW_8 cy h0 (ups (ups w0 12 (w0 12)) 13 (w0 13))) s.heap := hP
  have hD : va_D A (zW_8 cy h0 (ups (ups w0 12 (w0 12)) 13 (w0 13))) := hD
  have k28 : ∀ (s4 : (Nat → Int32) → (Nat → Int32) → Int32 → Int32 → Option (Int32 × (Nat → Int32) × (Nat → Int32))) (hs4 : ∀ (c0_12 : (Nat → Int32)) (c0_13 : (Nat → Int32)) (x1 : Int32) (x2 : Int32) (H : Heap) (locs : List Loc) (ls : Array Slot), va_P (dC, dI) vwCl (zW_8 cy h0 (ups (ups w0 12 c0_12) 13 c0_13)) H → va_D A (zW_8 cy h0 (ups (ups w0 12 c0_12) 13 c0_13)) → va_S A s.heap H locs → lv_has ls 3 [(0, .ref (h0 0)), (1, .int x1), (2, .int x2)] → s4 c0_12 c0_13 x1 x2 = some z → W p l e ({ frames := 3, cells := 0, slots := 0, locals := 72 } : Room) s m args below meth c H locs 0 0 (MQ below (va_Qi (fun (q : Int32) (v : (Nat → Int32) × (Nat → Int32)) => (q, v) = z) (fun v => aWR (dC, dI) vwCl [(cy, .int)] A (zW_8 cy h0 (ups (ups w0 12 v.1) 13 v.2))) A) args s 0 0 A) (F0 m 4 ls [])), ∀ (c0_12 : (Nat → Int32)) (c0_13 : (Nat → Int32)) (x1 : Int32) (x2 : Int32) (H : Heap) (locs : List Loc) (ls : Array Slot), va_P (dC, dI) vwCl (zW_8 cy h0 (ups (ups w0 12 c0_12) 13 c0_13)) H → va_D A (zW_8 cy h0 (ups (ups w0 12 c0_12) 13 c0_13)) → va_S A s.heap H locs → lv_has ls 3 [(0, .ref (h0 0)), (1, .int x1), (2, .int x2)] → (fX8_clears_28 w0 s4) c0_12 c0_13 x1 x2 = some z → W p l e ({ frames := 3, cells := 0, slots := 0, locals := 72 } : Room) s m args below meth c H locs 0 0 (MQ below (va_Qi (fun (q : Int32) (v : (Nat → Int32) × (Nat → Int32)) => (q, v) = z) (fun v => aWR (dC, dI) vwCl [(cy, .int)] A (zW_8 cy h0 (ups (ups w0 12 v.1) 13 v.2))) A) args s 0 0 A) (F0 m 28 ls []) := by
    intro s4 hs4
    intro c0_12 c0_13 x1 x2 H locs ls hP hD hS hl hf
    unfold fX8_clears_28 at hf
    refine lv_zinc (lv' := [(2, .int (x2 + (1 : Int32))), (0, .ref (h0 0)), (1, .int x1)]) hx hb dX8_clears_28 hl (k := 2) rfl (v := (1 : Int32)) (by decide) (by decide) rfl (fun ls hl => ?_)
    refine lv_goto (tgt := 4) hx hb dX8_clears_31 (by decide) ?_
    exact hs4 c0_12 c0_13 x1 (x2 + (1 : Int32)) H locs ls hP hD hS (lv_sub hl [1, 2, 0] rfl) hf
  have k4 : ∀ n : Nat, ∀ (c0_12 : (Nat → Int32)) (c0_13 : (Nat → Int32)) (x1 : Int32) (x2 : Int32) (H : Heap) (locs : List Loc) (ls : Array Slot), va_P (dC, dI) vwCl (zW_8 cy h0 (ups (ups w0 12 c0_12) 13 c0_13)) H → va_D A (zW_8 cy h0 (ups (ups w0 12 c0_12) 13 c0_13)) → va_S A s.heap H locs → lv_has ls 3 [(0, .ref (h0 0)), (1, .int x1), (2, .int x2)] → (zl4 (fX8_clears_4 w0) n) c0_12 c0_13 x1 x2 = some z → W p l e ({ frames := 3, cells := 0, slots := 0, locals := 72 } : Room) s m args below meth c H locs 0 0 (MQ below (va_Qi (fun (q : Int32) (v : (Nat → Int32) × (Nat → Int32)) => (q, v) = z) (fun v => aWR (dC, dI) vwCl [(cy, .int)] A (zW_8 cy h0 (ups (ups w0 12 v.1) 13 v.2))) A) args s 0 0 A) (F0 m 4 ls []) := by
    intro n
    induction n with
    | zero =>
      intro c0_12 c0_13 x1 x2 H locs ls hP hD hS hl hf
      exact z_no hf
    | succ n hs4 =>
      intro c0_12 c0_13 x1 x2 H locs ls hP hD hS hl hf
      have hf : fX8_clears_4 w0 (zl4 (fX8_clears_4 w0) n) c0_12 c0_13 x1 x2 = some z := hf
      generalize zl4 (fX8_clears_4 w0) n = s4 at hs4 hf
      unfold fX8_clears_4 at hf
      refine lv_iload_n hx hb dX8_clears_4 rfl (lv_at hl 2 rfl) ?_
      refine lv_aload_n hx hb dX8_clears_5 rfl (lv_at hl 0 rfl) ?_
      refine zget hx hb hts hown hK hP hin_8 0 rfl rfl 0 (by decide) mw_590 (v := .int (w0 0 0)) rfl dX8_clears_6 ?_
      refine lv_aload_n hx hb dX8_clears_9 rfl (lv_at hl 0 rfl) ?_
      refine zget hx hb hts hown hK hP hin_8 0 rfl rfl 1 (by decide) mw_591 (v := .int (w0 0 1)) rfl dX8_clears_10 ?_
      refine lv_imul hx hb dX8_clears_13 ?_
      refine lv_icmp_ge (tgt := 34) hx hb dX8_clears_14 (by decide) (fun hc => ?_) (fun hc => ?_)
      · have hf := it_t hc hf
        refine lv_iload_n hx hb dX8_clears_34 rfl (lv_at hl 1 rfl) ?_
        exact zretI hx hb hr hlocks hP hK hD hS hf rfl dX8_clears_35
      · have hf := it_f hc hf
        refine lv_aload_n hx hb dX8_clears_17 rfl (lv_at hl 0 rfl) ?_
        refine lv_iload_n hx hb dX8_clears_18 rfl (lv_at hl 2 rfl) ?_
        obtain ⟨r2, u3, u4, hq1, hf⟩ := ob3_d hf
        refine zwiV (q := (RX8, TX8, 37)) (As := [.int x2]) (rest := []) (r := r2) (u := (u3, u4)) (wn := (zW_8 cy h0 (ups (ups w0 12 u3) 13 u4))) ⟨hx, hb, hml, hown, hts⟩ (kX8_moves l dC dI cy h0 (ups (ups w0 12 c0_12) 13 c0_13) x2 H.size (r2, u3, u4) hq1) mw_801 mw_802 mw_916 mw_9 mw_803 hdX8_moves rfl rfl ⟨Nat.le_of_ble_eq_true rfl, Nat.le_of_ble_eq_true rfl⟩ hP hK hG hS 0 rfl rfl hD hA [0, 1, 2, 3, 4, 5, 6, 7, 8, 9, 10, 11, 12, 13] [] [0, 1, 2, 3, 4, 5, 6, 7, 8, 9, 10, 11, 12, 13] rfl rfl rfl rfl (by decide) rfl rfl rfl hl.1 rfl (Nat.le_of_ble_eq_true rfl) dX8_clears_19 ⟨Nat.zero_le _, Nat.zero_le _⟩ (fun H locs hP hD hS => ?_)
        refine lv_if_lt (tgt := 28) hx hb dX8_clears_22 (by decide) (fun hc => ?_) (fun hc => ?_)
        · have hf := it_t hc hf
          exact k28 s4 hs4 u3 u4 x1 x2 H locs ls hP hD hS (lv_sub hl [0, 1, 2] rfl) hf
        · have hf := it_f hc hf
          refine lv_zinc (lv' := [(1, .int (x1 + (1 : Int32))), (0, .ref (h0 0)), (2, .int x2)]) hx hb dX8_clears_25 hl (k := 1) rfl (v := (1 : Int32)) (by decide) (by decide) rfl (fun ls hl => ?_)
          exact k28 s4 hs4 u3 u4 (x1 + (1 : Int32)) x2 H locs ls hP hD hS (lv_sub hl [1, 0, 2] rfl) hf
  obtain ⟨ls, hl, he⟩ := zent (m := m) (n := 3) (L := [(0, .ref (h0 0))]) ha (Nat.le_of_ble_eq_true rfl) rfl
  refine W.eq he ?_
  unfold fX8_clears at hf
  have kE : ∀ (H : Heap) (locs : List Loc), va_P (dC, dI) vwCl (zW_8 cy h0 (ups (ups w0 12 (w0 12)) 13 (w0 13))) H → va_D A (zW_8 cy h0 (ups (ups w0 12 (w0 12)) 13 (w0 13))) → va_S A s.heap H locs → W p l e ({ frames := 3, cells := 0, slots := 0, locals := 72 } : Room) s m args below meth c H locs 0 0 (MQ below (va_Qi (fun (q : Int32) (v : (Nat → Int32) × (Nat → Int32)) => (q, v) = z) (fun v => aWR (dC, dI) vwCl [(cy, .int)] A (zW_8 cy h0 (ups (ups w0 12 v.1) 13 v.2))) A) args s 0 0 A) (F0 m 0 ls []) := by
    intro H locs hP hD hS
    refine lv_iconst (v := (0 : Int32)) hx hb dX8_clears_0 (by decide) ?_
    refine lv_istore_n (lv' := [(1, .int (0 : Int32)), (0, .ref (h0 0))]) hx hb dX8_clears_1 rfl hl (by decide) rfl (fun ls hl => ?_)
    refine lv_iconst (v := (0 : Int32)) hx hb dX8_clears_2 (by decide) ?_
    refine lv_istore_n (lv' := [(2, .int (0 : Int32)), (1, .int (0 : Int32)), (0, .ref (h0 0))]) hx hb dX8_clears_3 rfl hl (by decide) rfl (fun ls hl => ?_)
    exact k4 zFU (w0 12) (w0 13) (0 : Int32) (0 : Int32) H locs ls hP hD hS (lv_sub hl [2, 1, 0] rfl) hf
  exact kE s.heap [] hP hD hS
set_option maxHeartbeats 4000000 in
set_option maxRecDepth 100000 in
theorem kX8_line (l : Launch) (dC : Nat → ClassId) (dI : Nat → Nat → Nat) (cy : ClassId) (h0 : Nat → Nat) (w0 : Nat → Nat → Int32) (sz : Nat) (z : Int32 × (Nat → Int32) × (Nat → Int32) × (Nat → Int32) × (Nat → Int32)) (hf : fX8_line w0 = some z) : Met l yX8_line (wsM yX8_line cX8_line 4 (some .int)) ({ frames := 4, cells := 0, slots := 0, locals := 90 } : Room) (va_Pc [.ref (h0 0)] (pWR (dC, dI) vwCl [(cy, .int)] (zW_8 cy h0 w0) sz)) (va_Qi (fun (q : Int32) (v : (Nat → Int32) × (Nat → Int32) × (Nat → Int32) × (Nat → Int32)) => (q, v) = z) (fun v => aWR (dC, dI) vwCl [(cy, .int)] (va_A (zW_8 cy h0 w0) sz) (zW_8 cy h0 (ups (ups (ups (ups w0 0 v.1) 3 v.2.1) 9 v.2.2.1) 11 v.2.2.2))) (va_A (zW_8 cy h0 w0) sz)) 0 0 (va_A (zW_8 cy h0 w0) sz) := by
  refine Met.ofW (cc := cX8_line) (maxL := 4) (ret := (some .int)) (by decide) rfl ?_
  intro p e s m args below meth c s₁ B hml hv
  obtain ⟨ha, hsz, hP, hK, hD0, hG⟩ := hv
  have hx := B.exec
  have hb := B.bytes
  have hr := B.returns
  have hts : ∀ w ∈ wsA, w.before args s = true := fun w h => atoms_spec (ws := wsM yX8_line cX8_line 4 (some .int)) B.pre w (List.mem_cons_of_mem _ h)
  have hown : s.vm.findClass RX8 = some m.cls := findClass_of_methodNamed B.named
  have hlocks := B.notSynchronized
  subst hsz
  have hD := hD0.self (sz := s.heap.size)
  generalize hAe : va_A (zW_8 cy h0 w0) s.heap.size = A at hD hG ⊢
  have hA : ∀ q : Nat, s.heap.size ≤ q → A q := fun q h => by rw [← hAe]; exact Or.inr h
  have hS : va_S A s.heap s.heap [] := va_S.rf
  have hP : va_P (dC, dI) vwCl (zW_8 cy h0 (ups (ups (ups (ups w0 0 (w0 0)) 3 (w0 3)) 9 (w0 9)) 11 (w0 11))) s.heap := hP
  have hD : va_D A (zW_8 cy h0 (ups (ups (ups (ups w0 0 (w0 0)) 3 (w0 3)) 9 (w0 9)) 11 (w0 11))) := hD
  have k66 : ∀ (s23 : (Nat → Int32) → (Nat → Int32) → (Nat → Int32) → (Nat → Int32) → Int32 → Int32 → Option (Int32 × (Nat → Int32) × (Nat → Int32) × (Nat → Int32) × (Nat → Int32))) (hs23 : ∀ (c0_0 : (Nat → Int32)) (c0_3 : (Nat → Int32)) (c0_9 : (Nat → Int32)) (c0_11 : (Nat → Int32)) (x1 : Int32) (x2 : Int32) (H : Heap) (locs : List Loc) (ls : Array Slot), va_P (dC, dI) vwCl (zW_8 cy h0 (ups (ups (ups (ups w0 0 c0_0) 3 c0_3) 9 c0_9) 11 c0_11)) H → va_D A (zW_8 cy h0 (ups (ups (ups (ups w0 0 c0_0) 3 c0_3) 9 c0_9) 11 c0_11)) → va_S A s.heap H locs → lv_has ls 4 [(0, .ref (h0 0)), (1, .int x1), (2, .int x2)] → s23 c0_0 c0_3 c0_9 c0_11 x1 x2 = some z → W p l e ({ frames := 4, cells := 0, slots := 0, locals := 90 } : Room) s m args below meth c H locs 0 0 (MQ below (va_Qi (fun (q : Int32) (v : (Nat → Int32) × (Nat → Int32) × (Nat → Int32) × (Nat → Int32)) => (q, v) = z) (fun v => aWR (dC, dI) vwCl [(cy, .int)] A (zW_8 cy h0 (ups (ups (ups (ups w0 0 v.1) 3 v.2.1) 9 v.2.2.1) 11 v.2.2.2))) A) args s 0 0 A) (F0 m 23 ls [])), ∀ (c0_0 : (Nat → Int32)) (c0_3 : (Nat → Int32)) (c0_9 : (Nat → Int32)) (c0_11 : (Nat → Int32)) (x1 : Int32) (x2 : Int32) (H : Heap) (locs : List Loc) (ls : Array Slot), va_P (dC, dI) vwCl (zW_8 cy h0 (ups (ups (ups (ups w0 0 c0_0) 3 c0_3) 9 c0_9) 11 c0_11)) H → va_D A (zW_8 cy h0 (ups (ups (ups (ups w0 0 c0_0) 3 c0_3) 9 c0_9) 11 c0_11)) → va_S A s.heap H locs → lv_has ls 4 [(0, .ref (h0 0)), (1, .int x1), (2, .int x2)] → (fX8_line_66 w0 s23) c0_0 c0_3 c0_9 c0_11 x1 x2 = some z → W p l e ({ frames := 4, cells := 0, slots := 0, locals := 90 } : Room) s m args below meth c H locs 0 0 (MQ below (va_Qi (fun (q : Int32) (v : (Nat → Int32) × (Nat → Int32) × (Nat → Int32) × (Nat → Int32)) => (q, v) = z) (fun v => aWR (dC, dI) vwCl [(cy, .int)] A (zW_8 cy h0 (ups (ups (ups (ups w0 0 v.1) 3 v.2.1) 9 v.2.2.1) 11 v.2.2.2))) A) args s 0 0 A) (F0 m 66 ls []) := by
    intro s23 hs23
    intro c0_0 c0_3 c0_9 c0_11 x1 x2 H locs ls hP hD hS hl hf
    unfold fX8_line_66 at hf
    refine lv_aload_n hx hb dX8_line_66 rfl (lv_at hl 0 rfl) ?_
    obtain ⟨u4, u5, hq3, hf⟩ := ob2_d hf
    refine zwvV (q := (RX8, TX8, 37)) (As := []) (rest := []) (u := (u4, u5)) (wn := (zW_8 cy h0 (ups (ups (ups (ups w0 0 u4) 3 u5) 9 c0_9) 11 c0_11))) ⟨hx, hb, hml, hown, hts⟩ (kX8_again l dC dI cy h0 (ups (ups (ups (ups w0 0 c0_0) 3 c0_3) 9 c0_9) 11 c0_11) H.size (u4, u5) hq3) mw_815 mw_816 mw_918 mw_9 mw_817 hdX8_again rfl rfl ⟨Nat.le_of_ble_eq_true rfl, Nat.le_of_ble_eq_true rfl⟩ hP hK hG hS 0 rfl rfl hD hA [0, 1, 2, 3, 4, 5, 6, 7, 8, 9, 10, 11, 12, 13] [] [0, 1, 2, 3, 4, 5, 6, 7, 8, 9, 10, 11, 12, 13] rfl rfl rfl rfl (by decide) rfl rfl rfl hl.1 rfl (Nat.le_of_ble_eq_true rfl) dX8_line_67 ⟨Nat.zero_le _, Nat.zero_le _⟩ (fun H locs hP hD hS => ?_)
    refine lv_zinc (lv' := [(2, .int (x2 + (1 : Int32))), (0, .ref (h0 0)), (1, .int x1)]) hx hb dX8_line_70 hl (k := 2) rfl (v := (1 : Int32)) (by decide) (by decide) rfl (fun ls hl => ?_)
    refine lv_goto (tgt := 23) hx hb dX8_line_73 (by decide) ?_
    exact hs23 u4 u5 c0_9 c0_11 x1 (x2 + (1 : Int32)) H locs ls hP hD hS (lv_sub hl [1, 2, 0] rfl) hf
  have k39 : ∀ (s23 : (Nat → Int32) → (Nat → Int32) → (Nat → Int32) → (Nat → Int32) → Int32 → Int32 → Option (Int32 × (Nat → Int32) × (Nat → Int32) × (Nat → Int32) × (Nat → Int32))) (hs23 : ∀ (c0_0 : (Nat → Int32)) (c0_3 : (Nat → Int32)) (c0_9 : (Nat → Int32)) (c0_11 : (Nat → Int32)) (x1 : Int32) (x2 : Int32) (H : Heap) (locs : List Loc) (ls : Array Slot), va_P (dC, dI) vwCl (zW_8 cy h0 (ups (ups (ups (ups w0 0 c0_0) 3 c0_3) 9 c0_9) 11 c0_11)) H → va_D A (zW_8 cy h0 (ups (ups (ups (ups w0 0 c0_0) 3 c0_3) 9 c0_9) 11 c0_11)) → va_S A s.heap H locs → lv_has ls 4 [(0, .ref (h0 0)), (1, .int x1), (2, .int x2)] → s23 c0_0 c0_3 c0_9 c0_11 x1 x2 = some z → W p l e ({ frames := 4, cells := 0, slots := 0, locals := 90 } : Room) s m args below meth c H locs 0 0 (MQ below (va_Qi (fun (q : Int32) (v : (Nat → Int32) × (Nat → Int32) × (Nat → Int32) × (Nat → Int32)) => (q, v) = z) (fun v => aWR (dC, dI) vwCl [(cy, .int)] A (zW_8 cy h0 (ups (ups (ups (ups w0 0 v.1) 3 v.2.1) 9 v.2.2.1) 11 v.2.2.2))) A) args s 0 0 A) (F0 m 23 ls [])), ∀ n : Nat, ∀ (c0_0 : (Nat → Int32)) (c0_3 : (Nat → Int32)) (c0_9 : (Nat → Int32)) (c0_11 : (Nat → Int32)) (x1 : Int32) (x2 : Int32) (x3 : Int32) (H : Heap) (locs : List Loc) (ls : Array Slot), va_P (dC, dI) vwCl (zW_8 cy h0 (ups (ups (ups (ups w0 0 c0_0) 3 c0_3) 9 c0_9) 11 c0_11)) H → va_D A (zW_8 cy h0 (ups (ups (ups (ups w0 0 c0_0) 3 c0_3) 9 c0_9) 11 c0_11)) → va_S A s.heap H locs → lv_has ls 4 [(0, .ref (h0 0)), (1, .int x1), (2, .int x2), (3, .int x3)] → (zl7 (fX8_line_39 w0 s23) n) c0_0 c0_3 c0_9 c0_11 x1 x2 x3 = some z → W p l e ({ frames := 4, cells := 0, slots := 0, locals := 90 } : Room) s m args below meth c H locs 0 0 (MQ below (va_Qi (fun (q : Int32) (v : (Nat → Int32) × (Nat → Int32) × (Nat → Int32) × (Nat → Int32)) => (q, v) = z) (fun v => aWR (dC, dI) vwCl [(cy, .int)] A (zW_8 cy h0 (ups (ups (ups (ups w0 0 v.1) 3 v.2.1) 9 v.2.2.1) 11 v.2.2.2))) A) args s 0 0 A) (F0 m 39 ls []) := by
    intro s23 hs23
    intro n
    induction n with
    | zero =>
      intro c0_0 c0_3 c0_9 c0_11 x1 x2 x3 H locs ls hP hD hS hl hf
      exact z_no hf
    | succ n hs39 =>
      intro c0_0 c0_3 c0_9 c0_11 x1 x2 x3 H locs ls hP hD hS hl hf
      have hf : fX8_line_39 w0 s23 (zl7 (fX8_line_39 w0 s23) n) c0_0 c0_3 c0_9 c0_11 x1 x2 x3 = some z := hf
      generalize zl7 (fX8_line_39 w0 s23) n = s39 at hs39 hf
      unfold fX8_line_39 at hf
      refine lv_iload_n hx hb dX8_line_39 rfl (lv_at hl 3 rfl) ?_
      refine lv_bipush (v := (60 : Int32)) hx hb dX8_line_40 (by decide) ?_
      refine lv_icmp_ge (tgt := 55) hx hb dX8_line_42 (by decide) (fun hc => ?_) (fun hc => ?_)
      · have hf := it_t hc hf
        refine lv_aload_n hx hb dX8_line_55 rfl (lv_at hl 0 rfl) ?_
        refine zget hx hb hts hown hK hP hin_8 0 rfl rfl 22 (by decide) mw_612 (v := .int (c0_0 22)) rfl dX8_line_56 ?_
        refine lv_bipush (v := (8 : Int32)) hx hb dX8_line_59 (by decide) ?_
        refine lv_icmp_ne (tgt := 66) hx hb dX8_line_61 (by decide) (fun hc => ?_) (fun hc => ?_)
        · have hf := it_f hc hf
          exact k66 s23 hs23 c0_0 c0_3 c0_9 c0_11 x1 x2 H locs ls hP hD hS (lv_sub hl [0, 1, 2] rfl) hf
        · have hf := it_t hc hf
          refine lv_iload_n hx hb dX8_line_64 rfl (lv_at hl 2 rfl) ?_
          refine lv_istore_n (lv' := [(1, .int x2), (0, .ref (h0 0)), (2, .int x2), (3, .int x3)]) hx hb dX8_line_65 rfl hl (by decide) rfl (fun ls hl => ?_)
          exact k66 s23 hs23 c0_0 c0_3 c0_9 c0_11 x2 x2 H locs ls hP hD hS (lv_sub hl [1, 0, 2] rfl) hf
      · have hf := it_f hc hf
        refine lv_aload_n hx hb dX8_line_45 rfl (lv_at hl 0 rfl) ?_
        obtain ⟨u7, hq6, hf⟩ := ob1_d hf
        refine zwvV (q := (RX8, TX8, 37)) (As := []) (rest := []) (u := u7) (wn := (zW_8 cy h0 (ups (ups (ups (ups w0 0 u7) 3 c0_3) 9 c0_9) 11 c0_11))) ⟨hx, hb, hml, hown, hts⟩ (kX8_step l dC dI cy h0 (ups (ups (ups (ups w0 0 c0_0) 3 c0_3) 9 c0_9) 11 c0_11) H.size u7 hq6) mw_734 mw_735 mw_907 mw_9 mw_736 hdX8_step rfl rfl ⟨Nat.le_of_ble_eq_true rfl, Nat.le_of_ble_eq_true rfl⟩ hP hK hG hS 0 rfl rfl hD hA [0, 1, 2, 3, 4, 5, 6, 7, 8, 9, 10, 11, 12, 13] [] [0, 1, 2, 3, 4, 5, 6, 7, 8, 9, 10, 11, 12, 13] rfl rfl rfl rfl (by decide) rfl rfl rfl hl.1 rfl (Nat.le_of_ble_eq_true rfl) dX8_line_46 ⟨Nat.zero_le _, Nat.zero_le _⟩ (fun H locs hP hD hS => ?_)
        refine lv_zinc (lv' := [(3, .int (x3 + (1 : Int32))), (0, .ref (h0 0)), (1, .int x1), (2, .int x2)]) hx hb dX8_line_49 hl (k := 3) rfl (v := (1 : Int32)) (by decide) (by decide) rfl (fun ls hl => ?_)
        refine lv_goto (tgt := 39) hx hb dX8_line_52 (by decide) ?_
        exact hs39 u7 c0_3 c0_9 c0_11 x1 x2 (x3 + (1 : Int32)) H locs ls hP hD hS (lv_sub hl [1, 2, 3, 0] rfl) hf
  have k23 : ∀ n : Nat, ∀ (c0_0 : (Nat → Int32)) (c0_3 : (Nat → Int32)) (c0_9 : (Nat → Int32)) (c0_11 : (Nat → Int32)) (x1 : Int32) (x2 : Int32) (H : Heap) (locs : List Loc) (ls : Array Slot), va_P (dC, dI) vwCl (zW_8 cy h0 (ups (ups (ups (ups w0 0 c0_0) 3 c0_3) 9 c0_9) 11 c0_11)) H → va_D A (zW_8 cy h0 (ups (ups (ups (ups w0 0 c0_0) 3 c0_3) 9 c0_9) 11 c0_11)) → va_S A s.heap H locs → lv_has ls 4 [(0, .ref (h0 0)), (1, .int x1), (2, .int x2)] → (zl6 (fX8_line_23 w0) n) c0_0 c0_3 c0_9 c0_11 x1 x2 = some z → W p l e ({ frames := 4, cells := 0, slots := 0, locals := 90 } : Room) s m args below meth c H locs 0 0 (MQ below (va_Qi (fun (q : Int32) (v : (Nat → Int32) × (Nat → Int32) × (Nat → Int32) × (Nat → Int32)) => (q, v) = z) (fun v => aWR (dC, dI) vwCl [(cy, .int)] A (zW_8 cy h0 (ups (ups (ups (ups w0 0 v.1) 3 v.2.1) 9 v.2.2.1) 11 v.2.2.2))) A) args s 0 0 A) (F0 m 23 ls []) := by
    intro n
    induction n with
    | zero =>
      intro c0_0 c0_3 c0_9 c0_11 x1 x2 H locs ls hP hD hS hl hf
      exact z_no hf
    | succ n hs23 =>
      intro c0_0 c0_3 c0_9 c0_11 x1 x2 H locs ls hP hD hS hl hf
      have hf : fX8_line_23 w0 (zl6 (fX8_line_23 w0) n) c0_0 c0_3 c0_9 c0_11 x1 x2 = some z := hf
      generalize zl6 (fX8_line_23 w0) n = s23 at hs23 hf
      unfold fX8_line_23 at hf
      refine lv_iload_n hx hb dX8_line_23 rfl (lv_at hl 2 rfl) ?_
      refine lv_iconst (v := (3 : Int32)) hx hb dX8_line_24 (by decide) ?_
      refine lv_icmp_gt (tgt := 76) hx hb dX8_line_25 (by decide) (fun hc => ?_) (fun hc => ?_)
      · have hf := it_t hc hf
        refine lv_iload_n hx hb dX8_line_76 rfl (lv_at hl 1 rfl) ?_
        exact zretI hx hb hr hlocks hP hK hD hS hf rfl dX8_line_77
      · have hf := it_f hc hf
        refine lv_iload_n hx hb dX8_line_28 rfl (lv_at hl 1 rfl) ?_
        refine lv_if_ge (tgt := 76) hx hb dX8_line_29 (by decide) (fun hc => ?_) (fun hc => ?_)
        · have hf := it_t hc hf
          refine lv_iload_n hx hb dX8_line_76 rfl (lv_at hl 1 rfl) ?_
          exact zretI hx hb hr hlocks hP hK hD hS hf rfl dX8_line_77
        · have hf := it_f hc hf
          refine lv_aload_n hx hb dX8_line_32 rfl (lv_at hl 0 rfl) ?_
          refine lv_iload_n hx hb dX8_line_33 rfl (lv_at hl 2 rfl) ?_
          refine zput hx hb hts hown hK hP hD hS hin_8 tyX8 tyX8_ok nmX8 0 rfl rfl 15 (by decide) mw_605 rfl (v := .int x2) rfl rfl (Nat.le_of_ble_eq_true rfl) (wn := (zW_8 cy h0 (ups (ups (ups (ups w0 0 (ups c0_0 15 x2)) 3 c0_3) 9 c0_9) 11 c0_11))) rfl dX8_line_34 (fun H locs hP hD hS => ?_)
          refine lv_iconst (v := (0 : Int32)) hx hb dX8_line_37 (by decide) ?_
          refine lv_istore_n (lv' := [(3, .int (0 : Int32)), (0, .ref (h0 0)), (1, .int x1), (2, .int x2)]) hx hb dX8_line_38 rfl hl (by decide) rfl (fun ls hl => ?_)
          exact k39 s23 hs23 zFU (ups c0_0 15 x2) c0_3 c0_9 c0_11 x1 x2 (0 : Int32) H locs ls hP hD hS (lv_sub hl [1, 2, 3, 0] rfl) hf
  obtain ⟨ls, hl, he⟩ := zent (m := m) (n := 4) (L := [(0, .ref (h0 0))]) ha (Nat.le_of_ble_eq_true rfl) rfl
  refine W.eq he ?_
  unfold fX8_line at hf
  have kE : ∀ (H : Heap) (locs : List Loc), va_P (dC, dI) vwCl (zW_8 cy h0 (ups (ups (ups (ups w0 0 (w0 0)) 3 (w0 3)) 9 (w0 9)) 11 (w0 11))) H → va_D A (zW_8 cy h0 (ups (ups (ups (ups w0 0 (w0 0)) 3 (w0 3)) 9 (w0 9)) 11 (w0 11))) → va_S A s.heap H locs → W p l e ({ frames := 4, cells := 0, slots := 0, locals := 90 } : Room) s m args below meth c H locs 0 0 (MQ below (va_Qi (fun (q : Int32) (v : (Nat → Int32) × (Nat → Int32) × (Nat → Int32) × (Nat → Int32)) => (q, v) = z) (fun v => aWR (dC, dI) vwCl [(cy, .int)] A (zW_8 cy h0 (ups (ups (ups (ups w0 0 v.1) 3 v.2.1) 9 v.2.2.1) 11 v.2.2.2))) A) args s 0 0 A) (F0 m 0 ls []) := by
    intro H locs hP hD hS
    refine lv_aload_n hx hb dX8_line_0 rfl (lv_at hl 0 rfl) ?_
    refine zget hx hb hts hown hK hP hin_8 0 rfl rfl 12 (by decide) mw_602 (v := .int (w0 0 12)) rfl dX8_line_1 ?_
    refine lv_if_ne (tgt := 14) hx hb dX8_line_4 (by decide) (fun hc => ?_) (fun hc => ?_)
    · have hf := it_f hc hf
      refine lv_aload_n hx hb dX8_line_14 rfl (lv_at hl 0 rfl) ?_
      obtain ⟨u2, hq1, hf⟩ := ob1_d hf
      refine zwvV (q := (RX8, TX8, 37)) (As := []) (rest := []) (u := u2) (wn := (zW_8 cy h0 (ups (ups (ups (ups w0 0 (w0 0)) 3 (w0 3)) 9 (w0 9)) 11 u2))) ⟨hx, hb, hml, hown, hts⟩ (kX8_keep l dC dI cy h0 (ups (ups (ups (ups w0 0 (w0 0)) 3 (w0 3)) 9 (w0 9)) 11 (w0 11)) H.size u2 hq1) mw_812 mw_813 mw_917 mw_9 mw_814 hdX8_keep rfl rfl ⟨Nat.le_of_ble_eq_true rfl, Nat.le_of_ble_eq_true rfl⟩ hP hK hG hS 0 rfl rfl hD hA [0, 1, 2, 3, 4, 5, 6, 7, 8, 9, 10, 11, 12, 13] [] [0, 1, 2, 3, 4, 5, 6, 7, 8, 9, 10, 11, 12, 13] rfl rfl rfl rfl (by decide) rfl rfl rfl hl.1 rfl (Nat.le_of_ble_eq_true rfl) dX8_line_15 ⟨Nat.zero_le _, Nat.zero_le _⟩ (fun H locs hP hD hS => ?_)
      refine lv_bipush (v := (-9 : Int32)) hx hb dX8_line_18 (by decide) ?_
      refine lv_istore_n (lv' := [(1, .int (-9 : Int32)), (0, .ref (h0 0))]) hx hb dX8_line_20 rfl hl (by decide) rfl (fun ls hl => ?_)
      refine lv_iconst (v := (1 : Int32)) hx hb dX8_line_21 (by decide) ?_
      refine lv_istore_n (lv' := [(2, .int (1 : Int32)), (1, .int (-9 : Int32)), (0, .ref (h0 0))]) hx hb dX8_line_22 rfl hl (by decide) rfl (fun ls hl => ?_)
      exact k23 zFU (w0 0) (w0 3) (w0 9) u2 (-9 : Int32) (1 : Int32) H locs ls hP hD hS (lv_sub hl [2, 1, 0] rfl) hf
    · have hf := it_t hc hf
      refine lv_aload_n hx hb dX8_line_7 rfl (lv_at hl 0 rfl) ?_
      refine lv_bipush (v := (-3 : Int32)) hx hb dX8_line_8 (by decide) ?_
      obtain ⟨r9, u10, hq8, hf⟩ := ob2_d hf
      refine zwiV (q := (RX8, TX8, 37)) (As := [.int (-3 : Int32)]) (rest := []) (r := r9) (u := u10) (wn := (zW_8 cy h0 (ups (ups (ups (ups w0 0 (w0 0)) 3 (w0 3)) 9 u10) 11 (w0 11)))) ⟨hx, hb, hml, hown, hts⟩ (kX8_no l dC dI cy h0 (ups (ups (ups (ups w0 0 (w0 0)) 3 (w0 3)) 9 (w0 9)) 11 (w0 11)) (-3 : Int32) H.size (r9, u10) hq8) mw_668 mw_669 mw_898 mw_9 mw_670 hdX8_no rfl rfl ⟨Nat.le_of_ble_eq_true rfl, Nat.le_of_ble_eq_true rfl⟩ hP hK hG hS 0 rfl rfl hD hA [0, 1, 2, 3, 4, 5, 6, 7, 8, 9, 10, 11, 12, 13] [] [0, 1, 2, 3, 4, 5, 6, 7, 8, 9, 10, 11, 12, 13] rfl rfl rfl rfl (by decide) rfl rfl rfl hl.1 rfl (Nat.le_of_ble_eq_true rfl) dX8_line_10 ⟨Nat.zero_le _, Nat.zero_le _⟩ (fun H locs hP hD hS => ?_)
      exact zretI hx hb hr hlocks hP hK hD hS hf rfl dX8_line_13
  exact kE s.heap [] hP hD hS
set_option maxHeartbeats 4000000 in
set_option maxRecDepth 100000 in
theorem kX8_tensLeft (l : Launch) (dC : Nat → ClassId) (dI : Nat → Nat → Nat) (cy : ClassId) (h0 : Nat → Nat) (w0 : Nat → Nat → Int32) (sz : Nat) (z : Int32 × (Nat → Int32)) (hf : fX8_tensLeft w0 = some z) : Met l yX8_tensLeft (wsM yX8_tensLeft cX8_tensLeft 2 (some .int)) ({ frames := 4, cells := 0, slots := 0, locals := 90 } : Room) (va_Pc [.ref (h0 0)] (pWR (dC, dI) vwCl [(cy, .int)] (zW_8 cy h0 w0) sz)) (va_Qi (fun (q : Int32) (v : (Nat → Int32)) => (q, v) = z) (fun v => aWR (dC, dI) vwCl [(cy, .int)] (va_A (zW_8 cy h0 w0) sz) (zW_8 cy h0 (ups w0 0 v))) (va_A (zW_8 cy h0 w0) sz)) 0 0 (va_A (zW_8 cy h0 w0) sz) := by
  refine Met.ofW (cc := cX8_tensLeft) (maxL := 2) (ret := (some .int)) (by decide) rfl ?_
  intro p e s m args below meth c s₁ B hml hv
  obtain ⟨ha, hsz, hP, hK, hD0, hG⟩ := hv
  have hx := B.exec
  have hb := B.bytes
  have hr := B.returns
  have hts : ∀ w ∈ wsA, w.before args s = true := fun w h => atoms_spec (ws := wsM yX8_tensLeft cX8_tensLeft 2 (some .int)) B.pre w (List.mem_cons_of_mem _ h)
  have hown : s.vm.findClass RX8 = some m.cls := findClass_of_methodNamed B.named
  have hlocks := B.notSynchronized
  subst hsz
  have hD := hD0.self (sz := s.heap.size)
  generalize hAe : va_A (zW_8 cy h0 w0) s.heap.size = A at hD hG ⊢
  have hA : ∀ q : Nat, s.heap.size ≤ q → A q := fun q h => by rw [← hAe]; exact Or.inr h
  have hS : va_S A s.heap s.heap [] := va_S.rf
  have hP : va_P (dC, dI) vwCl (zW_8 cy h0 (ups w0 0 (w0 0))) s.heap := hP
  have hD : va_D A (zW_8 cy h0 (ups w0 0 (w0 0))) := hD
  have k2 : ∀ n : Nat, ∀ (c0_0 : (Nat → Int32)) (x1 : Int32) (H : Heap) (locs : List Loc) (ls : Array Slot), va_P (dC, dI) vwCl (zW_8 cy h0 (ups w0 0 c0_0)) H → va_D A (zW_8 cy h0 (ups w0 0 c0_0)) → va_S A s.heap H locs → lv_has ls 2 [(0, .ref (h0 0)), (1, .int x1)] → (zl2 (fX8_tensLeft_2 w0) n) c0_0 x1 = some z → W p l e ({ frames := 4, cells := 0, slots := 0, locals := 90 } : Room) s m args below meth c H locs 0 0 (MQ below (va_Qi (fun (q : Int32) (v : (Nat → Int32)) => (q, v) = z) (fun v => aWR (dC, dI) vwCl [(cy, .int)] A (zW_8 cy h0 (ups w0 0 v))) A) args s 0 0 A) (F0 m 2 ls []) := by
    intro n
    induction n with
    | zero =>
      intro c0_0 x1 H locs ls hP hD hS hl hf
      exact z_no hf
    | succ n hs2 =>
      intro c0_0 x1 H locs ls hP hD hS hl hf
      have hf : fX8_tensLeft_2 w0 (zl2 (fX8_tensLeft_2 w0) n) c0_0 x1 = some z := hf
      generalize zl2 (fX8_tensLeft_2 w0) n = s2 at hs2 hf
      unfold fX8_tensLeft_2 at hf
      refine lv_iload_n hx hb dX8_tensLeft_2 rfl (lv_at hl 1 rfl) ?_
      refine lv_bipush (v := (60 : Int32)) hx hb dX8_tensLeft_3 (by decide) ?_
      refine lv_icmp_ge (tgt := 25) hx hb dX8_tensLeft_5 (by decide) (fun hc => ?_) (fun hc => ?_)
      · have hf := it_t hc hf
        refine lv_iload_n hx hb dX8_tensLeft_25 rfl (lv_at hl 1 rfl) ?_
        exact zretI hx hb hr hlocks hP hK hD hS hf rfl dX8_tensLeft_26
      · have hf := it_f hc hf
        refine lv_aload_n hx hb dX8_tensLeft_8 rfl (lv_at hl 0 rfl) ?_
        obtain ⟨r2, hq1, hf⟩ := ob1_d hf
        refine zroV (q := (RX8, TX8, 37)) (As := []) (rest := []) (r := r2) ⟨hx, hb, hml, hown, hts⟩ (kX8_ended l dC dI cy h0 (ups w0 0 c0_0) r2 hq1) mw_737 mw_738 mw_908 mw_9 mw_739 hdX8_ended rfl rfl ⟨Nat.le_of_ble_eq_true rfl, Nat.le_of_ble_eq_true rfl⟩ hP hK hG hS 0 rfl rfl [0, 1, 2, 3, 4, 5, 6, 7, 8, 9, 10, 11, 12, 13] rfl rfl hl.1 rfl (Nat.le_of_ble_eq_true rfl) dX8_tensLeft_9 ⟨Nat.zero_le _, Nat.zero_le _⟩ ?_
        refine lv_if_ne (tgt := 25) hx hb dX8_tensLeft_12 (by decide) (fun hc => ?_) (fun hc => ?_)
        · have hf := it_f hc hf
          refine lv_iload_n hx hb dX8_tensLeft_25 rfl (lv_at hl 1 rfl) ?_
          exact zretI hx hb hr hlocks hP hK hD hS hf rfl dX8_tensLeft_26
        · have hf := it_t hc hf
          refine lv_aload_n hx hb dX8_tensLeft_15 rfl (lv_at hl 0 rfl) ?_
          obtain ⟨u4, hq3, hf⟩ := ob1_d hf
          refine zwvV (q := (RX8, TX8, 37)) (As := []) (rest := []) (u := u4) (wn := (zW_8 cy h0 (ups w0 0 u4))) ⟨hx, hb, hml, hown, hts⟩ (kX8_step l dC dI cy h0 (ups w0 0 c0_0) H.size u4 hq3) mw_734 mw_735 mw_907 mw_9 mw_736 hdX8_step rfl rfl ⟨Nat.le_of_ble_eq_true rfl, Nat.le_of_ble_eq_true rfl⟩ hP hK hG hS 0 rfl rfl hD hA [0, 1, 2, 3, 4, 5, 6, 7, 8, 9, 10, 11, 12, 13] [] [0, 1, 2, 3, 4, 5, 6, 7, 8, 9, 10, 11, 12, 13] rfl rfl rfl rfl (by decide) rfl rfl rfl hl.1 rfl (Nat.le_of_ble_eq_true rfl) dX8_tensLeft_16 ⟨Nat.zero_le _, Nat.zero_le _⟩ (fun H locs hP hD hS => ?_)
          refine lv_zinc (lv' := [(1, .int (x1 + (1 : Int32))), (0, .ref (h0 0))]) hx hb dX8_tensLeft_19 hl (k := 1) rfl (v := (1 : Int32)) (by decide) (by decide) rfl (fun ls hl => ?_)
          refine lv_goto (tgt := 2) hx hb dX8_tensLeft_22 (by decide) ?_
          exact hs2 u4 (x1 + (1 : Int32)) H locs ls hP hD hS (lv_sub hl [1, 0] rfl) hf
  obtain ⟨ls, hl, he⟩ := zent (m := m) (n := 2) (L := [(0, .ref (h0 0))]) ha (Nat.le_of_ble_eq_true rfl) rfl
  refine W.eq he ?_
  unfold fX8_tensLeft at hf
  have kE : ∀ (H : Heap) (locs : List Loc), va_P (dC, dI) vwCl (zW_8 cy h0 (ups w0 0 (w0 0))) H → va_D A (zW_8 cy h0 (ups w0 0 (w0 0))) → va_S A s.heap H locs → W p l e ({ frames := 4, cells := 0, slots := 0, locals := 90 } : Room) s m args below meth c H locs 0 0 (MQ below (va_Qi (fun (q : Int32) (v : (Nat → Int32)) => (q, v) = z) (fun v => aWR (dC, dI) vwCl [(cy, .int)] A (zW_8 cy h0 (ups w0 0 v))) A) args s 0 0 A) (F0 m 0 ls []) := by
    intro H locs hP hD hS
    refine lv_iconst (v := (0 : Int32)) hx hb dX8_tensLeft_0 (by decide) ?_
    refine lv_istore_n (lv' := [(1, .int (0 : Int32)), (0, .ref (h0 0))]) hx hb dX8_tensLeft_1 rfl hl (by decide) rfl (fun ls hl => ?_)
    exact k2 zFU (w0 0) (0 : Int32) H locs ls hP hD hS (lv_sub hl [1, 0] rfl) hf
  exact kE s.heap [] hP hD hS
set_option maxHeartbeats 4000000 in
set_option maxRecDepth 100000 in
theorem kX8_lighter (l : Launch) (dC : Nat → ClassId) (dI : Nat → Nat → Nat) (cy : ClassId) (h0 : Nat → Nat) (w0 : Nat → Nat → Int32) (sz : Nat) (z : Int32 × (Nat → Int32) × (Nat → Int32) × (Nat → Int32) × (Nat → Int32)) (hf : fX8_lighter w0 = some z) : Met l yX8_lighter (wsM yX8_lighter cX8_lighter 3 (some .int)) ({ frames := 5, cells := 0, slots := 0, locals := 111 } : Room) (va_Pc [.ref (h0 0)] (pWR (dC, dI) vwCl [(cy, .int)] (zW_8 cy h0 w0) sz)) (va_Qi (fun (q : Int32) (v : (Nat → Int32) × (Nat → Int32) × (Nat → Int32) × (Nat → Int32)) => (q, v) = z) (fun v => aWR (dC, dI) vwCl [(cy, .int)] (va_A (zW_8 cy h0 w0) sz) (zW_8 cy h0 (ups (ups (ups (ups w0 0 v.1) 3 v.2.1) 9 v.2.2.1) 11 v.2.2.2))) (va_A (zW_8 cy h0 w0) sz)) 0 0 (va_A (zW_8 cy h0 w0) sz) := by
  refine Met.ofW (cc := cX8_lighter) (maxL := 3) (ret := (some .int)) (by decide) rfl ?_
  intro p e s m args below meth c s₁ B hml hv
  obtain ⟨ha, hsz, hP, hK, hD0, hG⟩ := hv
  have hx := B.exec
  have hb := B.bytes
  have hr := B.returns
  have hts : ∀ w ∈ wsA, w.before args s = true := fun w h => atoms_spec (ws := wsM yX8_lighter cX8_lighter 3 (some .int)) B.pre w (List.mem_cons_of_mem _ h)
  have hown : s.vm.findClass RX8 = some m.cls := findClass_of_methodNamed B.named
  have hlocks := B.notSynchronized
  subst hsz
  have hD := hD0.self (sz := s.heap.size)
  generalize hAe : va_A (zW_8 cy h0 w0) s.heap.size = A at hD hG ⊢
  have hA : ∀ q : Nat, s.heap.size ≤ q → A q := fun q h => by rw [← hAe]; exact Or.inr h
  have hS : va_S A s.heap s.heap [] := va_S.rf
  have hP : va_P (dC, dI) vwCl (zW_8 cy h0 (ups (ups (ups (ups w0 0 (w0 0)) 3 (w0 3)) 9 (w0 9)) 11 (w0 11))) s.heap := hP
  have hD : va_D A (zW_8 cy h0 (ups (ups (ups (ups w0 0 (w0 0)) 3 (w0 3)) 9 (w0 9)) 11 (w0 11))) := hD
  obtain ⟨ls, hl, he⟩ := zent (m := m) (n := 3) (L := [(0, .ref (h0 0))]) ha (Nat.le_of_ble_eq_true rfl) rfl
  refine W.eq he ?_
  unfold fX8_lighter at hf
  have kE : ∀ (H : Heap) (locs : List Loc), va_P (dC, dI) vwCl (zW_8 cy h0 (ups (ups (ups (ups w0 0 (w0 0)) 3 (w0 3)) 9 (w0 9)) 11 (w0 11))) H → va_D A (zW_8 cy h0 (ups (ups (ups (ups w0 0 (w0 0)) 3 (w0 3)) 9 (w0 9)) 11 (w0 11))) → va_S A s.heap H locs → W p l e ({ frames := 5, cells := 0, slots := 0, locals := 111 } : Room) s m args below meth c H locs 0 0 (MQ below (va_Qi (fun (q : Int32) (v : (Nat → Int32) × (Nat → Int32) × (Nat → Int32) × (Nat → Int32)) => (q, v) = z) (fun v => aWR (dC, dI) vwCl [(cy, .int)] A (zW_8 cy h0 (ups (ups (ups (ups w0 0 v.1) 3 v.2.1) 9 v.2.2.1) 11 v.2.2.2))) A) args s 0 0 A) (F0 m 0 ls []) := by
    intro H locs hP hD hS
    refine lv_aload_n hx hb dX8_lighter_0 rfl (lv_at hl 0 rfl) ?_
    refine zget hx hb hts hown hK hP hin_8 0 rfl rfl 12 (by decide) mw_602 (v := .int (w0 0 12)) rfl dX8_lighter_1 ?_
    refine lv_if_ne (tgt := 17) hx hb dX8_lighter_4 (by decide) (fun hc => ?_) (fun hc => ?_)
    · have hf := it_f hc hf
      refine lv_aload_n hx hb dX8_lighter_17 rfl (lv_at hl 0 rfl) ?_
      obtain ⟨u2, hq1, hf⟩ := ob1_d hf
      refine zwvV (q := (RX8, TX8, 37)) (As := []) (rest := []) (u := u2) (wn := (zW_8 cy h0 (ups (ups (ups (ups w0 0 (w0 0)) 3 (w0 3)) 9 (w0 9)) 11 u2))) ⟨hx, hb, hml, hown, hts⟩ (kX8_keep l dC dI cy h0 (ups (ups (ups (ups w0 0 (w0 0)) 3 (w0 3)) 9 (w0 9)) 11 (w0 11)) H.size u2 hq1) mw_812 mw_813 mw_917 mw_9 mw_814 hdX8_keep rfl rfl ⟨Nat.le_of_ble_eq_true rfl, Nat.le_of_ble_eq_true rfl⟩ hP hK hG hS 0 rfl rfl hD hA [0, 1, 2, 3, 4, 5, 6, 7, 8, 9, 10, 11, 12, 13] [] [0, 1, 2, 3, 4, 5, 6, 7, 8, 9, 10, 11, 12, 13] rfl rfl rfl rfl (by decide) rfl rfl rfl hl.1 rfl (Nat.le_of_ble_eq_true rfl) dX8_lighter_18 ⟨Nat.zero_le _, Nat.zero_le _⟩ (fun H locs hP hD hS => ?_)
      refine lv_aload_n hx hb dX8_lighter_21 rfl (lv_at hl 0 rfl) ?_
      refine zget hx hb hts hown hK hP hin_8 0 rfl rfl 5 (by decide) mw_595 (v := .ref (h0 3)) rfl dX8_lighter_22 ?_
      refine lv_iconst (v := (5 : Int32)) hx hb dX8_lighter_25 (by decide) ?_
      refine lv_iconst (v := (0 : Int32)) hx hb dX8_lighter_26 (by decide) ?_
      obtain ⟨g3, hg3, hf⟩ := nm_d hf
      refine zast hx hb hK hP hD hS 3 (wn := (zW_8 cy h0 (ups (ups (ups (ups w0 0 (w0 0)) 3 g3) 9 (w0 9)) 11 u2))) hg3 rfl rfl (vin_lit (by decide)) rfl dX8_lighter_27 (fun H locs hP hD hS => ?_)
      refine lv_aload_n hx hb dX8_lighter_28 rfl (lv_at hl 0 rfl) ?_
      obtain ⟨r5, u6, hq4, hf⟩ := ob2_d hf
      refine zwiV (q := (RX8, TX8, 37)) (As := []) (rest := []) (r := r5) (u := u6) (wn := (zW_8 cy h0 (ups (ups (ups (ups w0 0 u6) 3 g3) 9 (w0 9)) 11 u2))) ⟨hx, hb, hml, hown, hts⟩ (kX8_tensLeft l dC dI cy h0 (ups (ups (ups (ups w0 0 (w0 0)) 3 g3) 9 (w0 9)) 11 u2) H.size (r5, u6) hq4) mw_823 mw_824 mw_919 mw_9 mw_825 hdX8_tensLeft rfl rfl ⟨Nat.le_of_ble_eq_true rfl, Nat.le_of_ble_eq_true rfl⟩ hP hK hG hS 0 rfl rfl hD hA [0, 1, 2, 3, 4, 5, 6, 7, 8, 9, 10, 11, 12, 13] [] [0, 1, 2, 3, 4, 5, 6, 7, 8, 9, 10, 11, 12, 13] rfl rfl rfl rfl (by decide) rfl rfl rfl hl.1 rfl (Nat.le_of_ble_eq_true rfl) dX8_lighter_29 ⟨Nat.zero_le _, Nat.zero_le _⟩ (fun H locs hP hD hS => ?_)
      refine lv_istore_n (lv' := [(1, .int r5), (0, .ref (h0 0))]) hx hb dX8_lighter_32 rfl hl (by decide) rfl (fun ls hl => ?_)
      refine lv_aload_n hx hb dX8_lighter_33 rfl (lv_at hl 1 rfl) ?_
      obtain ⟨u8, u9, hq7, hf⟩ := ob2_d hf
      refine zwvV (q := (RX8, TX8, 37)) (As := []) (rest := []) (u := (u8, u9)) (wn := (zW_8 cy h0 (ups (ups (ups (ups w0 0 u8) 3 u9) 9 (w0 9)) 11 u2))) ⟨hx, hb, hml, hown, hts⟩ (kX8_again l dC dI cy h0 (ups (ups (ups (ups w0 0 u6) 3 g3) 9 (w0 9)) 11 u2) H.size (u8, u9) hq7) mw_815 mw_816 mw_918 mw_9 mw_817 hdX8_again rfl rfl ⟨Nat.le_of_ble_eq_true rfl, Nat.le_of_ble_eq_true rfl⟩ hP hK hG hS 0 rfl rfl hD hA [0, 1, 2, 3, 4, 5, 6, 7, 8, 9, 10, 11, 12, 13] [] [0, 1, 2, 3, 4, 5, 6, 7, 8, 9, 10, 11, 12, 13] rfl rfl rfl rfl (by decide) rfl rfl rfl hl.1 rfl (Nat.le_of_ble_eq_true rfl) dX8_lighter_34 ⟨Nat.zero_le _, Nat.zero_le _⟩ (fun H locs hP hD hS => ?_)
      refine lv_aload_n hx hb dX8_lighter_37 rfl (lv_at hl 1 rfl) ?_
      obtain ⟨r11, u12, hq10, hf⟩ := ob2_d hf
      refine zwiV (q := (RX8, TX8, 37)) (As := []) (rest := []) (r := r11) (u := u12) (wn := (zW_8 cy h0 (ups (ups (ups (ups w0 0 u12) 3 u9) 9 (w0 9)) 11 u2))) ⟨hx, hb, hml, hown, hts⟩ (kX8_tensLeft l dC dI cy h0 (ups (ups (ups (ups w0 0 u8) 3 u9) 9 (w0 9)) 11 u2) H.size (r11, u12) hq10) mw_823 mw_824 mw_919 mw_9 mw_825 hdX8_tensLeft rfl rfl ⟨Nat.le_of_ble_eq_true rfl, Nat.le_of_ble_eq_true rfl⟩ hP hK hG hS 0 rfl rfl hD hA [0, 1, 2, 3, 4, 5, 6, 7, 8, 9, 10, 11, 12, 13] [] [0, 1, 2, 3, 4, 5, 6, 7, 8, 9, 10, 11, 12, 13] rfl rfl rfl rfl (by decide) rfl rfl rfl hl.1 rfl (Nat.le_of_ble_eq_true rfl) dX8_lighter_38 ⟨Nat.zero_le _, Nat.zero_le _⟩ (fun H locs hP hD hS => ?_)
      refine lv_istore_n (lv' := [(2, .int r11), (1, .int r5), (0, .ref (h0 0))]) hx hb dX8_lighter_41 rfl hl (by decide) rfl (fun ls hl => ?_)
      refine lv_aload_n hx hb dX8_lighter_42 rfl (lv_at hl 2 rfl) ?_
      obtain ⟨u14, u15, hq13, hf⟩ := ob2_d hf
      refine zwvV (q := (RX8, TX8, 37)) (As := []) (rest := []) (u := (u14, u15)) (wn := (zW_8 cy h0 (ups (ups (ups (ups w0 0 u14) 3 u15) 9 (w0 9)) 11 u2))) ⟨hx, hb, hml, hown, hts⟩ (kX8_again l dC dI cy h0 (ups (ups (ups (ups w0 0 u12) 3 u9) 9 (w0 9)) 11 u2) H.size (u14, u15) hq13) mw_815 mw_816 mw_918 mw_9 mw_817 hdX8_again rfl rfl ⟨Nat.le_of_ble_eq_true rfl, Nat.le_of_ble_eq_true rfl⟩ hP hK hG hS 0 rfl rfl hD hA [0, 1, 2, 3, 4, 5, 6, 7, 8, 9, 10, 11, 12, 13] [] [0, 1, 2, 3, 4, 5, 6, 7, 8, 9, 10, 11, 12, 13] rfl rfl rfl rfl (by decide) rfl rfl rfl hl.1 rfl (Nat.le_of_ble_eq_true rfl) dX8_lighter_43 ⟨Nat.zero_le _, Nat.zero_le _⟩ (fun H locs hP hD hS => ?_)
      refine lv_iload_n hx hb dX8_lighter_46 rfl (lv_at hl 1 rfl) ?_
      refine lv_iload_n hx hb dX8_lighter_47 rfl (lv_at hl 0 rfl) ?_
      refine lv_isub hx hb dX8_lighter_48 ?_
      exact zretI hx hb hr hlocks hP hK hD hS hf rfl dX8_lighter_49
    · have hf := it_t hc hf
      refine lv_ldc (v := (1000000000 : Int32)) hx hb hown (hts _ mw_822) dX8_lighter_7 ?_
      refine lv_aload_n hx hb dX8_lighter_9 rfl (lv_at hl 0 rfl) ?_
      refine lv_bipush (v := (-3 : Int32)) hx hb dX8_lighter_10 (by decide) ?_
      obtain ⟨r17, u18, hq16, hf⟩ := ob2_d hf
      refine zwiV (q := (RX8, TX8, 37)) (As := [.int (-3 : Int32)]) (rest := [.int (1000000000 : Int32)]) (r := r17) (u := u18) (wn := (zW_8 cy h0 (ups (ups (ups (ups w0 0 (w0 0)) 3 (w0 3)) 9 u18) 11 (w0 11)))) ⟨hx, hb, hml, hown, hts⟩ (kX8_no l dC dI cy h0 (ups (ups (ups (ups w0 0 (w0 0)) 3 (w0 3)) 9 (w0 9)) 11 (w0 11)) (-3 : Int32) H.size (r17, u18) hq16) mw_668 mw_669 mw_898 mw_9 mw_670 hdX8_no rfl rfl ⟨Nat.le_of_ble_eq_true rfl, Nat.le_of_ble_eq_true rfl⟩ hP hK hG hS 0 rfl rfl hD hA [0, 1, 2, 3, 4, 5, 6, 7, 8, 9, 10, 11, 12, 13] [] [0, 1, 2, 3, 4, 5, 6, 7, 8, 9, 10, 11, 12, 13] rfl rfl rfl rfl (by decide) rfl rfl rfl hl.1 rfl (Nat.le_of_ble_eq_true rfl) dX8_lighter_12 ⟨Nat.zero_le _, Nat.zero_le _⟩ (fun H locs hP hD hS => ?_)
      refine lv_isub hx hb dX8_lighter_15 ?_
      exact zretI hx hb hr hlocks hP hK hD hS hf rfl dX8_lighter_16
  exact kE s.heap [] hP hD hS
set_option maxHeartbeats 4000000 in
set_option maxRecDepth 100000 in
theorem kX8_holds (l : Launch) (dC : Nat → ClassId) (dI : Nat → Nat → Nat) (cy : ClassId) (h0 : Nat → Nat) (w0 : Nat → Nat → Int32) (x1 : Int32) (x2 : Int32) (x3 : Int32) (sz : Nat) (z : Int32 × (Nat → Int32)) (hf : fX8_holds w0 x1 x2 x3 = some z) : Met l yX8_holds (wsM yX8_holds cX8_holds 5 (some .int)) ({ frames := 1, cells := 0, slots := 0, locals := 21 } : Room) (va_Pc [.ref (h0 0), .int x1, .int x2, .int x3] (pWR (dC, dI) vwCl [(cy, .int)] (zW_8 cy h0 w0) sz)) (va_Qi (fun (q : Int32) (v : (Nat → Int32)) => (q, v) = z) (fun v => aWR (dC, dI) vwCl [(cy, .int)] (va_A (zW_8 cy h0 w0) sz) (zW_8 cy h0 (ups w0 9 v))) (va_A (zW_8 cy h0 w0) sz)) 0 0 (va_A (zW_8 cy h0 w0) sz) := by
  refine Met.ofW (cc := cX8_holds) (maxL := 5) (ret := (some .int)) (by decide) rfl ?_
  intro p e s m args below meth c s₁ B hml hv
  obtain ⟨ha, hsz, hP, hK, hD0, hG⟩ := hv
  have hx := B.exec
  have hb := B.bytes
  have hr := B.returns
  have hts : ∀ w ∈ wsA, w.before args s = true := fun w h => atoms_spec (ws := wsM yX8_holds cX8_holds 5 (some .int)) B.pre w (List.mem_cons_of_mem _ h)
  have hown : s.vm.findClass RX8 = some m.cls := findClass_of_methodNamed B.named
  have hlocks := B.notSynchronized
  subst hsz
  have hD := hD0.self (sz := s.heap.size)
  generalize hAe : va_A (zW_8 cy h0 w0) s.heap.size = A at hD hG ⊢
  have hA : ∀ q : Nat, s.heap.size ≤ q → A q := fun q h => by rw [← hAe]; exact Or.inr h
  have hS : va_S A s.heap s.heap [] := va_S.rf
  have hP : va_P (dC, dI) vwCl (zW_8 cy h0 (ups w0 9 (w0 9))) s.heap := hP
  have hD : va_D A (zW_8 cy h0 (ups w0 9 (w0 9))) := hD
  have k22 : ∀ (c0_9 : (Nat → Int32)) (H : Heap) (locs : List Loc) (ls : Array Slot), va_P (dC, dI) vwCl (zW_8 cy h0 (ups w0 9 c0_9)) H → va_D A (zW_8 cy h0 (ups w0 9 c0_9)) → va_S A s.heap H locs → lv_has ls 5 [(0, .ref (h0 0))] → (fX8_holds_22 w0) c0_9 = some z → W p l e ({ frames := 1, cells := 0, slots := 0, locals := 21 } : Room) s m args below meth c H locs 0 0 (MQ below (va_Qi (fun (q : Int32) (v : (Nat → Int32)) => (q, v) = z) (fun v => aWR (dC, dI) vwCl [(cy, .int)] A (zW_8 cy h0 (ups w0 9 v))) A) args s 0 0 A) (F0 m 22 ls []) := by
    intro c0_9 H locs ls hP hD hS hl hf
    unfold fX8_holds_22 at hf
    refine lv_aload_n hx hb dX8_holds_22 rfl (lv_at hl 0 rfl) ?_
    refine lv_bipush (v := (-4 : Int32)) hx hb dX8_holds_23 (by decide) ?_
    obtain ⟨r4, u5, hq3, hf⟩ := ob2_d hf
    refine zwiV (q := (RX8, TX8, 37)) (As := [.int (-4 : Int32)]) (rest := []) (r := r4) (u := u5) (wn := (zW_8 cy h0 (ups w0 9 u5))) ⟨hx, hb, hml, hown, hts⟩ (kX8_no l dC dI cy h0 (ups w0 9 c0_9) (-4 : Int32) H.size (r4, u5) hq3) mw_668 mw_669 mw_898 mw_9 mw_670 hdX8_no rfl rfl ⟨Nat.le_of_ble_eq_true rfl, Nat.le_of_ble_eq_true rfl⟩ hP hK hG hS 0 rfl rfl hD hA [0, 1, 2, 3, 4, 5, 6, 7, 8, 9, 10, 11, 12, 13] [] [0, 1, 2, 3, 4, 5, 6, 7, 8, 9, 10, 11, 12, 13] rfl rfl rfl rfl (by decide) rfl rfl rfl hl.1 rfl (Nat.le_of_ble_eq_true rfl) dX8_holds_25 ⟨Nat.zero_le _, Nat.zero_le _⟩ (fun H locs hP hD hS => ?_)
    exact zretI hx hb hr hlocks hP hK hD hS hf rfl dX8_holds_28
  have k39 : ∀ (c0_9 : (Nat → Int32)) (H : Heap) (locs : List Loc) (ls : Array Slot), va_P (dC, dI) vwCl (zW_8 cy h0 (ups w0 9 c0_9)) H → va_D A (zW_8 cy h0 (ups w0 9 c0_9)) → va_S A s.heap H locs → lv_has ls 5 [(0, .ref (h0 0))] → (fX8_holds_39 w0) c0_9 = some z → W p l e ({ frames := 1, cells := 0, slots := 0, locals := 21 } : Room) s m args below meth c H locs 0 0 (MQ below (va_Qi (fun (q : Int32) (v : (Nat → Int32)) => (q, v) = z) (fun v => aWR (dC, dI) vwCl [(cy, .int)] A (zW_8 cy h0 (ups w0 9 v))) A) args s 0 0 A) (F0 m 39 ls []) := by
    intro c0_9 H locs ls hP hD hS hl hf
    unfold fX8_holds_39 at hf
    refine lv_aload_n hx hb dX8_holds_39 rfl (lv_at hl 0 rfl) ?_
    refine lv_bipush (v := (-6 : Int32)) hx hb dX8_holds_40 (by decide) ?_
    obtain ⟨r7, u8, hq6, hf⟩ := ob2_d hf
    refine zwiV (q := (RX8, TX8, 37)) (As := [.int (-6 : Int32)]) (rest := []) (r := r7) (u := u8) (wn := (zW_8 cy h0 (ups w0 9 u8))) ⟨hx, hb, hml, hown, hts⟩ (kX8_no l dC dI cy h0 (ups w0 9 c0_9) (-6 : Int32) H.size (r7, u8) hq6) mw_668 mw_669 mw_898 mw_9 mw_670 hdX8_no rfl rfl ⟨Nat.le_of_ble_eq_true rfl, Nat.le_of_ble_eq_true rfl⟩ hP hK hG hS 0 rfl rfl hD hA [0, 1, 2, 3, 4, 5, 6, 7, 8, 9, 10, 11, 12, 13] [] [0, 1, 2, 3, 4, 5, 6, 7, 8, 9, 10, 11, 12, 13] rfl rfl rfl rfl (by decide) rfl rfl rfl hl.1 rfl (Nat.le_of_ble_eq_true rfl) dX8_holds_42 ⟨Nat.zero_le _, Nat.zero_le _⟩ (fun H locs hP hD hS => ?_)
    exact zretI hx hb hr hlocks hP hK hD hS hf rfl dX8_holds_45
  obtain ⟨ls, hl, he⟩ := zent (m := m) (n := 5) (L := [(0, .ref (h0 0)), (1, .int x1), (2, .int x2), (3, .int x3)]) ha (Nat.le_of_ble_eq_true rfl) rfl
  refine W.eq he ?_
  unfold fX8_holds at hf
  have kE : ∀ (H : Heap) (locs : List Loc), va_P (dC, dI) vwCl (zW_8 cy h0 (ups w0 9 (w0 9))) H → va_D A (zW_8 cy h0 (ups w0 9 (w0 9))) → va_S A s.heap H locs → W p l e ({ frames := 1, cells := 0, slots := 0, locals := 21 } : Room) s m args below meth c H locs 0 0 (MQ below (va_Qi (fun (q : Int32) (v : (Nat → Int32)) => (q, v) = z) (fun v => aWR (dC, dI) vwCl [(cy, .int)] A (zW_8 cy h0 (ups w0 9 v))) A) args s 0 0 A) (F0 m 0 ls []) := by
    intro H locs hP hD hS
    refine lv_aload_n hx hb dX8_holds_0 rfl (lv_at hl 0 rfl) ?_
    refine lv_iload_n hx hb dX8_holds_1 rfl (lv_at hl 1 rfl) ?_
    obtain ⟨r2, hq1, hf⟩ := ob1_d hf
    refine zroV (q := (RX8, TX8, 37)) (As := [.int x1]) (rest := []) (r := r2) ⟨hx, hb, hml, hown, hts⟩ (kX8_isCell l dC dI cy h0 (ups w0 9 (w0 9)) x1 r2 hq1) mw_685 mw_686 mw_900 mw_9 mw_687 hdX8_isCell rfl rfl ⟨Nat.le_of_ble_eq_true rfl, Nat.le_of_ble_eq_true rfl⟩ hP hK hG hS 0 rfl rfl [0, 1, 2, 3, 4, 5, 6, 7, 8, 9, 10, 11, 12, 13] rfl rfl hl.1 rfl (Nat.le_of_ble_eq_true rfl) dX8_holds_2 ⟨Nat.zero_le _, Nat.zero_le _⟩ ?_
    refine lv_if_ne (tgt := 14) hx hb dX8_holds_5 (by decide) (fun hc => ?_) (fun hc => ?_)
    · have hf := it_f hc hf
      refine lv_iload_n hx hb dX8_holds_14 rfl (lv_at hl 2 rfl) ?_
      refine lv_if_lt (tgt := 22) hx hb dX8_holds_15 (by decide) (fun hc => ?_) (fun hc => ?_)
      · have hf := it_t hc hf
        exact k22 (w0 9) H locs ls hP hD hS (lv_sub hl [0] rfl) hf
      · have hf := it_f hc hf
        refine lv_iload_n hx hb dX8_holds_18 rfl (lv_at hl 3 rfl) ?_
        refine lv_if_ge (tgt := 29) hx hb dX8_holds_19 (by decide) (fun hc => ?_) (fun hc => ?_)
        · have hf := it_t hc hf
          refine lv_iload_n hx hb dX8_holds_29 rfl (lv_at hl 2 rfl) ?_
          refine lv_iconst (v := (3 : Int32)) hx hb dX8_holds_30 (by decide) ?_
          refine lv_icmp_gt (tgt := 39) hx hb dX8_holds_31 (by decide) (fun hc => ?_) (fun hc => ?_)
          · have hf := it_t hc hf
            exact k39 (w0 9) H locs ls hP hD hS (lv_sub hl [0] rfl) hf
          · have hf := it_f hc hf
            refine lv_iload_n hx hb dX8_holds_34 rfl (lv_at hl 3 rfl) ?_
            refine lv_iconst (v := (5 : Int32)) hx hb dX8_holds_35 (by decide) ?_
            refine lv_icmp_le (tgt := 46) hx hb dX8_holds_36 (by decide) (fun hc => ?_) (fun hc => ?_)
            · have hf := it_t hc hf
              refine lv_aload_n hx hb dX8_holds_46 rfl (lv_at hl 0 rfl) ?_
              refine lv_iload_n hx hb dX8_holds_47 rfl (lv_at hl 1 rfl) ?_
              obtain ⟨r10, hq9, hf⟩ := ob1_d hf
              refine zroV (q := (RX8, TX8, 37)) (As := [.int x1]) (rest := []) (r := r10) ⟨hx, hb, hml, hown, hts⟩ (kX8_isSea l dC dI cy h0 (ups w0 9 (w0 9)) x1 r10 hq9) mw_710 mw_711 mw_902 mw_9 mw_712 hdX8_isSea rfl rfl ⟨Nat.le_of_ble_eq_true rfl, Nat.le_of_ble_eq_true rfl⟩ hP hK hG hS 0 rfl rfl [0, 1, 2, 3, 4, 5, 6, 7, 8, 9, 10, 11, 12, 13] rfl rfl hl.1 rfl (Nat.le_of_ble_eq_true rfl) dX8_holds_48 ⟨Nat.zero_le _, Nat.zero_le _⟩ ?_
              refine lv_if_ne (tgt := 61) hx hb dX8_holds_51 (by decide) (fun hc => ?_) (fun hc => ?_)
              · have hf := it_f hc hf
                refine lv_iconst (v := (2 : Int32)) hx hb dX8_holds_61 (by decide) ?_
                refine lv_bipush (v := (9 : Int32)) hx hb dX8_holds_62 (by decide) ?_
                refine lv_aload_n hx hb dX8_holds_64 rfl (lv_at hl 0 rfl) ?_
                refine zget hx hb hts hown hK hP hin_8 0 rfl rfl 2 (by decide) mw_592 (v := .ref (h0 1)) rfl dX8_holds_65 ?_
                refine lv_iload_n hx hb dX8_holds_68 rfl (lv_at hl 1 rfl) ?_
                obtain ⟨hin11, hf⟩ := gd_d hf
                refine va_iald hx hb hK hP 1 0 rfl rfl hin11 dX8_holds_69 ?_
                refine lv_iload_n hx hb dX8_holds_70 rfl (lv_at hl 3 rfl) ?_
                refine lv_iadd hx hb dX8_holds_71 ?_
                refine z_mmin hx hb hml hl.1 hts hown mw_729 (Nat.le_of_ble_eq_true rfl) (Nat.le_of_ble_eq_true rfl) (Nat.zero_le _) (Nat.zero_le _) dX8_holds_72 ?_
                refine lv_imul hx hb dX8_holds_75 ?_
                refine lv_iconst (v := (3 : Int32)) hx hb dX8_holds_76 (by decide) ?_
                refine lv_iadd hx hb dX8_holds_77 ?_
                refine lv_istore (lv' := [(4, .int (((2 : Int32) * (zmin (9 : Int32) (((w0 1) (x1).toNatClampNeg) + x3))) + (3 : Int32))), (0, .ref (h0 0)), (1, .int x1), (2, .int x2), (3, .int x3)]) hx hb dX8_holds_78 hl (by decide) rfl (fun ls hl => ?_)
                refine lv_iload hx hb dX8_holds_80 (lv_at hl 0 rfl) ?_
                refine lv_iload_n hx hb dX8_holds_82 rfl (lv_at hl 3 rfl) ?_
                refine lv_icmp_ge (tgt := 91) hx hb dX8_holds_83 (by decide) (fun hc => ?_) (fun hc => ?_)
                · have hf := it_t hc hf
                  refine lv_bipush (v := (9 : Int32)) hx hb dX8_holds_91 (by decide) ?_
                  refine lv_iload hx hb dX8_holds_93 (lv_at hl 0 rfl) ?_
                  refine lv_iload_n hx hb dX8_holds_95 rfl (lv_at hl 3 rfl) ?_
                  refine lv_isub hx hb dX8_holds_96 ?_
                  refine lv_iconst (v := (2 : Int32)) hx hb dX8_holds_97 (by decide) ?_
                  refine lv_idiv hx hb dX8_holds_98 (by decide) ?_
                  refine z_mmin hx hb hml hl.1 hts hown mw_729 (Nat.le_of_ble_eq_true rfl) (Nat.le_of_ble_eq_true rfl) (Nat.zero_le _) (Nat.zero_le _) dX8_holds_99 ?_
                  exact zretI hx hb hr hlocks hP hK hD hS hf rfl dX8_holds_102
                · have hf := it_f hc hf
                  refine lv_bipush (v := (-9 : Int32)) hx hb dX8_holds_86 (by decide) ?_
                  refine lv_goto (tgt := 102) hx hb dX8_holds_88 (by decide) ?_
                  exact zretI hx hb hr hlocks hP hK hD hS hf rfl dX8_holds_102
              · have hf := it_t hc hf
                refine lv_aload_n hx hb dX8_holds_54 rfl (lv_at hl 0 rfl) ?_
                refine lv_bipush (v := (-3 : Int32)) hx hb dX8_holds_55 (by decide) ?_
                obtain ⟨r13, u14, hq12, hf⟩ := ob2_d hf
                refine zwiV (q := (RX8, TX8, 37)) (As := [.int (-3 : Int32)]) (rest := []) (r := r13) (u := u14) (wn := (zW_8 cy h0 (ups w0 9 u14))) ⟨hx, hb, hml, hown, hts⟩ (kX8_no l dC dI cy h0 (ups w0 9 (w0 9)) (-3 : Int32) H.size (r13, u14) hq12) mw_668 mw_669 mw_898 mw_9 mw_670 hdX8_no rfl rfl ⟨Nat.le_of_ble_eq_true rfl, Nat.le_of_ble_eq_true rfl⟩ hP hK hG hS 0 rfl rfl hD hA [0, 1, 2, 3, 4, 5, 6, 7, 8, 9, 10, 11, 12, 13] [] [0, 1, 2, 3, 4, 5, 6, 7, 8, 9, 10, 11, 12, 13] rfl rfl rfl rfl (by decide) rfl rfl rfl hl.1 rfl (Nat.le_of_ble_eq_true rfl) dX8_holds_57 ⟨Nat.zero_le _, Nat.zero_le _⟩ (fun H locs hP hD hS => ?_)
                exact zretI hx hb hr hlocks hP hK hD hS hf rfl dX8_holds_60
            · have hf := it_f hc hf
              exact k39 (w0 9) H locs ls hP hD hS (lv_sub hl [0] rfl) hf
        · have hf := it_f hc hf
          exact k22 (w0 9) H locs ls hP hD hS (lv_sub hl [0] rfl) hf
    · have hf := it_t hc hf
      refine lv_aload_n hx hb dX8_holds_8 rfl (lv_at hl 0 rfl) ?_
      refine lv_iconst (v := (-1 : Int32)) hx hb dX8_holds_9 (by decide) ?_
      obtain ⟨r16, u17, hq15, hf⟩ := ob2_d hf
      refine zwiV (q := (RX8, TX8, 37)) (As := [.int (-1 : Int32)]) (rest := []) (r := r16) (u := u17) (wn := (zW_8 cy h0 (ups w0 9 u17))) ⟨hx, hb, hml, hown, hts⟩ (kX8_no l dC dI cy h0 (ups w0 9 (w0 9)) (-1 : Int32) H.size (r16, u17) hq15) mw_668 mw_669 mw_898 mw_9 mw_670 hdX8_no rfl rfl ⟨Nat.le_of_ble_eq_true rfl, Nat.le_of_ble_eq_true rfl⟩ hP hK hG hS 0 rfl rfl hD hA [0, 1, 2, 3, 4, 5, 6, 7, 8, 9, 10, 11, 12, 13] [] [0, 1, 2, 3, 4, 5, 6, 7, 8, 9, 10, 11, 12, 13] rfl rfl rfl rfl (by decide) rfl rfl rfl hl.1 rfl (Nat.le_of_ble_eq_true rfl) dX8_holds_10 ⟨Nat.zero_le _, Nat.zero_le _⟩ (fun H locs hP hD hS => ?_)
      exact zretI hx hb hr hlocks hP hK hD hS hf rfl dX8_holds_13
  exact kE s.heap [] hP hD hS
set_option maxHeartbeats 4000000 in
set_option maxRecDepth 100000 in
theorem kX8_beachBest (l : Launch) (dC : Nat → ClassId) (dI : Nat → Nat → Nat) (cy : ClassId) (h0 : Nat → Nat) (w0 : Nat → Nat → Int32) (z : Int32) (hf : fX8_beachBest w0 = some z) : Met l yX8_beachBest (wsM yX8_beachBest cX8_beachBest 6 (some .int)) ({ frames := 1, cells := 0, slots := 0, locals := 24 } : Room) (va_Pc [.ref (h0 0)] (pRO (dC, dI) vwCl [(cy, .int)] (zW_8 cy h0 w0))) (vp_Si (fun q => q = z)) 0 0 (fun _ => False) := by
  refine Met.ofW (cc := cX8_beachBest) (maxL := 6) (ret := (some .int)) (by decide) rfl ?_
  intro p e s m args below meth c s₁ B hml hv
  obtain ⟨ha, hP, hK, hG⟩ := hv
  have hx := B.exec
  have hb := B.bytes
  have hr := B.returns
  have hts : ∀ w ∈ wsA, w.before args s = true := fun w h => atoms_spec (ws := wsM yX8_beachBest cX8_beachBest 6 (some .int)) B.pre w (List.mem_cons_of_mem _ h)
  have hown : s.vm.findClass RX8 = some m.cls := findClass_of_methodNamed B.named
  have hlocks := B.notSynchronized
  have hS : va_S (fun _ => False) s.heap s.heap [] := va_S.rf
  have k125 : ∀ (s51 : Int32 → Int32 → Int32 → Option (Int32)) (hs51 : ∀ (x2 : Int32) (x3 : Int32) (x4 : Int32) (ls : Array Slot), lv_has ls 6 [(0, .ref (h0 0)), (2, .int x2), (3, .int x3), (4, .int x4)] → s51 x2 x3 x4 = some z → W p l e ({ frames := 1, cells := 0, slots := 0, locals := 24 } : Room) s m args below meth c s.heap [] 0 0 (MQ below (vp_Si (fun q => q = z)) args s 0 0 (fun _ => False)) (F0 m 51 ls [])), ∀ (x2 : Int32) (x3 : Int32) (x4 : Int32) (ls : Array Slot), lv_has ls 6 [(0, .ref (h0 0)), (2, .int x2), (3, .int x3), (4, .int x4)] → (fX8_beachBest_125 w0 s51) x2 x3 x4 = some z → W p l e ({ frames := 1, cells := 0, slots := 0, locals := 24 } : Room) s m args below meth c s.heap [] 0 0 (MQ below (vp_Si (fun q => q = z)) args s 0 0 (fun _ => False)) (F0 m 125 ls []) := by
    intro s51 hs51
    intro x2 x3 x4 ls hl hf
    unfold fX8_beachBest_125 at hf
    refine lv_zinc (lv' := [(4, .int (x4 + (1 : Int32))), (0, .ref (h0 0)), (2, .int x2), (3, .int x3)]) hx hb dX8_beachBest_125 hl (k := 3) rfl (v := (1 : Int32)) (by decide) (by decide) rfl (fun ls hl => ?_)
    refine lv_goto (tgt := 51) hx hb dX8_beachBest_128 (by decide) ?_
    exact hs51 x2 x3 (x4 + (1 : Int32)) ls (lv_sub hl [1, 2, 3, 0] rfl) hf
  have k100 : ∀ (s51 : Int32 → Int32 → Int32 → Option (Int32)) (hs51 : ∀ (x2 : Int32) (x3 : Int32) (x4 : Int32) (ls : Array Slot), lv_has ls 6 [(0, .ref (h0 0)), (2, .int x2), (3, .int x3), (4, .int x4)] → s51 x2 x3 x4 = some z → W p l e ({ frames := 1, cells := 0, slots := 0, locals := 24 } : Room) s m args below meth c s.heap [] 0 0 (MQ below (vp_Si (fun q => q = z)) args s 0 0 (fun _ => False)) (F0 m 51 ls [])), ∀ (x2 : Int32) (x3 : Int32) (x4 : Int32) (t0 : Int32) (t1 : Int32) (t2 : Int32) (t3 : Int32) (ls : Array Slot), lv_has ls 6 [(0, .ref (h0 0)), (2, .int x2), (3, .int x3), (4, .int x4)] → (fX8_beachBest_100 w0 s51) x2 x3 x4 t0 t1 t2 t3 = some z → W p l e ({ frames := 1, cells := 0, slots := 0, locals := 24 } : Room) s m args below meth c s.heap [] 0 0 (MQ below (vp_Si (fun q => q = z)) args s 0 0 (fun _ => False)) (F0 m 100 ls [.int t3, .int t2, .int t1, .int t0]) := by
    intro s51 hs51
    intro x2 x3 x4 t0 t1 t2 t3 ls hl hf
    unfold fX8_beachBest_100 at hf
    refine lv_iadd hx hb dX8_beachBest_100 ?_
    refine lv_imul hx hb dX8_beachBest_101 ?_
    refine lv_bipush (v := (100 : Int32)) hx hb dX8_beachBest_102 (by decide) ?_
    refine lv_idiv hx hb dX8_beachBest_104 (by decide) ?_
    refine z_mmin hx hb hml hl.1 hts hown mw_729 (Nat.le_of_ble_eq_true rfl) (Nat.le_of_ble_eq_true rfl) (Nat.zero_le _) (Nat.zero_le _) dX8_beachBest_105 ?_
    refine lv_istore (lv' := [(5, .int (zmin t0 ((t1 * (t2 + t3)) / (100 : Int32)))), (0, .ref (h0 0)), (2, .int x2), (3, .int x3), (4, .int x4)]) hx hb dX8_beachBest_108 hl (by decide) rfl (fun ls hl => ?_)
    refine lv_iload hx hb dX8_beachBest_110 (lv_at hl 0 rfl) ?_
    refine lv_iload_n hx hb dX8_beachBest_112 rfl (lv_at hl 3 rfl) ?_
    refine lv_icmp_gt (tgt := 119) hx hb dX8_beachBest_113 (by decide) (fun hc => ?_) (fun hc => ?_)
    · have hf := it_t hc hf
      refine lv_iload hx hb dX8_beachBest_119 (lv_at hl 0 rfl) ?_
      refine lv_istore_n (lv' := [(3, .int (zmin t0 ((t1 * (t2 + t3)) / (100 : Int32)))), (5, .int (zmin t0 ((t1 * (t2 + t3)) / (100 : Int32)))), (0, .ref (h0 0)), (2, .int x2), (4, .int x4)]) hx hb dX8_beachBest_121 rfl hl (by decide) rfl (fun ls hl => ?_)
      refine lv_iload hx hb dX8_beachBest_122 (lv_at hl 4 rfl) ?_
      refine lv_istore_n (lv' := [(2, .int x4), (3, .int (zmin t0 ((t1 * (t2 + t3)) / (100 : Int32)))), (5, .int (zmin t0 ((t1 * (t2 + t3)) / (100 : Int32)))), (0, .ref (h0 0)), (4, .int x4)]) hx hb dX8_beachBest_124 rfl hl (by decide) rfl (fun ls hl => ?_)
      exact k125 s51 hs51 x4 (zmin t0 ((t1 * (t2 + t3)) / (100 : Int32))) x4 ls (lv_sub hl [3, 0, 1, 4] rfl) hf
    · have hf := it_f hc hf
      refine lv_goto (tgt := 125) hx hb dX8_beachBest_116 (by decide) ?_
      exact k125 s51 hs51 x2 x3 x4 ls (lv_sub hl [1, 2, 3, 4] rfl) hf
  have k51 : ∀ n : Nat, ∀ (x2 : Int32) (x3 : Int32) (x4 : Int32) (ls : Array Slot), lv_has ls 6 [(0, .ref (h0 0)), (2, .int x2), (3, .int x3), (4, .int x4)] → (zl3 (fX8_beachBest_51 w0) n) x2 x3 x4 = some z → W p l e ({ frames := 1, cells := 0, slots := 0, locals := 24 } : Room) s m args below meth c s.heap [] 0 0 (MQ below (vp_Si (fun q => q = z)) args s 0 0 (fun _ => False)) (F0 m 51 ls []) := by
    intro n
    induction n with
    | zero =>
      intro x2 x3 x4 ls hl hf
      exact z_no hf
    | succ n hs51 =>
      intro x2 x3 x4 ls hl hf
      have hf : fX8_beachBest_51 w0 (zl3 (fX8_beachBest_51 w0) n) x2 x3 x4 = some z := hf
      generalize zl3 (fX8_beachBest_51 w0) n = s51 at hs51 hf
      unfold fX8_beachBest_51 at hf
      refine lv_iload hx hb dX8_beachBest_51 (lv_at hl 3 rfl) ?_
      refine lv_bipush (v := (30 : Int32)) hx hb dX8_beachBest_53 (by decide) ?_
      refine lv_icmp_gt (tgt := 131) hx hb dX8_beachBest_55 (by decide) (fun hc => ?_) (fun hc => ?_)
      · have hf := it_t hc hf
        refine lv_iload_n hx hb dX8_beachBest_131 rfl (lv_at hl 1 rfl) ?_
        exact zretR hx hb hr hlocks hf dX8_beachBest_132
      · have hf := it_f hc hf
        refine lv_aload_n hx hb dX8_beachBest_58 rfl (lv_at hl 0 rfl) ?_
        refine zget hx hb hts hown hK hP hin_8 0 rfl rfl 5 (by decide) mw_595 (v := .ref (h0 3)) rfl dX8_beachBest_59 ?_
        refine lv_iconst (v := (3 : Int32)) hx hb dX8_beachBest_62 (by decide) ?_
        refine va_iald hx hb hK hP 3 0 rfl rfl (vin_lit (by decide)) dX8_beachBest_63 ?_
        refine lv_aload_n hx hb dX8_beachBest_64 rfl (lv_at hl 0 rfl) ?_
        refine zget hx hb hts hown hK hP hin_8 0 rfl rfl 5 (by decide) mw_595 (v := .ref (h0 3)) rfl dX8_beachBest_65 ?_
        refine lv_iconst (v := (3 : Int32)) hx hb dX8_beachBest_68 (by decide) ?_
        refine va_iald hx hb hK hP 3 0 rfl rfl (vin_lit (by decide)) dX8_beachBest_69 ?_
        refine lv_bipush (v := (20 : Int32)) hx hb dX8_beachBest_70 (by decide) ?_
        refine lv_bipush (v := (10 : Int32)) hx hb dX8_beachBest_72 (by decide) ?_
        refine lv_aload_n hx hb dX8_beachBest_74 rfl (lv_at hl 0 rfl) ?_
        refine lv_iload hx hb dX8_beachBest_75 (lv_at hl 3 rfl) ?_
        obtain ⟨r2, hq1, hf⟩ := ob1_d hf
        refine zroV (q := (RX8, TX8, 37)) (As := [.int x4]) (rest := [.int (10 : Int32), .int (20 : Int32), .int ((w0 3) ((3 : Int32)).toNatClampNeg), .int ((w0 3) ((3 : Int32)).toNatClampNeg)]) (r := r2) ⟨hx, hb, hml, hown, hts⟩ (kX8_tide_ l dC dI cy h0 w0 x4 r2 hq1) mw_723 mw_724 mw_905 mw_9 mw_725 hdX8_tide_ rfl rfl ⟨Nat.le_of_ble_eq_true rfl, Nat.le_of_ble_eq_true rfl⟩ hP hK hG hS 0 rfl rfl [0, 1, 2, 3, 4, 5, 6, 7, 8, 9, 10, 11, 12, 13] rfl rfl hl.1 rfl (Nat.le_of_ble_eq_true rfl) dX8_beachBest_77 ⟨Nat.zero_le _, Nat.zero_le _⟩ ?_
        refine lv_imul hx hb dX8_beachBest_80 ?_
        refine lv_iadd hx hb dX8_beachBest_81 ?_
        refine lv_iload hx hb dX8_beachBest_82 (lv_at hl 3 rfl) ?_
        refine lv_aload_n hx hb dX8_beachBest_84 rfl (lv_at hl 0 rfl) ?_
        refine zget hx hb hts hown hK hP hin_8 0 rfl rfl 5 (by decide) mw_595 (v := .ref (h0 3)) rfl dX8_beachBest_85 ?_
        refine lv_bipush (v := (6 : Int32)) hx hb dX8_beachBest_88 (by decide) ?_
        refine va_iald hx hb hK hP 3 0 rfl rfl (vin_lit (by decide)) dX8_beachBest_90 ?_
        refine lv_icmp_ge (tgt := 99) hx hb dX8_beachBest_91 (by decide) (fun hc => ?_) (fun hc => ?_)
        · have hf := it_t hc hf
          refine lv_iconst (v := (0 : Int32)) hx hb dX8_beachBest_99 (by decide) ?_
          exact k100 s51 hs51 x2 x3 x4 ((w0 3) ((3 : Int32)).toNatClampNeg) ((w0 3) ((3 : Int32)).toNatClampNeg) ((20 : Int32) + ((10 : Int32) * r2)) (0 : Int32) ls (lv_sub hl [0, 1, 2, 3] rfl) hf
        · have hf := it_f hc hf
          refine lv_bipush (v := (30 : Int32)) hx hb dX8_beachBest_94 (by decide) ?_
          refine lv_goto (tgt := 100) hx hb dX8_beachBest_96 (by decide) ?_
          exact k100 s51 hs51 x2 x3 x4 ((w0 3) ((3 : Int32)).toNatClampNeg) ((w0 3) ((3 : Int32)).toNatClampNeg) ((20 : Int32) + ((10 : Int32) * r2)) (30 : Int32) ls (lv_sub hl [0, 1, 2, 3] rfl) hf
  have k30 : ∀ (s4 : Int32 → Int32 → Option (Int32)) (hs4 : ∀ (x1 : Int32) (x2 : Int32) (ls : Array Slot), lv_has ls 6 [(0, .ref (h0 0)), (1, .int x1), (2, .int x2)] → s4 x1 x2 = some z → W p l e ({ frames := 1, cells := 0, slots := 0, locals := 24 } : Room) s m args below meth c s.heap [] 0 0 (MQ below (vp_Si (fun q => q = z)) args s 0 0 (fun _ => False)) (F0 m 4 ls [])), ∀ (x1 : Int32) (x2 : Int32) (ls : Array Slot), lv_has ls 6 [(0, .ref (h0 0)), (1, .int x1), (2, .int x2)] → (fX8_beachBest_30 w0 s4) x1 x2 = some z → W p l e ({ frames := 1, cells := 0, slots := 0, locals := 24 } : Room) s m args below meth c s.heap [] 0 0 (MQ below (vp_Si (fun q => q = z)) args s 0 0 (fun _ => False)) (F0 m 30 ls []) := by
    intro s4 hs4
    intro x1 x2 ls hl hf
    unfold fX8_beachBest_30 at hf
    refine lv_zinc (lv' := [(2, .int (x2 + (1 : Int32))), (0, .ref (h0 0)), (1, .int x1)]) hx hb dX8_beachBest_30 hl (k := 2) rfl (v := (1 : Int32)) (by decide) (by decide) rfl (fun ls hl => ?_)
    refine lv_goto (tgt := 4) hx hb dX8_beachBest_33 (by decide) ?_
    exact hs4 x1 (x2 + (1 : Int32)) ls (lv_sub hl [1, 2, 0] rfl) hf
  have k4 : ∀ n : Nat, ∀ (x1 : Int32) (x2 : Int32) (ls : Array Slot), lv_has ls 6 [(0, .ref (h0 0)), (1, .int x1), (2, .int x2)] → (zl2 (fX8_beachBest_4 w0) n) x1 x2 = some z → W p l e ({ frames := 1, cells := 0, slots := 0, locals := 24 } : Room) s m args below meth c s.heap [] 0 0 (MQ below (vp_Si (fun q => q = z)) args s 0 0 (fun _ => False)) (F0 m 4 ls []) := by
    intro n
    induction n with
    | zero =>
      intro x1 x2 ls hl hf
      exact z_no hf
    | succ n hs4 =>
      intro x1 x2 ls hl hf
      have hf : fX8_beachBest_4 w0 (zl2 (fX8_beachBest_4 w0) n) x1 x2 = some z := hf
      generalize zl2 (fX8_beachBest_4 w0) n = s4 at hs4 hf
      unfold fX8_beachBest_4 at hf
      refine lv_iload_n hx hb dX8_beachBest_4 rfl (lv_at hl 2 rfl) ?_
      refine lv_aload_n hx hb dX8_beachBest_5 rfl (lv_at hl 0 rfl) ?_
      refine zget hx hb hts hown hK hP hin_8 0 rfl rfl 0 (by decide) mw_590 (v := .int (w0 0 0)) rfl dX8_beachBest_6 ?_
      refine lv_aload_n hx hb dX8_beachBest_9 rfl (lv_at hl 0 rfl) ?_
      refine zget hx hb hts hown hK hP hin_8 0 rfl rfl 1 (by decide) mw_591 (v := .int (w0 0 1)) rfl dX8_beachBest_10 ?_
      refine lv_imul hx hb dX8_beachBest_13 ?_
      refine lv_icmp_ge (tgt := 36) hx hb dX8_beachBest_14 (by decide) (fun hc => ?_) (fun hc => ?_)
      · have hf := it_t hc hf
        refine lv_iload_n hx hb dX8_beachBest_36 rfl (lv_at hl 1 rfl) ?_
        refine lv_if_ne (tgt := 43) hx hb dX8_beachBest_37 (by decide) (fun hc => ?_) (fun hc => ?_)
        · have hf := it_f hc hf
          refine lv_bipush (v := (-9 : Int32)) hx hb dX8_beachBest_43 (by decide) ?_
          refine lv_istore_n (lv' := [(2, .int (-9 : Int32)), (0, .ref (h0 0)), (1, .int x1)]) hx hb dX8_beachBest_45 rfl hl (by decide) rfl (fun ls hl => ?_)
          refine lv_iconst (v := (-1 : Int32)) hx hb dX8_beachBest_46 (by decide) ?_
          refine lv_istore_n (lv' := [(3, .int (-1 : Int32)), (2, .int (-9 : Int32)), (0, .ref (h0 0)), (1, .int x1)]) hx hb dX8_beachBest_47 rfl hl (by decide) rfl (fun ls hl => ?_)
          refine lv_iconst (v := (0 : Int32)) hx hb dX8_beachBest_48 (by decide) ?_
          refine lv_istore (lv' := [(4, .int (0 : Int32)), (3, .int (-1 : Int32)), (2, .int (-9 : Int32)), (0, .ref (h0 0)), (1, .int x1)]) hx hb dX8_beachBest_49 hl (by decide) rfl (fun ls hl => ?_)
          exact k51 zFU (-9 : Int32) (-1 : Int32) (0 : Int32) ls (lv_sub hl [3, 2, 1, 0] rfl) hf
        · have hf := it_t hc hf
          refine lv_bipush (v := (-9 : Int32)) hx hb dX8_beachBest_40 (by decide) ?_
          exact zretR hx hb hr hlocks hf dX8_beachBest_42
      · have hf := it_f hc hf
        refine lv_aload_n hx hb dX8_beachBest_17 rfl (lv_at hl 0 rfl) ?_
        refine zget hx hb hts hown hK hP hin_8 0 rfl rfl 2 (by decide) mw_592 (v := .ref (h0 1)) rfl dX8_beachBest_18 ?_
        refine lv_iload_n hx hb dX8_beachBest_21 rfl (lv_at hl 2 rfl) ?_
        obtain ⟨hin3, hf⟩ := gd_d hf
        refine va_iald hx hb hK hP 1 0 rfl rfl hin3 dX8_beachBest_22 ?_
        refine lv_bipush (v := (30 : Int32)) hx hb dX8_beachBest_23 (by decide) ?_
        refine lv_icmp_ne (tgt := 30) hx hb dX8_beachBest_25 (by decide) (fun hc => ?_) (fun hc => ?_)
        · have hf := it_f hc hf
          exact k30 s4 hs4 x1 x2 ls (lv_sub hl [0, 1, 2] rfl) hf
        · have hf := it_t hc hf
          refine lv_iconst (v := (1 : Int32)) hx hb dX8_beachBest_28 (by decide) ?_
          refine lv_istore_n (lv' := [(1, .int (1 : Int32)), (0, .ref (h0 0)), (2, .int x2)]) hx hb dX8_beachBest_29 rfl hl (by decide) rfl (fun ls hl => ?_)
          exact k30 s4 hs4 (1 : Int32) x2 ls (lv_sub hl [1, 0, 2] rfl) hf
  obtain ⟨ls, hl, he⟩ := zent (m := m) (n := 6) (L := [(0, .ref (h0 0))]) ha (Nat.le_of_ble_eq_true rfl) rfl
  refine W.eq he ?_
  unfold fX8_beachBest at hf
  have kE : W p l e ({ frames := 1, cells := 0, slots := 0, locals := 24 } : Room) s m args below meth c s.heap [] 0 0 (MQ below (vp_Si (fun q => q = z)) args s 0 0 (fun _ => False)) (F0 m 0 ls []) := by
    refine lv_iconst (v := (0 : Int32)) hx hb dX8_beachBest_0 (by decide) ?_
    refine lv_istore_n (lv' := [(1, .int (0 : Int32)), (0, .ref (h0 0))]) hx hb dX8_beachBest_1 rfl hl (by decide) rfl (fun ls hl => ?_)
    refine lv_iconst (v := (0 : Int32)) hx hb dX8_beachBest_2 (by decide) ?_
    refine lv_istore_n (lv' := [(2, .int (0 : Int32)), (1, .int (0 : Int32)), (0, .ref (h0 0))]) hx hb dX8_beachBest_3 rfl hl (by decide) rfl (fun ls hl => ?_)
    exact k4 zFU (0 : Int32) (0 : Int32) ls (lv_sub hl [2, 1, 0] rfl) hf
  exact kE
set_option maxHeartbeats 4000000 in
set_option maxRecDepth 100000 in
theorem kX8_act (l : Launch) (dC : Nat → ClassId) (dI : Nat → Nat → Nat) (cy : ClassId) (h0 : Nat → Nat) (w0 : Nat → Nat → Int32) (x1 : Int32) (sz : Nat) (z : (Nat → Int32)) (hf : fX8_act w0 x1 = some z) : Met l yX8_act (wsM yX8_act cX8_act 2 none) ({ frames := 4, cells := 0, slots := 0, locals := 87 } : Room) (va_Pc [.ref (h0 0), .int x1] (pWR (dC, dI) vwCl [(cy, .int)] (zW_8 cy h0 w0) sz)) (va_Qv (fun (v : (Nat → Int32)) => v = z) (fun v => aWR (dC, dI) vwCl [(cy, .int)] (va_A (zW_8 cy h0 w0) sz) (zW_8 cy h0 (ups w0 0 v))) (va_A (zW_8 cy h0 w0) sz)) 0 0 (va_A (zW_8 cy h0 w0) sz) := by
  refine Met.ofW (cc := cX8_act) (maxL := 2) (ret := none) (by decide) rfl ?_
  intro p e s m args below meth c s₁ B hml hv
  obtain ⟨ha, hsz, hP, hK, hD0, hG⟩ := hv
  have hx := B.exec
  have hb := B.bytes
  have hr := B.returns
  have hts : ∀ w ∈ wsA, w.before args s = true := fun w h => atoms_spec (ws := wsM yX8_act cX8_act 2 none) B.pre w (List.mem_cons_of_mem _ h)
  have hown : s.vm.findClass RX8 = some m.cls := findClass_of_methodNamed B.named
  have hlocks := B.notSynchronized
  subst hsz
  have hD := hD0.self (sz := s.heap.size)
  generalize hAe : va_A (zW_8 cy h0 w0) s.heap.size = A at hD hG ⊢
  have hA : ∀ q : Nat, s.heap.size ≤ q → A q := fun q h => by rw [← hAe]; exact Or.inr h
  have hS : va_S A s.heap s.heap [] := va_S.rf
  have hP : va_P (dC, dI) vwCl (zW_8 cy h0 (ups w0 0 (w0 0))) s.heap := hP
  have hD : va_D A (zW_8 cy h0 (ups w0 0 (w0 0))) := hD
  obtain ⟨ls, hl, he⟩ := zent (m := m) (n := 2) (L := [(0, .ref (h0 0)), (1, .int x1)]) ha (Nat.le_of_ble_eq_true rfl) rfl
  refine W.eq he ?_
  unfold fX8_act at hf
  have kE : ∀ (H : Heap) (locs : List Loc), va_P (dC, dI) vwCl (zW_8 cy h0 (ups w0 0 (w0 0))) H → va_D A (zW_8 cy h0 (ups w0 0 (w0 0))) → va_S A s.heap H locs → W p l e ({ frames := 4, cells := 0, slots := 0, locals := 87 } : Room) s m args below meth c H locs 0 0 (MQ below (va_Qv (fun (v : (Nat → Int32)) => v = z) (fun v => aWR (dC, dI) vwCl [(cy, .int)] A (zW_8 cy h0 (ups w0 0 v))) A) args s 0 0 A) (F0 m 0 ls []) := by
    intro H locs hP hD hS
    refine lv_iload_n hx hb dX8_act_0 rfl (lv_at hl 1 rfl) ?_
    by_cases hsw1 : x1 = (1 : Int32)
    · have hf := it_t hsw1 hf
      refine lv_tableIn (tgt := 32) (off := 31) hx hb dX8_act_1 (by rw [hsw1]; decide) (by rw [hsw1]; decide) (by rw [hsw1]; rfl) (by decide) ?_
      refine lv_aload_n hx hb dX8_act_32 rfl (lv_at hl 0 rfl) ?_
      refine lv_aload_n hx hb dX8_act_33 rfl (lv_at hl 0 rfl) ?_
      refine zget hx hb hts hown hK hP hin_8 0 rfl rfl 14 (by decide) mw_604 (v := .int (w0 0 14)) rfl dX8_act_34 ?_
      refine lv_iconst (v := (2 : Int32)) hx hb dX8_act_37 (by decide) ?_
      refine lv_iadd hx hb dX8_act_38 ?_
      refine lv_bipush (v := (8 : Int32)) hx hb dX8_act_39 (by decide) ?_
      refine lv_zrem hx hb dX8_act_41 (by decide) ?_
      obtain ⟨r2, hq1, hf⟩ := ob1_d hf
      refine zroV (q := (RX8, TX8, 37)) (As := [.int (zrem ((w0 0 14) + (2 : Int32)) (8 : Int32))]) (rest := []) (r := r2) ⟨hx, hb, hml, hown, hts⟩ (kX8_mayTurn l dC dI cy h0 (ups w0 0 (w0 0)) (zrem ((w0 0 14) + (2 : Int32)) (8 : Int32)) r2 hq1) mw_757 mw_758 mw_912 mw_9 mw_759 hdX8_mayTurn rfl rfl ⟨Nat.le_of_ble_eq_true rfl, Nat.le_of_ble_eq_true rfl⟩ hP hK hG hS 0 rfl rfl [0, 1, 2, 3, 4, 5, 6, 7, 8, 9, 10, 11, 12, 13] rfl rfl hl.1 rfl (Nat.le_of_ble_eq_true rfl) dX8_act_42 ⟨Nat.zero_le _, Nat.zero_le _⟩ ?_
      refine lv_if_eq (tgt := 141) hx hb dX8_act_45 (by decide) (fun hc => ?_) (fun hc => ?_)
      · have hf := it_t hc hf
        exact zretV hx hb hr hlocks hP hK hD hS hf rfl dX8_act_141
      · have hf := it_f hc hf
        refine lv_aload_n hx hb dX8_act_48 rfl (lv_at hl 0 rfl) ?_
        refine lv_aload_n hx hb dX8_act_49 rfl (lv_at hl 0 rfl) ?_
        refine zget hx hb hts hown hK hP hin_8 0 rfl rfl 14 (by decide) mw_604 (v := .int (w0 0 14)) rfl dX8_act_50 ?_
        refine lv_iconst (v := (2 : Int32)) hx hb dX8_act_53 (by decide) ?_
        refine lv_iadd hx hb dX8_act_54 ?_
        refine lv_bipush (v := (8 : Int32)) hx hb dX8_act_55 (by decide) ?_
        refine lv_zrem hx hb dX8_act_57 (by decide) ?_
        obtain ⟨u4, hq3, hf⟩ := ob1_d hf
        refine zwvV (q := (RX8, TX8, 37)) (As := [.int (zrem ((w0 0 14) + (2 : Int32)) (8 : Int32))]) (rest := []) (u := u4) (wn := (zW_8 cy h0 (ups w0 0 u4))) ⟨hx, hb, hml, hown, hts⟩ (kX8_wears l dC dI cy h0 (ups w0 0 (w0 0)) (zrem ((w0 0 14) + (2 : Int32)) (8 : Int32)) H.size u4 hq3) mw_767 mw_768 mw_914 mw_9 mw_769 hdX8_wears rfl rfl ⟨Nat.le_of_ble_eq_true rfl, Nat.le_of_ble_eq_true rfl⟩ hP hK hG hS 0 rfl rfl hD hA [0, 1, 2, 3, 4, 5, 6, 7, 8, 9, 10, 11, 12, 13] [] [0, 1, 2, 3, 4, 5, 6, 7, 8, 9, 10, 11, 12, 13] rfl rfl rfl rfl (by decide) rfl rfl rfl hl.1 rfl (Nat.le_of_ble_eq_true rfl) dX8_act_58 ⟨Nat.zero_le _, Nat.zero_le _⟩ (fun H locs hP hD hS => ?_)
        refine lv_goto (tgt := 141) hx hb dX8_act_61 (by decide) ?_
        exact zretV hx hb hr hlocks hP hK hD hS hf rfl dX8_act_141
    · have hf := it_f hsw1 hf
      by_cases hsw2 : x1 = (2 : Int32)
      · have hf := it_t hsw2 hf
        refine lv_tableIn (tgt := 64) (off := 63) hx hb dX8_act_1 (by rw [hsw2]; decide) (by rw [hsw2]; decide) (by rw [hsw2]; rfl) (by decide) ?_
        refine lv_aload_n hx hb dX8_act_64 rfl (lv_at hl 0 rfl) ?_
        refine lv_aload_n hx hb dX8_act_65 rfl (lv_at hl 0 rfl) ?_
        refine zget hx hb hts hown hK hP hin_8 0 rfl rfl 14 (by decide) mw_604 (v := .int (w0 0 14)) rfl dX8_act_66 ?_
        refine lv_bipush (v := (6 : Int32)) hx hb dX8_act_69 (by decide) ?_
        refine lv_iadd hx hb dX8_act_71 ?_
        refine lv_bipush (v := (8 : Int32)) hx hb dX8_act_72 (by decide) ?_
        refine lv_zrem hx hb dX8_act_74 (by decide) ?_
        obtain ⟨r6, hq5, hf⟩ := ob1_d hf
        refine zroV (q := (RX8, TX8, 37)) (As := [.int (zrem ((w0 0 14) + (6 : Int32)) (8 : Int32))]) (rest := []) (r := r6) ⟨hx, hb, hml, hown, hts⟩ (kX8_mayTurn l dC dI cy h0 (ups w0 0 (w0 0)) (zrem ((w0 0 14) + (6 : Int32)) (8 : Int32)) r6 hq5) mw_757 mw_758 mw_912 mw_9 mw_759 hdX8_mayTurn rfl rfl ⟨Nat.le_of_ble_eq_true rfl, Nat.le_of_ble_eq_true rfl⟩ hP hK hG hS 0 rfl rfl [0, 1, 2, 3, 4, 5, 6, 7, 8, 9, 10, 11, 12, 13] rfl rfl hl.1 rfl (Nat.le_of_ble_eq_true rfl) dX8_act_75 ⟨Nat.zero_le _, Nat.zero_le _⟩ ?_
        refine lv_if_eq (tgt := 141) hx hb dX8_act_78 (by decide) (fun hc => ?_) (fun hc => ?_)
        · have hf := it_t hc hf
          exact zretV hx hb hr hlocks hP hK hD hS hf rfl dX8_act_141
        · have hf := it_f hc hf
          refine lv_aload_n hx hb dX8_act_81 rfl (lv_at hl 0 rfl) ?_
          refine lv_aload_n hx hb dX8_act_82 rfl (lv_at hl 0 rfl) ?_
          refine zget hx hb hts hown hK hP hin_8 0 rfl rfl 14 (by decide) mw_604 (v := .int (w0 0 14)) rfl dX8_act_83 ?_
          refine lv_bipush (v := (6 : Int32)) hx hb dX8_act_86 (by decide) ?_
          refine lv_iadd hx hb dX8_act_88 ?_
          refine lv_bipush (v := (8 : Int32)) hx hb dX8_act_89 (by decide) ?_
          refine lv_zrem hx hb dX8_act_91 (by decide) ?_
          obtain ⟨u8, hq7, hf⟩ := ob1_d hf
          refine zwvV (q := (RX8, TX8, 37)) (As := [.int (zrem ((w0 0 14) + (6 : Int32)) (8 : Int32))]) (rest := []) (u := u8) (wn := (zW_8 cy h0 (ups w0 0 u8))) ⟨hx, hb, hml, hown, hts⟩ (kX8_wears l dC dI cy h0 (ups w0 0 (w0 0)) (zrem ((w0 0 14) + (6 : Int32)) (8 : Int32)) H.size u8 hq7) mw_767 mw_768 mw_914 mw_9 mw_769 hdX8_wears rfl rfl ⟨Nat.le_of_ble_eq_true rfl, Nat.le_of_ble_eq_true rfl⟩ hP hK hG hS 0 rfl rfl hD hA [0, 1, 2, 3, 4, 5, 6, 7, 8, 9, 10, 11, 12, 13] [] [0, 1, 2, 3, 4, 5, 6, 7, 8, 9, 10, 11, 12, 13] rfl rfl rfl rfl (by decide) rfl rfl rfl hl.1 rfl (Nat.le_of_ble_eq_true rfl) dX8_act_92 ⟨Nat.zero_le _, Nat.zero_le _⟩ (fun H locs hP hD hS => ?_)
          refine lv_goto (tgt := 141) hx hb dX8_act_95 (by decide) ?_
          exact zretV hx hb hr hlocks hP hK hD hS hf rfl dX8_act_141
      · have hf := it_f hsw2 hf
        by_cases hsw3 : x1 = (3 : Int32)
        · have hf := it_t hsw3 hf
          refine lv_tableIn (tgt := 98) (off := 97) hx hb dX8_act_1 (by rw [hsw3]; decide) (by rw [hsw3]; decide) (by rw [hsw3]; rfl) (by decide) ?_
          refine lv_aload_n hx hb dX8_act_98 rfl (lv_at hl 0 rfl) ?_
          obtain ⟨r10, hq9, hf⟩ := ob1_d hf
          refine zroV (q := (RX8, TX8, 37)) (As := []) (rest := []) (r := r10) ⟨hx, hb, hml, hown, hts⟩ (kX8_mayAnchor l dC dI cy h0 (ups w0 0 (w0 0)) r10 hq9) mw_782 mw_783 mw_915 mw_9 mw_784 hdX8_mayAnchor rfl rfl ⟨Nat.le_of_ble_eq_true rfl, Nat.le_of_ble_eq_true rfl⟩ hP hK hG hS 0 rfl rfl [0, 1, 2, 3, 4, 5, 6, 7, 8, 9, 10, 11, 12, 13] rfl rfl hl.1 rfl (Nat.le_of_ble_eq_true rfl) dX8_act_99 ⟨Nat.zero_le _, Nat.zero_le _⟩ ?_
          refine lv_if_eq (tgt := 141) hx hb dX8_act_102 (by decide) (fun hc => ?_) (fun hc => ?_)
          · have hf := it_t hc hf
            exact zretV hx hb hr hlocks hP hK hD hS hf rfl dX8_act_141
          · have hf := it_f hc hf
            refine lv_aload_n hx hb dX8_act_105 rfl (lv_at hl 0 rfl) ?_
            refine lv_iconst (v := (4 : Int32)) hx hb dX8_act_106 (by decide) ?_
            refine zput hx hb hts hown hK hP hD hS hin_8 tyX8 tyX8_ok nmX8 0 rfl rfl 22 (by decide) mw_612 rfl (v := .int (4 : Int32)) rfl rfl (Nat.le_of_ble_eq_true rfl) (wn := (zW_8 cy h0 (ups w0 0 (ups (w0 0) 22 (4 : Int32))))) rfl dX8_act_107 (fun H locs hP hD hS => ?_)
            refine lv_goto (tgt := 141) hx hb dX8_act_110 (by decide) ?_
            exact zretV hx hb hr hlocks hP hK hD hS hf rfl dX8_act_141
        · have hf := it_f hsw3 hf
          by_cases hsw4 : x1 = (4 : Int32)
          · have hf := it_t hsw4 hf
            refine lv_tableIn (tgt := 113) (off := 112) hx hb dX8_act_1 (by rw [hsw4]; decide) (by rw [hsw4]; decide) (by rw [hsw4]; rfl) (by decide) ?_
            refine lv_aload_n hx hb dX8_act_113 rfl (lv_at hl 0 rfl) ?_
            obtain ⟨r12, hq11, hf⟩ := ob1_d hf
            refine zroV (q := (RX8, TX8, 37)) (As := []) (rest := []) (r := r12) ⟨hx, hb, hml, hown, hts⟩ (kX8_ended l dC dI cy h0 (ups w0 0 (w0 0)) r12 hq11) mw_737 mw_738 mw_908 mw_9 mw_739 hdX8_ended rfl rfl ⟨Nat.le_of_ble_eq_true rfl, Nat.le_of_ble_eq_true rfl⟩ hP hK hG hS 0 rfl rfl [0, 1, 2, 3, 4, 5, 6, 7, 8, 9, 10, 11, 12, 13] rfl rfl hl.1 rfl (Nat.le_of_ble_eq_true rfl) dX8_act_114 ⟨Nat.zero_le _, Nat.zero_le _⟩ ?_
            refine lv_if_ne (tgt := 141) hx hb dX8_act_117 (by decide) (fun hc => ?_) (fun hc => ?_)
            · have hf := it_f hc hf
              exact zretV hx hb hr hlocks hP hK hD hS hf rfl dX8_act_141
            · have hf := it_t hc hf
              refine lv_aload_n hx hb dX8_act_120 rfl (lv_at hl 0 rfl) ?_
              refine zget hx hb hts hown hK hP hin_8 0 rfl rfl 15 (by decide) mw_605 (v := .int (w0 0 15)) rfl dX8_act_121 ?_
              refine lv_iconst (v := (3 : Int32)) hx hb dX8_act_124 (by decide) ?_
              refine lv_icmp_ge (tgt := 141) hx hb dX8_act_125 (by decide) (fun hc => ?_) (fun hc => ?_)
              · have hf := it_t hc hf
                exact zretV hx hb hr hlocks hP hK hD hS hf rfl dX8_act_141
              · have hf := it_f hc hf
                refine lv_aload_n hx hb dX8_act_128 rfl (lv_at hl 0 rfl) ?_
                refine lv_dup hx hb dX8_act_129 rfl ?_
                refine zget hx hb hts hown hK hP hin_8 0 rfl rfl 15 (by decide) mw_605 (v := .int (w0 0 15)) rfl dX8_act_130 ?_
                refine lv_iconst (v := (1 : Int32)) hx hb dX8_act_133 (by decide) ?_
                refine lv_iadd hx hb dX8_act_134 ?_
                refine zput hx hb hts hown hK hP hD hS hin_8 tyX8 tyX8_ok nmX8 0 rfl rfl 15 (by decide) mw_605 rfl (v := .int ((w0 0 15) + (1 : Int32))) rfl rfl (Nat.le_of_ble_eq_true rfl) (wn := (zW_8 cy h0 (ups w0 0 (ups (w0 0) 15 ((w0 0 15) + (1 : Int32)))))) rfl dX8_act_135 (fun H locs hP hD hS => ?_)
                refine lv_goto (tgt := 141) hx hb dX8_act_138 (by decide) ?_
                exact zretV hx hb hr hlocks hP hK hD hS hf rfl dX8_act_141
          · have hf := it_f hsw4 hf
            refine lv_tableOut (tgt := 141) hx hb dX8_act_1 (tsw_out (fun n h1 h2 => ?_)) (by decide) ?_
            · rcases (show n = 1 ∨ n = 2 ∨ n = 3 ∨ n = 4 by omega) with rfl | rfl | rfl | rfl
              · exact ti_ne hsw1 rfl
              · exact ti_ne hsw2 rfl
              · exact ti_ne hsw3 rfl
              · exact ti_ne hsw4 rfl
            · exact zretV hx hb hr hlocks hP hK hD hS hf rfl dX8_act_141
  exact kE s.heap [] hP hD hS
set_option maxHeartbeats 4000000 in
set_option maxRecDepth 100000 in
theorem kX8_plan (l : Launch) (dC : Nat → ClassId) (dI : Nat → Nat → Nat) (cy : ClassId) (h0 : Nat → Nat) (w0 : Nat → Nat → Int32) (x1 : Int32) (x2 : Int32) (sz : Nat) (z : Int32 × (Nat → Int32) × (Nat → Int32) × (Nat → Int32) × (Nat → Int32)) (hf : fX8_plan w0 x1 x2 = some z) : Met l yX8_plan (wsM yX8_plan cX8_plan 9 (some .int)) ({ frames := 5, cells := 0, slots := 0, locals := 108 } : Room) (va_Pc [.ref (h0 0), .int x1, .int x2] (pWR (dC, dI) vwCl [(cy, .int)] (zW_8 cy h0 w0) sz)) (va_Qi (fun (q : Int32) (v : (Nat → Int32) × (Nat → Int32) × (Nat → Int32) × (Nat → Int32)) => (q, v) = z) (fun v => aWR (dC, dI) vwCl [(cy, .int)] (va_A (zW_8 cy h0 w0) sz) (zW_8 cy h0 (ups (ups (ups (ups w0 0 v.1) 3 v.2.1) 9 v.2.2.1) 11 v.2.2.2))) (va_A (zW_8 cy h0 w0) sz)) 0 0 (va_A (zW_8 cy h0 w0) sz) := by
  refine Met.ofW (cc := cX8_plan) (maxL := 9) (ret := (some .int)) (by decide) rfl ?_
  intro p e s m args below meth c s₁ B hml hv
  obtain ⟨ha, hsz, hP, hK, hD0, hG⟩ := hv
  have hx := B.exec
  have hb := B.bytes
  have hr := B.returns
  have hts : ∀ w ∈ wsA, w.before args s = true := fun w h => atoms_spec (ws := wsM yX8_plan cX8_plan 9 (some .int)) B.pre w (List.mem_cons_of_mem _ h)
  have hown : s.vm.findClass RX8 = some m.cls := findClass_of_methodNamed B.named
  have hlocks := B.notSynchronized
  subst hsz
  have hD := hD0.self (sz := s.heap.size)
  generalize hAe : va_A (zW_8 cy h0 w0) s.heap.size = A at hD hG ⊢
  have hA : ∀ q : Nat, s.heap.size ≤ q → A q := fun q h => by rw [← hAe]; exact Or.inr h
  have hS : va_S A s.heap s.heap [] := va_S.rf
  have hP : va_P (dC, dI) vwCl (zW_8 cy h0 (ups (ups (ups (ups w0 0 (w0 0)) 3 (w0 3)) 9 (w0 9)) 11 (w0 11))) s.heap := hP
  have hD : va_D A (zW_8 cy h0 (ups (ups (ups (ups w0 0 (w0 0)) 3 (w0 3)) 9 (w0 9)) 11 (w0 11))) := hD
  have k9 : ∀ (c0_0 : (Nat → Int32)) (c0_3 : (Nat → Int32)) (c0_9 : (Nat → Int32)) (c0_11 : (Nat → Int32)) (H : Heap) (locs : List Loc) (ls : Array Slot), va_P (dC, dI) vwCl (zW_8 cy h0 (ups (ups (ups (ups w0 0 c0_0) 3 c0_3) 9 c0_9) 11 c0_11)) H → va_D A (zW_8 cy h0 (ups (ups (ups (ups w0 0 c0_0) 3 c0_3) 9 c0_9) 11 c0_11)) → va_S A s.heap H locs → lv_has ls 9 [(0, .ref (h0 0))] → (fX8_plan_9 w0) c0_0 c0_3 c0_9 c0_11 = some z → W p l e ({ frames := 5, cells := 0, slots := 0, locals := 108 } : Room) s m args below meth c H locs 0 0 (MQ below (va_Qi (fun (q : Int32) (v : (Nat → Int32) × (Nat → Int32) × (Nat → Int32) × (Nat → Int32)) => (q, v) = z) (fun v => aWR (dC, dI) vwCl [(cy, .int)] A (zW_8 cy h0 (ups (ups (ups (ups w0 0 v.1) 3 v.2.1) 9 v.2.2.1) 11 v.2.2.2))) A) args s 0 0 A) (F0 m 9 ls []) := by
    intro c0_0 c0_3 c0_9 c0_11 H locs ls hP hD hS hl hf
    unfold fX8_plan_9 at hf
    refine lv_aload_n hx hb dX8_plan_9 rfl (lv_at hl 0 rfl) ?_
    refine lv_bipush (v := (-4 : Int32)) hx hb dX8_plan_10 (by decide) ?_
    obtain ⟨r2, u3, hq1, hf⟩ := ob2_d hf
    refine zwiV (q := (RX8, TX8, 37)) (As := [.int (-4 : Int32)]) (rest := []) (r := r2) (u := u3) (wn := (zW_8 cy h0 (ups (ups (ups (ups w0 0 c0_0) 3 c0_3) 9 u3) 11 c0_11))) ⟨hx, hb, hml, hown, hts⟩ (kX8_no l dC dI cy h0 (ups (ups (ups (ups w0 0 c0_0) 3 c0_3) 9 c0_9) 11 c0_11) (-4 : Int32) H.size (r2, u3) hq1) mw_668 mw_669 mw_898 mw_9 mw_670 hdX8_no rfl rfl ⟨Nat.le_of_ble_eq_true rfl, Nat.le_of_ble_eq_true rfl⟩ hP hK hG hS 0 rfl rfl hD hA [0, 1, 2, 3, 4, 5, 6, 7, 8, 9, 10, 11, 12, 13] [] [0, 1, 2, 3, 4, 5, 6, 7, 8, 9, 10, 11, 12, 13] rfl rfl rfl rfl (by decide) rfl rfl rfl hl.1 rfl (Nat.le_of_ble_eq_true rfl) dX8_plan_12 ⟨Nat.zero_le _, Nat.zero_le _⟩ (fun H locs hP hD hS => ?_)
    exact zretI hx hb hr hlocks hP hK hD hS hf rfl dX8_plan_15
  have k177 : ∀ n : Nat, ∀ (c0_0 : (Nat → Int32)) (c0_3 : (Nat → Int32)) (c0_9 : (Nat → Int32)) (c0_11 : (Nat → Int32)) (x2 : Int32) (x4 : Int32) (x6 : Int32) (H : Heap) (locs : List Loc) (ls : Array Slot), va_P (dC, dI) vwCl (zW_8 cy h0 (ups (ups (ups (ups w0 0 c0_0) 3 c0_3) 9 c0_9) 11 c0_11)) H → va_D A (zW_8 cy h0 (ups (ups (ups (ups w0 0 c0_0) 3 c0_3) 9 c0_9) 11 c0_11)) → va_S A s.heap H locs → lv_has ls 9 [(2, .int x2), (4, .int x4), (6, .int x6)] → (zl7 (fX8_plan_177 w0) n) c0_0 c0_3 c0_9 c0_11 x2 x4 x6 = some z → W p l e ({ frames := 5, cells := 0, slots := 0, locals := 108 } : Room) s m args below meth c H locs 0 0 (MQ below (va_Qi (fun (q : Int32) (v : (Nat → Int32) × (Nat → Int32) × (Nat → Int32) × (Nat → Int32)) => (q, v) = z) (fun v => aWR (dC, dI) vwCl [(cy, .int)] A (zW_8 cy h0 (ups (ups (ups (ups w0 0 v.1) 3 v.2.1) 9 v.2.2.1) 11 v.2.2.2))) A) args s 0 0 A) (F0 m 177 ls []) := by
    intro n
    induction n with
    | zero =>
      intro c0_0 c0_3 c0_9 c0_11 x2 x4 x6 H locs ls hP hD hS hl hf
      exact z_no hf
    | succ n hs177 =>
      intro c0_0 c0_3 c0_9 c0_11 x2 x4 x6 H locs ls hP hD hS hl hf
      have hf : fX8_plan_177 w0 (zl7 (fX8_plan_177 w0) n) c0_0 c0_3 c0_9 c0_11 x2 x4 x6 = some z := hf
      generalize zl7 (fX8_plan_177 w0) n = s177 at hs177 hf
      unfold fX8_plan_177 at hf
      refine lv_iload hx hb dX8_plan_177 (lv_at hl 2 rfl) ?_
      refine lv_iload_n hx hb dX8_plan_179 rfl (lv_at hl 0 rfl) ?_
      refine lv_icmp_le (tgt := 195) hx hb dX8_plan_180 (by decide) (fun hc => ?_) (fun hc => ?_)
      · have hf := it_t hc hf
        refine lv_iload hx hb dX8_plan_195 (lv_at hl 1 rfl) ?_
        refine lv_iconst (v := (5 : Int32)) hx hb dX8_plan_197 (by decide) ?_
        refine lv_zrem hx hb dX8_plan_198 (by decide) ?_
        exact zretI hx hb hr hlocks hP hK hD hS hf rfl dX8_plan_199
      · have hf := it_f hc hf
        refine lv_iload hx hb dX8_plan_183 (lv_at hl 1 rfl) ?_
        refine lv_iconst (v := (5 : Int32)) hx hb dX8_plan_185 (by decide) ?_
        refine lv_idiv hx hb dX8_plan_186 (by decide) ?_
        refine lv_istore (lv' := [(4, .int (x4 / (5 : Int32))), (2, .int x2), (6, .int x6)]) hx hb dX8_plan_187 hl (by decide) rfl (fun ls hl => ?_)
        refine lv_zinc (lv' := [(6, .int (x6 + (-1 : Int32))), (4, .int (x4 / (5 : Int32))), (2, .int x2)]) hx hb dX8_plan_189 hl (k := 2) rfl (v := (-1 : Int32)) (by decide) (by decide) rfl (fun ls hl => ?_)
        refine lv_goto (tgt := 177) hx hb dX8_plan_192 (by decide) ?_
        exact hs177 c0_0 c0_3 c0_9 c0_11 x2 (x4 / (5 : Int32)) (x6 + (-1 : Int32)) H locs ls hP hD hS (lv_sub hl [2, 1, 0] rfl) hf
  have k155 : ∀ (s84 : (Nat → Int32) → (Nat → Int32) → (Nat → Int32) → (Nat → Int32) → Int32 → Int32 → Int32 → Int32 → Int32 → Int32 → Option (Int32 × (Nat → Int32) × (Nat → Int32) × (Nat → Int32) × (Nat → Int32))) (hs84 : ∀ (c0_0 : (Nat → Int32)) (c0_3 : (Nat → Int32)) (c0_9 : (Nat → Int32)) (c0_11 : (Nat → Int32)) (x1 : Int32) (x2 : Int32) (x3 : Int32) (x4 : Int32) (x5 : Int32) (x6 : Int32) (H : Heap) (locs : List Loc) (ls : Array Slot), va_P (dC, dI) vwCl (zW_8 cy h0 (ups (ups (ups (ups w0 0 c0_0) 3 c0_3) 9 c0_9) 11 c0_11)) H → va_D A (zW_8 cy h0 (ups (ups (ups (ups w0 0 c0_0) 3 c0_3) 9 c0_9) 11 c0_11)) → va_S A s.heap H locs → lv_has ls 9 [(0, .ref (h0 0)), (1, .int x1), (2, .int x2), (3, .int x3), (4, .int x4), (5, .int x5), (6, .int x6)] → s84 c0_0 c0_3 c0_9 c0_11 x1 x2 x3 x4 x5 x6 = some z → W p l e ({ frames := 5, cells := 0, slots := 0, locals := 108 } : Room) s m args below meth c H locs 0 0 (MQ below (va_Qi (fun (q : Int32) (v : (Nat → Int32) × (Nat → Int32) × (Nat → Int32) × (Nat → Int32)) => (q, v) = z) (fun v => aWR (dC, dI) vwCl [(cy, .int)] A (zW_8 cy h0 (ups (ups (ups (ups w0 0 v.1) 3 v.2.1) 9 v.2.2.1) 11 v.2.2.2))) A) args s 0 0 A) (F0 m 84 ls [])), ∀ (c0_0 : (Nat → Int32)) (c0_3 : (Nat → Int32)) (c0_9 : (Nat → Int32)) (c0_11 : (Nat → Int32)) (x1 : Int32) (x2 : Int32) (x3 : Int32) (x4 : Int32) (x5 : Int32) (x6 : Int32) (H : Heap) (locs : List Loc) (ls : Array Slot), va_P (dC, dI) vwCl (zW_8 cy h0 (ups (ups (ups (ups w0 0 c0_0) 3 c0_3) 9 c0_9) 11 c0_11)) H → va_D A (zW_8 cy h0 (ups (ups (ups (ups w0 0 c0_0) 3 c0_3) 9 c0_9) 11 c0_11)) → va_S A s.heap H locs → lv_has ls 9 [(0, .ref (h0 0)), (1, .int x1), (2, .int x2), (3, .int x3), (4, .int x4), (5, .int x5), (6, .int x6)] → (fX8_plan_155 w0 s84) c0_0 c0_3 c0_9 c0_11 x1 x2 x3 x4 x5 x6 = some z → W p l e ({ frames := 5, cells := 0, slots := 0, locals := 108 } : Room) s m args below meth c H locs 0 0 (MQ below (va_Qi (fun (q : Int32) (v : (Nat → Int32) × (Nat → Int32) × (Nat → Int32) × (Nat → Int32)) => (q, v) = z) (fun v => aWR (dC, dI) vwCl [(cy, .int)] A (zW_8 cy h0 (ups (ups (ups (ups w0 0 v.1) 3 v.2.1) 9 v.2.2.1) 11 v.2.2.2))) A) args s 0 0 A) (F0 m 155 ls []) := by
    intro s84 hs84
    intro c0_0 c0_3 c0_9 c0_11 x1 x2 x3 x4 x5 x6 H locs ls hP hD hS hl hf
    unfold fX8_plan_155 at hf
    refine lv_aload_n hx hb dX8_plan_155 rfl (lv_at hl 0 rfl) ?_
    obtain ⟨u9, u10, hq8, hf⟩ := ob2_d hf
    refine zwvV (q := (RX8, TX8, 37)) (As := []) (rest := []) (u := (u9, u10)) (wn := (zW_8 cy h0 (ups (ups (ups (ups w0 0 u9) 3 u10) 9 c0_9) 11 c0_11))) ⟨hx, hb, hml, hown, hts⟩ (kX8_again l dC dI cy h0 (ups (ups (ups (ups w0 0 c0_0) 3 c0_3) 9 c0_9) 11 c0_11) H.size (u9, u10) hq8) mw_815 mw_816 mw_918 mw_9 mw_817 hdX8_again rfl rfl ⟨Nat.le_of_ble_eq_true rfl, Nat.le_of_ble_eq_true rfl⟩ hP hK hG hS 0 rfl rfl hD hA [0, 1, 2, 3, 4, 5, 6, 7, 8, 9, 10, 11, 12, 13] [] [0, 1, 2, 3, 4, 5, 6, 7, 8, 9, 10, 11, 12, 13] rfl rfl rfl rfl (by decide) rfl rfl rfl hl.1 rfl (Nat.le_of_ble_eq_true rfl) dX8_plan_156 ⟨Nat.zero_le _, Nat.zero_le _⟩ (fun H locs hP hD hS => ?_)
    refine lv_zinc (lv' := [(6, .int (x6 + (1 : Int32))), (0, .ref (h0 0)), (1, .int x1), (2, .int x2), (3, .int x3), (4, .int x4), (5, .int x5)]) hx hb dX8_plan_159 hl (k := 6) rfl (v := (1 : Int32)) (by decide) (by decide) rfl (fun ls hl => ?_)
    refine lv_goto (tgt := 84) hx hb dX8_plan_162 (by decide) ?_
    exact hs84 u9 u10 c0_9 c0_11 x1 x2 x3 x4 x5 (x6 + (1 : Int32)) H locs ls hP hD hS (lv_sub hl [1, 2, 3, 4, 5, 6, 0] rfl) hf
  have k126 : ∀ (s84 : (Nat → Int32) → (Nat → Int32) → (Nat → Int32) → (Nat → Int32) → Int32 → Int32 → Int32 → Int32 → Int32 → Int32 → Option (Int32 × (Nat → Int32) × (Nat → Int32) × (Nat → Int32) × (Nat → Int32))) (hs84 : ∀ (c0_0 : (Nat → Int32)) (c0_3 : (Nat → Int32)) (c0_9 : (Nat → Int32)) (c0_11 : (Nat → Int32)) (x1 : Int32) (x2 : Int32) (x3 : Int32) (x4 : Int32) (x5 : Int32) (x6 : Int32) (H : Heap) (locs : List Loc) (ls : Array Slot), va_P (dC, dI) vwCl (zW_8 cy h0 (ups (ups (ups (ups w0 0 c0_0) 3 c0_3) 9 c0_9) 11 c0_11)) H → va_D A (zW_8 cy h0 (ups (ups (ups (ups w0 0 c0_0) 3 c0_3) 9 c0_9) 11 c0_11)) → va_S A s.heap H locs → lv_has ls 9 [(0, .ref (h0 0)), (1, .int x1), (2, .int x2), (3, .int x3), (4, .int x4), (5, .int x5), (6, .int x6)] → s84 c0_0 c0_3 c0_9 c0_11 x1 x2 x3 x4 x5 x6 = some z → W p l e ({ frames := 5, cells := 0, slots := 0, locals := 108 } : Room) s m args below meth c H locs 0 0 (MQ below (va_Qi (fun (q : Int32) (v : (Nat → Int32) × (Nat → Int32) × (Nat → Int32) × (Nat → Int32)) => (q, v) = z) (fun v => aWR (dC, dI) vwCl [(cy, .int)] A (zW_8 cy h0 (ups (ups (ups (ups w0 0 v.1) 3 v.2.1) 9 v.2.2.1) 11 v.2.2.2))) A) args s 0 0 A) (F0 m 84 ls [])), ∀ (s96 : (Nat → Int32) → (Nat → Int32) → (Nat → Int32) → (Nat → Int32) → Int32 → Int32 → Int32 → Int32 → Int32 → Int32 → Int32 → Int32 → Option (Int32 × (Nat → Int32) × (Nat → Int32) × (Nat → Int32) × (Nat → Int32))) (hs96 : ∀ (c0_0 : (Nat → Int32)) (c0_3 : (Nat → Int32)) (c0_9 : (Nat → Int32)) (c0_11 : (Nat → Int32)) (x1 : Int32) (x2 : Int32) (x3 : Int32) (x4 : Int32) (x5 : Int32) (x6 : Int32) (x7 : Int32) (x8 : Int32) (H : Heap) (locs : List Loc) (ls : Array Slot), va_P (dC, dI) vwCl (zW_8 cy h0 (ups (ups (ups (ups w0 0 c0_0) 3 c0_3) 9 c0_9) 11 c0_11)) H → va_D A (zW_8 cy h0 (ups (ups (ups (ups w0 0 c0_0) 3 c0_3) 9 c0_9) 11 c0_11)) → va_S A s.heap H locs → lv_has ls 9 [(0, .ref (h0 0)), (1, .int x1), (2, .int x2), (3, .int x3), (4, .int x4), (5, .int x5), (6, .int x6), (7, .int x7), (8, .int x8)] → s96 c0_0 c0_3 c0_9 c0_11 x1 x2 x3 x4 x5 x6 x7 x8 = some z → W p l e ({ frames := 5, cells := 0, slots := 0, locals := 108 } : Room) s m args below meth c H locs 0 0 (MQ below (va_Qi (fun (q : Int32) (v : (Nat → Int32) × (Nat → Int32) × (Nat → Int32) × (Nat → Int32)) => (q, v) = z) (fun v => aWR (dC, dI) vwCl [(cy, .int)] A (zW_8 cy h0 (ups (ups (ups (ups w0 0 v.1) 3 v.2.1) 9 v.2.2.1) 11 v.2.2.2))) A) args s 0 0 A) (F0 m 96 ls [])), ∀ (c0_0 : (Nat → Int32)) (c0_3 : (Nat → Int32)) (c0_9 : (Nat → Int32)) (c0_11 : (Nat → Int32)) (x1 : Int32) (x2 : Int32) (x3 : Int32) (x4 : Int32) (x5 : Int32) (x6 : Int32) (x7 : Int32) (x8 : Int32) (H : Heap) (locs : List Loc) (ls : Array Slot), va_P (dC, dI) vwCl (zW_8 cy h0 (ups (ups (ups (ups w0 0 c0_0) 3 c0_3) 9 c0_9) 11 c0_11)) H → va_D A (zW_8 cy h0 (ups (ups (ups (ups w0 0 c0_0) 3 c0_3) 9 c0_9) 11 c0_11)) → va_S A s.heap H locs → lv_has ls 9 [(0, .ref (h0 0)), (1, .int x1), (2, .int x2), (3, .int x3), (4, .int x4), (5, .int x5), (6, .int x6), (7, .int x7), (8, .int x8)] → (fX8_plan_126 w0 s84 s96) c0_0 c0_3 c0_9 c0_11 x1 x2 x3 x4 x5 x6 x7 x8 = some z → W p l e ({ frames := 5, cells := 0, slots := 0, locals := 108 } : Room) s m args below meth c H locs 0 0 (MQ below (va_Qi (fun (q : Int32) (v : (Nat → Int32) × (Nat → Int32) × (Nat → Int32) × (Nat → Int32)) => (q, v) = z) (fun v => aWR (dC, dI) vwCl [(cy, .int)] A (zW_8 cy h0 (ups (ups (ups (ups w0 0 v.1) 3 v.2.1) 9 v.2.2.1) 11 v.2.2.2))) A) args s 0 0 A) (F0 m 126 ls []) := by
    intro s84 hs84 s96 hs96
    intro c0_0 c0_3 c0_9 c0_11 x1 x2 x3 x4 x5 x6 x7 x8 H locs ls hP hD hS hl hf
    unfold fX8_plan_126 at hf
    refine lv_aload_n hx hb dX8_plan_126 rfl (lv_at hl 0 rfl) ?_
    obtain ⟨u14, hq13, hf⟩ := ob1_d hf
    refine zwvV (q := (RX8, TX8, 37)) (As := []) (rest := []) (u := u14) (wn := (zW_8 cy h0 (ups (ups (ups (ups w0 0 u14) 3 c0_3) 9 c0_9) 11 c0_11))) ⟨hx, hb, hml, hown, hts⟩ (kX8_step l dC dI cy h0 (ups (ups (ups (ups w0 0 c0_0) 3 c0_3) 9 c0_9) 11 c0_11) H.size u14 hq13) mw_734 mw_735 mw_907 mw_9 mw_736 hdX8_step rfl rfl ⟨Nat.le_of_ble_eq_true rfl, Nat.le_of_ble_eq_true rfl⟩ hP hK hG hS 0 rfl rfl hD hA [0, 1, 2, 3, 4, 5, 6, 7, 8, 9, 10, 11, 12, 13] [] [0, 1, 2, 3, 4, 5, 6, 7, 8, 9, 10, 11, 12, 13] rfl rfl rfl rfl (by decide) rfl rfl rfl hl.1 rfl (Nat.le_of_ble_eq_true rfl) dX8_plan_127 ⟨Nat.zero_le _, Nat.zero_le _⟩ (fun H locs hP hD hS => ?_)
    refine lv_zinc (lv' := [(8, .int (x8 + (1 : Int32))), (0, .ref (h0 0)), (1, .int x1), (2, .int x2), (3, .int x3), (4, .int x4), (5, .int x5), (6, .int x6), (7, .int x7)]) hx hb dX8_plan_130 hl (k := 8) rfl (v := (1 : Int32)) (by decide) (by decide) rfl (fun ls hl => ?_)
    refine lv_goto (tgt := 96) hx hb dX8_plan_133 (by decide) ?_
    exact hs96 u14 c0_3 c0_9 c0_11 x1 x2 x3 x4 x5 x6 x7 (x8 + (1 : Int32)) H locs ls hP hD hS (lv_sub hl [1, 2, 3, 4, 5, 6, 7, 8, 0] rfl) hf
  have k96 : ∀ (s84 : (Nat → Int32) → (Nat → Int32) → (Nat → Int32) → (Nat → Int32) → Int32 → Int32 → Int32 → Int32 → Int32 → Int32 → Option (Int32 × (Nat → Int32) × (Nat → Int32) × (Nat → Int32) × (Nat → Int32))) (hs84 : ∀ (c0_0 : (Nat → Int32)) (c0_3 : (Nat → Int32)) (c0_9 : (Nat → Int32)) (c0_11 : (Nat → Int32)) (x1 : Int32) (x2 : Int32) (x3 : Int32) (x4 : Int32) (x5 : Int32) (x6 : Int32) (H : Heap) (locs : List Loc) (ls : Array Slot), va_P (dC, dI) vwCl (zW_8 cy h0 (ups (ups (ups (ups w0 0 c0_0) 3 c0_3) 9 c0_9) 11 c0_11)) H → va_D A (zW_8 cy h0 (ups (ups (ups (ups w0 0 c0_0) 3 c0_3) 9 c0_9) 11 c0_11)) → va_S A s.heap H locs → lv_has ls 9 [(0, .ref (h0 0)), (1, .int x1), (2, .int x2), (3, .int x3), (4, .int x4), (5, .int x5), (6, .int x6)] → s84 c0_0 c0_3 c0_9 c0_11 x1 x2 x3 x4 x5 x6 = some z → W p l e ({ frames := 5, cells := 0, slots := 0, locals := 108 } : Room) s m args below meth c H locs 0 0 (MQ below (va_Qi (fun (q : Int32) (v : (Nat → Int32) × (Nat → Int32) × (Nat → Int32) × (Nat → Int32)) => (q, v) = z) (fun v => aWR (dC, dI) vwCl [(cy, .int)] A (zW_8 cy h0 (ups (ups (ups (ups w0 0 v.1) 3 v.2.1) 9 v.2.2.1) 11 v.2.2.2))) A) args s 0 0 A) (F0 m 84 ls [])), ∀ n : Nat, ∀ (c0_0 : (Nat → Int32)) (c0_3 : (Nat → Int32)) (c0_9 : (Nat → Int32)) (c0_11 : (Nat → Int32)) (x1 : Int32) (x2 : Int32) (x3 : Int32) (x4 : Int32) (x5 : Int32) (x6 : Int32) (x7 : Int32) (x8 : Int32) (H : Heap) (locs : List Loc) (ls : Array Slot), va_P (dC, dI) vwCl (zW_8 cy h0 (ups (ups (ups (ups w0 0 c0_0) 3 c0_3) 9 c0_9) 11 c0_11)) H → va_D A (zW_8 cy h0 (ups (ups (ups (ups w0 0 c0_0) 3 c0_3) 9 c0_9) 11 c0_11)) → va_S A s.heap H locs → lv_has ls 9 [(0, .ref (h0 0)), (1, .int x1), (2, .int x2), (3, .int x3), (4, .int x4), (5, .int x5), (6, .int x6), (7, .int x7), (8, .int x8)] → (zl12 (fX8_plan_96 w0 s84) n) c0_0 c0_3 c0_9 c0_11 x1 x2 x3 x4 x5 x6 x7 x8 = some z → W p l e ({ frames := 5, cells := 0, slots := 0, locals := 108 } : Room) s m args below meth c H locs 0 0 (MQ below (va_Qi (fun (q : Int32) (v : (Nat → Int32) × (Nat → Int32) × (Nat → Int32) × (Nat → Int32)) => (q, v) = z) (fun v => aWR (dC, dI) vwCl [(cy, .int)] A (zW_8 cy h0 (ups (ups (ups (ups w0 0 v.1) 3 v.2.1) 9 v.2.2.1) 11 v.2.2.2))) A) args s 0 0 A) (F0 m 96 ls []) := by
    intro s84 hs84
    intro n
    induction n with
    | zero =>
      intro c0_0 c0_3 c0_9 c0_11 x1 x2 x3 x4 x5 x6 x7 x8 H locs ls hP hD hS hl hf
      exact z_no hf
    | succ n hs96 =>
      intro c0_0 c0_3 c0_9 c0_11 x1 x2 x3 x4 x5 x6 x7 x8 H locs ls hP hD hS hl hf
      have hf : fX8_plan_96 w0 s84 (zl12 (fX8_plan_96 w0 s84) n) c0_0 c0_3 c0_9 c0_11 x1 x2 x3 x4 x5 x6 x7 x8 = some z := hf
      generalize zl12 (fX8_plan_96 w0 s84) n = s96 at hs96 hf
      unfold fX8_plan_96 at hf
      refine lv_iload hx hb dX8_plan_96 (lv_at hl 8 rfl) ?_
      refine lv_bipush (v := (20 : Int32)) hx hb dX8_plan_98 (by decide) ?_
      refine lv_icmp_ge (tgt := 136) hx hb dX8_plan_100 (by decide) (fun hc => ?_) (fun hc => ?_)
      · have hf := it_t hc hf
        refine lv_aload_n hx hb dX8_plan_136 rfl (lv_at hl 0 rfl) ?_
        obtain ⟨r7, hq6, hf⟩ := ob1_d hf
        refine zroV (q := (RX8, TX8, 37)) (As := []) (rest := []) (r := r7) ⟨hx, hb, hml, hown, hts⟩ (kX8_lives l dC dI cy h0 (ups (ups (ups (ups w0 0 c0_0) 3 c0_3) 9 c0_9) 11 c0_11) r7 hq6) mw_726 mw_727 mw_906 mw_9 mw_728 hdX8_lives rfl rfl ⟨Nat.le_of_ble_eq_true rfl, Nat.le_of_ble_eq_true rfl⟩ hP hK hG hS 0 rfl rfl [0, 1, 2, 3, 4, 5, 6, 7, 8, 9, 10, 11, 12, 13] rfl rfl hl.1 rfl (Nat.le_of_ble_eq_true rfl) dX8_plan_137 ⟨Nat.zero_le _, Nat.zero_le _⟩ ?_
        refine lv_iload hx hb dX8_plan_140 (lv_at hl 5 rfl) ?_
        refine lv_icmp_le (tgt := 155) hx hb dX8_plan_142 (by decide) (fun hc => ?_) (fun hc => ?_)
        · have hf := it_t hc hf
          exact k155 s84 hs84 c0_0 c0_3 c0_9 c0_11 x1 x2 x3 x4 x5 x6 H locs ls hP hD hS (lv_sub hl [0, 1, 2, 3, 4, 5, 6] rfl) hf
        · have hf := it_f hc hf
          refine lv_aload_n hx hb dX8_plan_145 rfl (lv_at hl 0 rfl) ?_
          obtain ⟨r12, hq11, hf⟩ := ob1_d hf
          refine zroV (q := (RX8, TX8, 37)) (As := []) (rest := []) (r := r12) ⟨hx, hb, hml, hown, hts⟩ (kX8_lives l dC dI cy h0 (ups (ups (ups (ups w0 0 c0_0) 3 c0_3) 9 c0_9) 11 c0_11) r12 hq11) mw_726 mw_727 mw_906 mw_9 mw_728 hdX8_lives rfl rfl ⟨Nat.le_of_ble_eq_true rfl, Nat.le_of_ble_eq_true rfl⟩ hP hK hG hS 0 rfl rfl [0, 1, 2, 3, 4, 5, 6, 7, 8, 9, 10, 11, 12, 13] rfl rfl hl.1 rfl (Nat.le_of_ble_eq_true rfl) dX8_plan_146 ⟨Nat.zero_le _, Nat.zero_le _⟩ ?_
          refine lv_istore (lv' := [(5, .int r12), (0, .ref (h0 0)), (1, .int x1), (2, .int x2), (3, .int x3), (4, .int x4), (6, .int x6), (7, .int x7), (8, .int x8)]) hx hb dX8_plan_149 hl (by decide) rfl (fun ls hl => ?_)
          refine lv_iload hx hb dX8_plan_151 (lv_at hl 6 rfl) ?_
          refine lv_istore (lv' := [(4, .int x6), (5, .int r12), (0, .ref (h0 0)), (1, .int x1), (2, .int x2), (3, .int x3), (6, .int x6), (7, .int x7), (8, .int x8)]) hx hb dX8_plan_153 hl (by decide) rfl (fun ls hl => ?_)
          exact k155 s84 hs84 c0_0 c0_3 c0_9 c0_11 x1 x2 x3 x6 r12 x6 H locs ls hP hD hS (lv_sub hl [2, 3, 4, 5, 0, 1, 6] rfl) hf
      · have hf := it_f hc hf
        refine lv_iload hx hb dX8_plan_103 (lv_at hl 8 rfl) ?_
        refine lv_iload_n hx hb dX8_plan_105 rfl (lv_at hl 1 rfl) ?_
        refine lv_icmp_ge (tgt := 126) hx hb dX8_plan_106 (by decide) (fun hc => ?_) (fun hc => ?_)
        · have hf := it_t hc hf
          exact k126 s84 hs84 s96 hs96 c0_0 c0_3 c0_9 c0_11 x1 x2 x3 x4 x5 x6 x7 x8 H locs ls hP hD hS (lv_sub hl [0, 1, 2, 3, 4, 5, 6, 7, 8] rfl) hf
        · have hf := it_f hc hf
          refine lv_iload hx hb dX8_plan_109 (lv_at hl 7 rfl) ?_
          refine lv_iconst (v := (5 : Int32)) hx hb dX8_plan_111 (by decide) ?_
          refine lv_idiv hx hb dX8_plan_112 (by decide) ?_
          refine lv_istore (lv' := [(7, .int (x7 / (5 : Int32))), (0, .ref (h0 0)), (1, .int x1), (2, .int x2), (3, .int x3), (4, .int x4), (5, .int x5), (6, .int x6), (8, .int x8)]) hx hb dX8_plan_113 hl (by decide) rfl (fun ls hl => ?_)
          refine lv_aload_n hx hb dX8_plan_115 rfl (lv_at hl 1 rfl) ?_
          refine lv_iload hx hb dX8_plan_116 (lv_at hl 7 rfl) ?_
          refine lv_iload hx hb dX8_plan_118 (lv_at hl 0 rfl) ?_
          obtain ⟨hne15, hf⟩ := dv_d hf
          refine lv_idiv hx hb dX8_plan_120 hne15 ?_
          refine lv_iconst (v := (5 : Int32)) hx hb dX8_plan_121 (by decide) ?_
          refine lv_zrem hx hb dX8_plan_122 (by decide) ?_
          obtain ⟨u17, hq16, hf⟩ := ob1_d hf
          refine zwvV (q := (RX8, TX8, 37)) (As := [.int (zrem (x6 / (x7 / (5 : Int32))) (5 : Int32))]) (rest := []) (u := u17) (wn := (zW_8 cy h0 (ups (ups (ups (ups w0 0 u17) 3 c0_3) 9 c0_9) 11 c0_11))) ⟨hx, hb, hml, hown, hts⟩ (kX8_act l dC dI cy h0 (ups (ups (ups (ups w0 0 c0_0) 3 c0_3) 9 c0_9) 11 c0_11) (zrem (x6 / (x7 / (5 : Int32))) (5 : Int32)) H.size u17 hq16) mw_838 mw_839 mw_920 mw_9 mw_840 hdX8_act rfl rfl ⟨Nat.le_of_ble_eq_true rfl, Nat.le_of_ble_eq_true rfl⟩ hP hK hG hS 0 rfl rfl hD hA [0, 1, 2, 3, 4, 5, 6, 7, 8, 9, 10, 11, 12, 13] [] [0, 1, 2, 3, 4, 5, 6, 7, 8, 9, 10, 11, 12, 13] rfl rfl rfl rfl (by decide) rfl rfl rfl hl.1 rfl (Nat.le_of_ble_eq_true rfl) dX8_plan_123 ⟨Nat.zero_le _, Nat.zero_le _⟩ (fun H locs hP hD hS => ?_)
          exact k126 s84 hs84 s96 hs96 u17 c0_3 c0_9 c0_11 x1 x2 x3 x4 x5 x6 (x7 / (5 : Int32)) x8 H locs ls hP hD hS (lv_sub hl [1, 2, 3, 4, 5, 6, 7, 0, 8] rfl) hf
  have k84 : ∀ n : Nat, ∀ (c0_0 : (Nat → Int32)) (c0_3 : (Nat → Int32)) (c0_9 : (Nat → Int32)) (c0_11 : (Nat → Int32)) (x1 : Int32) (x2 : Int32) (x3 : Int32) (x4 : Int32) (x5 : Int32) (x6 : Int32) (H : Heap) (locs : List Loc) (ls : Array Slot), va_P (dC, dI) vwCl (zW_8 cy h0 (ups (ups (ups (ups w0 0 c0_0) 3 c0_3) 9 c0_9) 11 c0_11)) H → va_D A (zW_8 cy h0 (ups (ups (ups (ups w0 0 c0_0) 3 c0_3) 9 c0_9) 11 c0_11)) → va_S A s.heap H locs → lv_has ls 9 [(0, .ref (h0 0)), (1, .int x1), (2, .int x2), (3, .int x3), (4, .int x4), (5, .int x5), (6, .int x6)] → (zl10 (fX8_plan_84 w0) n) c0_0 c0_3 c0_9 c0_11 x1 x2 x3 x4 x5 x6 = some z → W p l e ({ frames := 5, cells := 0, slots := 0, locals := 108 } : Room) s m args below meth c H locs 0 0 (MQ below (va_Qi (fun (q : Int32) (v : (Nat → Int32) × (Nat → Int32) × (Nat → Int32) × (Nat → Int32)) => (q, v) = z) (fun v => aWR (dC, dI) vwCl [(cy, .int)] A (zW_8 cy h0 (ups (ups (ups (ups w0 0 v.1) 3 v.2.1) 9 v.2.2.1) 11 v.2.2.2))) A) args s 0 0 A) (F0 m 84 ls []) := by
    intro n
    induction n with
    | zero =>
      intro c0_0 c0_3 c0_9 c0_11 x1 x2 x3 x4 x5 x6 H locs ls hP hD hS hl hf
      exact z_no hf
    | succ n hs84 =>
      intro c0_0 c0_3 c0_9 c0_11 x1 x2 x3 x4 x5 x6 H locs ls hP hD hS hl hf
      have hf : fX8_plan_84 w0 (zl10 (fX8_plan_84 w0) n) c0_0 c0_3 c0_9 c0_11 x1 x2 x3 x4 x5 x6 = some z := hf
      generalize zl10 (fX8_plan_84 w0) n = s84 at hs84 hf
      unfold fX8_plan_84 at hf
      refine lv_iload hx hb dX8_plan_84 (lv_at hl 6 rfl) ?_
      refine lv_iload_n hx hb dX8_plan_86 rfl (lv_at hl 3 rfl) ?_
      refine lv_icmp_ge (tgt := 165) hx hb dX8_plan_87 (by decide) (fun hc => ?_) (fun hc => ?_)
      · have hf := it_t hc hf
        refine lv_iload_n hx hb dX8_plan_165 rfl (lv_at hl 2 rfl) ?_
        refine lv_if_ge (tgt := 172) hx hb dX8_plan_166 (by decide) (fun hc => ?_) (fun hc => ?_)
        · have hf := it_t hc hf
          refine lv_iload_n hx hb dX8_plan_172 rfl (lv_at hl 1 rfl) ?_
          refine lv_iconst (v := (1 : Int32)) hx hb dX8_plan_173 (by decide) ?_
          refine lv_isub hx hb dX8_plan_174 ?_
          refine lv_istore (lv' := [(6, .int (x1 - (1 : Int32))), (0, .ref (h0 0)), (1, .int x1), (2, .int x2), (3, .int x3), (4, .int x4), (5, .int x5)]) hx hb dX8_plan_175 hl (by decide) rfl (fun ls hl => ?_)
          exact k177 zFU c0_0 c0_3 c0_9 c0_11 x2 x4 (x1 - (1 : Int32)) H locs ls hP hD hS (lv_sub hl [3, 5, 0] rfl) hf
        · have hf := it_f hc hf
          refine lv_iload hx hb dX8_plan_169 (lv_at hl 5 rfl) ?_
          exact zretI hx hb hr hlocks hP hK hD hS hf rfl dX8_plan_171
      · have hf := it_f hc hf
        refine lv_iload_n hx hb dX8_plan_90 rfl (lv_at hl 3 rfl) ?_
        refine lv_istore (lv' := [(7, .int x3), (0, .ref (h0 0)), (1, .int x1), (2, .int x2), (3, .int x3), (4, .int x4), (5, .int x5), (6, .int x6)]) hx hb dX8_plan_91 hl (by decide) rfl (fun ls hl => ?_)
        refine lv_iconst (v := (0 : Int32)) hx hb dX8_plan_93 (by decide) ?_
        refine lv_istore (lv' := [(8, .int (0 : Int32)), (7, .int x3), (0, .ref (h0 0)), (1, .int x1), (2, .int x2), (3, .int x3), (4, .int x4), (5, .int x5), (6, .int x6)]) hx hb dX8_plan_94 hl (by decide) rfl (fun ls hl => ?_)
        exact k96 s84 hs84 zFU c0_0 c0_3 c0_9 c0_11 x1 x2 x3 x4 x5 x6 x3 (0 : Int32) H locs ls hP hD hS (lv_sub hl [2, 3, 4, 5, 6, 7, 8, 1, 0] rfl) hf
  have k59 : ∀ n : Nat, ∀ (c0_0 : (Nat → Int32)) (c0_3 : (Nat → Int32)) (c0_9 : (Nat → Int32)) (c0_11 : (Nat → Int32)) (x1 : Int32) (x2 : Int32) (x3 : Int32) (x4 : Int32) (H : Heap) (locs : List Loc) (ls : Array Slot), va_P (dC, dI) vwCl (zW_8 cy h0 (ups (ups (ups (ups w0 0 c0_0) 3 c0_3) 9 c0_9) 11 c0_11)) H → va_D A (zW_8 cy h0 (ups (ups (ups (ups w0 0 c0_0) 3 c0_3) 9 c0_9) 11 c0_11)) → va_S A s.heap H locs → lv_has ls 9 [(0, .ref (h0 0)), (1, .int x1), (2, .int x2), (3, .int x3), (4, .int x4)] → (zl8 (fX8_plan_59 w0) n) c0_0 c0_3 c0_9 c0_11 x1 x2 x3 x4 = some z → W p l e ({ frames := 5, cells := 0, slots := 0, locals := 108 } : Room) s m args below meth c H locs 0 0 (MQ below (va_Qi (fun (q : Int32) (v : (Nat → Int32) × (Nat → Int32) × (Nat → Int32) × (Nat → Int32)) => (q, v) = z) (fun v => aWR (dC, dI) vwCl [(cy, .int)] A (zW_8 cy h0 (ups (ups (ups (ups w0 0 v.1) 3 v.2.1) 9 v.2.2.1) 11 v.2.2.2))) A) args s 0 0 A) (F0 m 59 ls []) := by
    intro n
    induction n with
    | zero =>
      intro c0_0 c0_3 c0_9 c0_11 x1 x2 x3 x4 H locs ls hP hD hS hl hf
      exact z_no hf
    | succ n hs59 =>
      intro c0_0 c0_3 c0_9 c0_11 x1 x2 x3 x4 H locs ls hP hD hS hl hf
      have hf : fX8_plan_59 w0 (zl8 (fX8_plan_59 w0) n) c0_0 c0_3 c0_9 c0_11 x1 x2 x3 x4 = some z := hf
      generalize zl8 (fX8_plan_59 w0) n = s59 at hs59 hf
      unfold fX8_plan_59 at hf
      refine lv_iload hx hb dX8_plan_59 (lv_at hl 4 rfl) ?_
      refine lv_iload_n hx hb dX8_plan_61 rfl (lv_at hl 1 rfl) ?_
      refine lv_icmp_ge (tgt := 75) hx hb dX8_plan_62 (by decide) (fun hc => ?_) (fun hc => ?_)
      · have hf := it_t hc hf
        refine lv_iconst (v := (0 : Int32)) hx hb dX8_plan_75 (by decide) ?_
        refine lv_istore (lv' := [(4, .int (0 : Int32)), (0, .ref (h0 0)), (1, .int x1), (2, .int x2), (3, .int x3)]) hx hb dX8_plan_76 hl (by decide) rfl (fun ls hl => ?_)
        refine lv_iconst (v := (-1 : Int32)) hx hb dX8_plan_78 (by decide) ?_
        refine lv_istore (lv' := [(5, .int (-1 : Int32)), (4, .int (0 : Int32)), (0, .ref (h0 0)), (1, .int x1), (2, .int x2), (3, .int x3)]) hx hb dX8_plan_79 hl (by decide) rfl (fun ls hl => ?_)
        refine lv_iconst (v := (0 : Int32)) hx hb dX8_plan_81 (by decide) ?_
        refine lv_istore (lv' := [(6, .int (0 : Int32)), (5, .int (-1 : Int32)), (4, .int (0 : Int32)), (0, .ref (h0 0)), (1, .int x1), (2, .int x2), (3, .int x3)]) hx hb dX8_plan_82 hl (by decide) rfl (fun ls hl => ?_)
        exact k84 zFU c0_0 c0_3 c0_9 c0_11 x1 x2 x3 (0 : Int32) (-1 : Int32) (0 : Int32) H locs ls hP hD hS (lv_sub hl [3, 4, 5, 6, 2, 1, 0] rfl) hf
      · have hf := it_f hc hf
        refine lv_iload_n hx hb dX8_plan_65 rfl (lv_at hl 3 rfl) ?_
        refine lv_iconst (v := (5 : Int32)) hx hb dX8_plan_66 (by decide) ?_
        refine lv_imul hx hb dX8_plan_67 ?_
        refine lv_istore_n (lv' := [(3, .int (x3 * (5 : Int32))), (0, .ref (h0 0)), (1, .int x1), (2, .int x2), (4, .int x4)]) hx hb dX8_plan_68 rfl hl (by decide) rfl (fun ls hl => ?_)
        refine lv_zinc (lv' := [(4, .int (x4 + (1 : Int32))), (3, .int (x3 * (5 : Int32))), (0, .ref (h0 0)), (1, .int x1), (2, .int x2)]) hx hb dX8_plan_69 hl (k := 4) rfl (v := (1 : Int32)) (by decide) (by decide) rfl (fun ls hl => ?_)
        refine lv_goto (tgt := 59) hx hb dX8_plan_72 (by decide) ?_
        exact hs59 c0_0 c0_3 c0_9 c0_11 x1 x2 (x3 * (5 : Int32)) (x4 + (1 : Int32)) H locs ls hP hD hS (lv_sub hl [2, 3, 4, 1, 0] rfl) hf
  obtain ⟨ls, hl, he⟩ := zent (m := m) (n := 9) (L := [(0, .ref (h0 0)), (1, .int x1), (2, .int x2)]) ha (Nat.le_of_ble_eq_true rfl) rfl
  refine W.eq he ?_
  unfold fX8_plan at hf
  have kE : ∀ (H : Heap) (locs : List Loc), va_P (dC, dI) vwCl (zW_8 cy h0 (ups (ups (ups (ups w0 0 (w0 0)) 3 (w0 3)) 9 (w0 9)) 11 (w0 11))) H → va_D A (zW_8 cy h0 (ups (ups (ups (ups w0 0 (w0 0)) 3 (w0 3)) 9 (w0 9)) 11 (w0 11))) → va_S A s.heap H locs → W p l e ({ frames := 5, cells := 0, slots := 0, locals := 108 } : Room) s m args below meth c H locs 0 0 (MQ below (va_Qi (fun (q : Int32) (v : (Nat → Int32) × (Nat → Int32) × (Nat → Int32) × (Nat → Int32)) => (q, v) = z) (fun v => aWR (dC, dI) vwCl [(cy, .int)] A (zW_8 cy h0 (ups (ups (ups (ups w0 0 v.1) 3 v.2.1) 9 v.2.2.1) 11 v.2.2.2))) A) args s 0 0 A) (F0 m 0 ls []) := by
    intro H locs hP hD hS
    refine lv_iload_n hx hb dX8_plan_0 rfl (lv_at hl 1 rfl) ?_
    refine lv_if_lt (tgt := 9) hx hb dX8_plan_1 (by decide) (fun hc => ?_) (fun hc => ?_)
    · have hf := it_t hc hf
      exact k9 (w0 0) (w0 3) (w0 9) (w0 11) H locs ls hP hD hS (lv_sub hl [0] rfl) hf
    · have hf := it_f hc hf
      refine lv_iload_n hx hb dX8_plan_4 rfl (lv_at hl 2 rfl) ?_
      refine lv_iconst (v := (-1 : Int32)) hx hb dX8_plan_5 (by decide) ?_
      refine lv_icmp_ge (tgt := 16) hx hb dX8_plan_6 (by decide) (fun hc => ?_) (fun hc => ?_)
      · have hf := it_t hc hf
        refine lv_iload_n hx hb dX8_plan_16 rfl (lv_at hl 1 rfl) ?_
        refine lv_iconst (v := (4 : Int32)) hx hb dX8_plan_17 (by decide) ?_
        refine lv_icmp_le (tgt := 28) hx hb dX8_plan_18 (by decide) (fun hc => ?_) (fun hc => ?_)
        · have hf := it_t hc hf
          refine lv_aload_n hx hb dX8_plan_28 rfl (lv_at hl 0 rfl) ?_
          refine zget hx hb hts hown hK hP hin_8 0 rfl rfl 12 (by decide) mw_602 (v := .int (w0 0 12)) rfl dX8_plan_29 ?_
          refine lv_if_ne (tgt := 42) hx hb dX8_plan_32 (by decide) (fun hc => ?_) (fun hc => ?_)
          · have hf := it_f hc hf
            refine lv_iload_n hx hb dX8_plan_42 rfl (lv_at hl 2 rfl) ?_
            refine lv_iload_n hx hb dX8_plan_43 rfl (lv_at hl 1 rfl) ?_
            refine lv_icmp_lt (tgt := 50) hx hb dX8_plan_44 (by decide) (fun hc => ?_) (fun hc => ?_)
            · have hf := it_t hc hf
              refine lv_aload_n hx hb dX8_plan_50 rfl (lv_at hl 0 rfl) ?_
              obtain ⟨u5, hq4, hf⟩ := ob1_d hf
              refine zwvV (q := (RX8, TX8, 37)) (As := []) (rest := []) (u := u5) (wn := (zW_8 cy h0 (ups (ups (ups (ups w0 0 (w0 0)) 3 (w0 3)) 9 (w0 9)) 11 u5))) ⟨hx, hb, hml, hown, hts⟩ (kX8_keep l dC dI cy h0 (ups (ups (ups (ups w0 0 (w0 0)) 3 (w0 3)) 9 (w0 9)) 11 (w0 11)) H.size u5 hq4) mw_812 mw_813 mw_917 mw_9 mw_814 hdX8_keep rfl rfl ⟨Nat.le_of_ble_eq_true rfl, Nat.le_of_ble_eq_true rfl⟩ hP hK hG hS 0 rfl rfl hD hA [0, 1, 2, 3, 4, 5, 6, 7, 8, 9, 10, 11, 12, 13] [] [0, 1, 2, 3, 4, 5, 6, 7, 8, 9, 10, 11, 12, 13] rfl rfl rfl rfl (by decide) rfl rfl rfl hl.1 rfl (Nat.le_of_ble_eq_true rfl) dX8_plan_51 ⟨Nat.zero_le _, Nat.zero_le _⟩ (fun H locs hP hD hS => ?_)
              refine lv_iconst (v := (1 : Int32)) hx hb dX8_plan_54 (by decide) ?_
              refine lv_istore_n (lv' := [(3, .int (1 : Int32)), (0, .ref (h0 0)), (1, .int x1), (2, .int x2)]) hx hb dX8_plan_55 rfl hl (by decide) rfl (fun ls hl => ?_)
              refine lv_iconst (v := (0 : Int32)) hx hb dX8_plan_56 (by decide) ?_
              refine lv_istore (lv' := [(4, .int (0 : Int32)), (3, .int (1 : Int32)), (0, .ref (h0 0)), (1, .int x1), (2, .int x2)]) hx hb dX8_plan_57 hl (by decide) rfl (fun ls hl => ?_)
              exact k59 zFU (w0 0) (w0 3) (w0 9) u5 x1 x2 (1 : Int32) (0 : Int32) H locs ls hP hD hS (lv_sub hl [2, 3, 4, 1, 0] rfl) hf
            · have hf := it_f hc hf
              refine lv_bipush (v := (-9 : Int32)) hx hb dX8_plan_47 (by decide) ?_
              exact zretI hx hb hr hlocks hP hK hD hS hf rfl dX8_plan_49
          · have hf := it_t hc hf
            refine lv_aload_n hx hb dX8_plan_35 rfl (lv_at hl 0 rfl) ?_
            refine lv_bipush (v := (-3 : Int32)) hx hb dX8_plan_36 (by decide) ?_
            obtain ⟨r19, u20, hq18, hf⟩ := ob2_d hf
            refine zwiV (q := (RX8, TX8, 37)) (As := [.int (-3 : Int32)]) (rest := []) (r := r19) (u := u20) (wn := (zW_8 cy h0 (ups (ups (ups (ups w0 0 (w0 0)) 3 (w0 3)) 9 u20) 11 (w0 11)))) ⟨hx, hb, hml, hown, hts⟩ (kX8_no l dC dI cy h0 (ups (ups (ups (ups w0 0 (w0 0)) 3 (w0 3)) 9 (w0 9)) 11 (w0 11)) (-3 : Int32) H.size (r19, u20) hq18) mw_668 mw_669 mw_898 mw_9 mw_670 hdX8_no rfl rfl ⟨Nat.le_of_ble_eq_true rfl, Nat.le_of_ble_eq_true rfl⟩ hP hK hG hS 0 rfl rfl hD hA [0, 1, 2, 3, 4, 5, 6, 7, 8, 9, 10, 11, 12, 13] [] [0, 1, 2, 3, 4, 5, 6, 7, 8, 9, 10, 11, 12, 13] rfl rfl rfl rfl (by decide) rfl rfl rfl hl.1 rfl (Nat.le_of_ble_eq_true rfl) dX8_plan_38 ⟨Nat.zero_le _, Nat.zero_le _⟩ (fun H locs hP hD hS => ?_)
            exact zretI hx hb hr hlocks hP hK hD hS hf rfl dX8_plan_41
        · have hf := it_f hc hf
          refine lv_aload_n hx hb dX8_plan_21 rfl (lv_at hl 0 rfl) ?_
          refine lv_bipush (v := (-6 : Int32)) hx hb dX8_plan_22 (by decide) ?_
          obtain ⟨r22, u23, hq21, hf⟩ := ob2_d hf
          refine zwiV (q := (RX8, TX8, 37)) (As := [.int (-6 : Int32)]) (rest := []) (r := r22) (u := u23) (wn := (zW_8 cy h0 (ups (ups (ups (ups w0 0 (w0 0)) 3 (w0 3)) 9 u23) 11 (w0 11)))) ⟨hx, hb, hml, hown, hts⟩ (kX8_no l dC dI cy h0 (ups (ups (ups (ups w0 0 (w0 0)) 3 (w0 3)) 9 (w0 9)) 11 (w0 11)) (-6 : Int32) H.size (r22, u23) hq21) mw_668 mw_669 mw_898 mw_9 mw_670 hdX8_no rfl rfl ⟨Nat.le_of_ble_eq_true rfl, Nat.le_of_ble_eq_true rfl⟩ hP hK hG hS 0 rfl rfl hD hA [0, 1, 2, 3, 4, 5, 6, 7, 8, 9, 10, 11, 12, 13] [] [0, 1, 2, 3, 4, 5, 6, 7, 8, 9, 10, 11, 12, 13] rfl rfl rfl rfl (by decide) rfl rfl rfl hl.1 rfl (Nat.le_of_ble_eq_true rfl) dX8_plan_24 ⟨Nat.zero_le _, Nat.zero_le _⟩ (fun H locs hP hD hS => ?_)
          exact zretI hx hb hr hlocks hP hK hD hS hf rfl dX8_plan_27
      · have hf := it_f hc hf
        exact k9 (w0 0) (w0 3) (w0 9) (w0 11) H locs ls hP hD hS (lv_sub hl [0] rfl) hf
  exact kE s.heap [] hP hD hS
set_option maxHeartbeats 4000000 in
set_option maxRecDepth 100000 in
theorem kX8_stood (l : Launch) (dC : Nat → ClassId) (dI : Nat → Nat → Nat) (cy : ClassId) (h0 : Nat → Nat) (w0 : Nat → Nat → Int32) (x1 : Int32) (x2 : Int32) (sz : Nat) (z : Int32 × (Nat → Int32) × (Nat → Int32) × (Nat → Int32) × (Nat → Int32)) (hf : fX8_stood w0 x1 x2 = some z) : Met l yX8_stood (wsM yX8_stood cX8_stood 7 (some .int)) ({ frames := 4, cells := 0, slots := 0, locals := 90 } : Room) (va_Pc [.ref (h0 0), .int x1, .int x2] (pWR (dC, dI) vwCl [(cy, .int)] (zW_8 cy h0 w0) sz)) (va_Qi (fun (q : Int32) (v : (Nat → Int32) × (Nat → Int32) × (Nat → Int32) × (Nat → Int32)) => (q, v) = z) (fun v => aWR (dC, dI) vwCl [(cy, .int)] (va_A (zW_8 cy h0 w0) sz) (zW_8 cy h0 (ups (ups (ups (ups w0 0 v.1) 3 v.2.1) 9 v.2.2.1) 11 v.2.2.2))) (va_A (zW_8 cy h0 w0) sz)) 0 0 (va_A (zW_8 cy h0 w0) sz) := by
  refine Met.ofW (cc := cX8_stood) (maxL := 7) (ret := (some .int)) (by decide) rfl ?_
  intro p e s m args below meth c s₁ B hml hv
  obtain ⟨ha, hsz, hP, hK, hD0, hG⟩ := hv
  have hx := B.exec
  have hb := B.bytes
  have hr := B.returns
  have hts : ∀ w ∈ wsA, w.before args s = true := fun w h => atoms_spec (ws := wsM yX8_stood cX8_stood 7 (some .int)) B.pre w (List.mem_cons_of_mem _ h)
  have hown : s.vm.findClass RX8 = some m.cls := findClass_of_methodNamed B.named
  have hlocks := B.notSynchronized
  subst hsz
  have hD := hD0.self (sz := s.heap.size)
  generalize hAe : va_A (zW_8 cy h0 w0) s.heap.size = A at hD hG ⊢
  have hA : ∀ q : Nat, s.heap.size ≤ q → A q := fun q h => by rw [← hAe]; exact Or.inr h
  have hS : va_S A s.heap s.heap [] := va_S.rf
  have hP : va_P (dC, dI) vwCl (zW_8 cy h0 (ups (ups (ups (ups w0 0 (w0 0)) 3 (w0 3)) 9 (w0 9)) 11 (w0 11))) s.heap := hP
  have hD : va_D A (zW_8 cy h0 (ups (ups (ups (ups w0 0 (w0 0)) 3 (w0 3)) 9 (w0 9)) 11 (w0 11))) := hD
  have k15 : ∀ (c0_0 : (Nat → Int32)) (c0_3 : (Nat → Int32)) (c0_9 : (Nat → Int32)) (c0_11 : (Nat → Int32)) (H : Heap) (locs : List Loc) (ls : Array Slot), va_P (dC, dI) vwCl (zW_8 cy h0 (ups (ups (ups (ups w0 0 c0_0) 3 c0_3) 9 c0_9) 11 c0_11)) H → va_D A (zW_8 cy h0 (ups (ups (ups (ups w0 0 c0_0) 3 c0_3) 9 c0_9) 11 c0_11)) → va_S A s.heap H locs → lv_has ls 7 [(0, .ref (h0 0))] → (fX8_stood_15 w0) c0_0 c0_3 c0_9 c0_11 = some z → W p l e ({ frames := 4, cells := 0, slots := 0, locals := 90 } : Room) s m args below meth c H locs 0 0 (MQ below (va_Qi (fun (q : Int32) (v : (Nat → Int32) × (Nat → Int32) × (Nat → Int32) × (Nat → Int32)) => (q, v) = z) (fun v => aWR (dC, dI) vwCl [(cy, .int)] A (zW_8 cy h0 (ups (ups (ups (ups w0 0 v.1) 3 v.2.1) 9 v.2.2.1) 11 v.2.2.2))) A) args s 0 0 A) (F0 m 15 ls []) := by
    intro c0_0 c0_3 c0_9 c0_11 H locs ls hP hD hS hl hf
    unfold fX8_stood_15 at hf
    refine lv_aload_n hx hb dX8_stood_15 rfl (lv_at hl 0 rfl) ?_
    refine lv_iconst (v := (-1 : Int32)) hx hb dX8_stood_16 (by decide) ?_
    obtain ⟨r4, u5, hq3, hf⟩ := ob2_d hf
    refine zwiV (q := (RX8, TX8, 37)) (As := [.int (-1 : Int32)]) (rest := []) (r := r4) (u := u5) (wn := (zW_8 cy h0 (ups (ups (ups (ups w0 0 c0_0) 3 c0_3) 9 u5) 11 c0_11))) ⟨hx, hb, hml, hown, hts⟩ (kX8_no l dC dI cy h0 (ups (ups (ups (ups w0 0 c0_0) 3 c0_3) 9 c0_9) 11 c0_11) (-1 : Int32) H.size (r4, u5) hq3) mw_668 mw_669 mw_898 mw_9 mw_670 hdX8_no rfl rfl ⟨Nat.le_of_ble_eq_true rfl, Nat.le_of_ble_eq_true rfl⟩ hP hK hG hS 0 rfl rfl hD hA [0, 1, 2, 3, 4, 5, 6, 7, 8, 9, 10, 11, 12, 13] [] [0, 1, 2, 3, 4, 5, 6, 7, 8, 9, 10, 11, 12, 13] rfl rfl rfl rfl (by decide) rfl rfl rfl hl.1 rfl (Nat.le_of_ble_eq_true rfl) dX8_stood_17 ⟨Nat.zero_le _, Nat.zero_le _⟩ (fun H locs hP hD hS => ?_)
    exact zretI hx hb hr hlocks hP hK hD hS hf rfl dX8_stood_20
  have k36 : ∀ (c0_0 : (Nat → Int32)) (c0_3 : (Nat → Int32)) (c0_9 : (Nat → Int32)) (c0_11 : (Nat → Int32)) (H : Heap) (locs : List Loc) (ls : Array Slot), va_P (dC, dI) vwCl (zW_8 cy h0 (ups (ups (ups (ups w0 0 c0_0) 3 c0_3) 9 c0_9) 11 c0_11)) H → va_D A (zW_8 cy h0 (ups (ups (ups (ups w0 0 c0_0) 3 c0_3) 9 c0_9) 11 c0_11)) → va_S A s.heap H locs → lv_has ls 7 [(0, .ref (h0 0))] → (fX8_stood_36 w0) c0_0 c0_3 c0_9 c0_11 = some z → W p l e ({ frames := 4, cells := 0, slots := 0, locals := 90 } : Room) s m args below meth c H locs 0 0 (MQ below (va_Qi (fun (q : Int32) (v : (Nat → Int32) × (Nat → Int32) × (Nat → Int32) × (Nat → Int32)) => (q, v) = z) (fun v => aWR (dC, dI) vwCl [(cy, .int)] A (zW_8 cy h0 (ups (ups (ups (ups w0 0 v.1) 3 v.2.1) 9 v.2.2.1) 11 v.2.2.2))) A) args s 0 0 A) (F0 m 36 ls []) := by
    intro c0_0 c0_3 c0_9 c0_11 H locs ls hP hD hS hl hf
    unfold fX8_stood_36 at hf
    refine lv_aload_n hx hb dX8_stood_36 rfl (lv_at hl 0 rfl) ?_
    refine lv_bipush (v := (-3 : Int32)) hx hb dX8_stood_37 (by decide) ?_
    obtain ⟨r11, u12, hq10, hf⟩ := ob2_d hf
    refine zwiV (q := (RX8, TX8, 37)) (As := [.int (-3 : Int32)]) (rest := []) (r := r11) (u := u12) (wn := (zW_8 cy h0 (ups (ups (ups (ups w0 0 c0_0) 3 c0_3) 9 u12) 11 c0_11))) ⟨hx, hb, hml, hown, hts⟩ (kX8_no l dC dI cy h0 (ups (ups (ups (ups w0 0 c0_0) 3 c0_3) 9 c0_9) 11 c0_11) (-3 : Int32) H.size (r11, u12) hq10) mw_668 mw_669 mw_898 mw_9 mw_670 hdX8_no rfl rfl ⟨Nat.le_of_ble_eq_true rfl, Nat.le_of_ble_eq_true rfl⟩ hP hK hG hS 0 rfl rfl hD hA [0, 1, 2, 3, 4, 5, 6, 7, 8, 9, 10, 11, 12, 13] [] [0, 1, 2, 3, 4, 5, 6, 7, 8, 9, 10, 11, 12, 13] rfl rfl rfl rfl (by decide) rfl rfl rfl hl.1 rfl (Nat.le_of_ble_eq_true rfl) dX8_stood_39 ⟨Nat.zero_le _, Nat.zero_le _⟩ (fun H locs hP hD hS => ?_)
    exact zretI hx hb hr hlocks hP hK hD hS hf rfl dX8_stood_42
  have k123 : ∀ (s54 : (Nat → Int32) → (Nat → Int32) → (Nat → Int32) → (Nat → Int32) → Int32 → Int32 → Int32 → Int32 → Option (Int32 × (Nat → Int32) × (Nat → Int32) × (Nat → Int32) × (Nat → Int32))) (hs54 : ∀ (c0_0 : (Nat → Int32)) (c0_3 : (Nat → Int32)) (c0_9 : (Nat → Int32)) (c0_11 : (Nat → Int32)) (x1 : Int32) (x2 : Int32) (x3 : Int32) (x4 : Int32) (H : Heap) (locs : List Loc) (ls : Array Slot), va_P (dC, dI) vwCl (zW_8 cy h0 (ups (ups (ups (ups w0 0 c0_0) 3 c0_3) 9 c0_9) 11 c0_11)) H → va_D A (zW_8 cy h0 (ups (ups (ups (ups w0 0 c0_0) 3 c0_3) 9 c0_9) 11 c0_11)) → va_S A s.heap H locs → lv_has ls 7 [(0, .ref (h0 0)), (1, .int x1), (2, .int x2), (3, .int x3), (4, .int x4)] → s54 c0_0 c0_3 c0_9 c0_11 x1 x2 x3 x4 = some z → W p l e ({ frames := 4, cells := 0, slots := 0, locals := 90 } : Room) s m args below meth c H locs 0 0 (MQ below (va_Qi (fun (q : Int32) (v : (Nat → Int32) × (Nat → Int32) × (Nat → Int32) × (Nat → Int32)) => (q, v) = z) (fun v => aWR (dC, dI) vwCl [(cy, .int)] A (zW_8 cy h0 (ups (ups (ups (ups w0 0 v.1) 3 v.2.1) 9 v.2.2.1) 11 v.2.2.2))) A) args s 0 0 A) (F0 m 54 ls [])), ∀ (c0_0 : (Nat → Int32)) (c0_3 : (Nat → Int32)) (c0_9 : (Nat → Int32)) (c0_11 : (Nat → Int32)) (x1 : Int32) (x2 : Int32) (x3 : Int32) (x4 : Int32) (H : Heap) (locs : List Loc) (ls : Array Slot), va_P (dC, dI) vwCl (zW_8 cy h0 (ups (ups (ups (ups w0 0 c0_0) 3 c0_3) 9 c0_9) 11 c0_11)) H → va_D A (zW_8 cy h0 (ups (ups (ups (ups w0 0 c0_0) 3 c0_3) 9 c0_9) 11 c0_11)) → va_S A s.heap H locs → lv_has ls 7 [(0, .ref (h0 0)), (1, .int x1), (2, .int x2), (3, .int x3), (4, .int x4)] → (fX8_stood_123 w0 s54) c0_0 c0_3 c0_9 c0_11 x1 x2 x3 x4 = some z → W p l e ({ frames := 4, cells := 0, slots := 0, locals := 90 } : Room) s m args below meth c H locs 0 0 (MQ below (va_Qi (fun (q : Int32) (v : (Nat → Int32) × (Nat → Int32) × (Nat → Int32) × (Nat → Int32)) => (q, v) = z) (fun v => aWR (dC, dI) vwCl [(cy, .int)] A (zW_8 cy h0 (ups (ups (ups (ups w0 0 v.1) 3 v.2.1) 9 v.2.2.1) 11 v.2.2.2))) A) args s 0 0 A) (F0 m 123 ls []) := by
    intro s54 hs54
    intro c0_0 c0_3 c0_9 c0_11 x1 x2 x3 x4 H locs ls hP hD hS hl hf
    unfold fX8_stood_123 at hf
    refine lv_aload_n hx hb dX8_stood_123 rfl (lv_at hl 0 rfl) ?_
    obtain ⟨u18, u19, hq17, hf⟩ := ob2_d hf
    refine zwvV (q := (RX8, TX8, 37)) (As := []) (rest := []) (u := (u18, u19)) (wn := (zW_8 cy h0 (ups (ups (ups (ups w0 0 u18) 3 u19) 9 c0_9) 11 c0_11))) ⟨hx, hb, hml, hown, hts⟩ (kX8_again l dC dI cy h0 (ups (ups (ups (ups w0 0 c0_0) 3 c0_3) 9 c0_9) 11 c0_11) H.size (u18, u19) hq17) mw_815 mw_816 mw_918 mw_9 mw_817 hdX8_again rfl rfl ⟨Nat.le_of_ble_eq_true rfl, Nat.le_of_ble_eq_true rfl⟩ hP hK hG hS 0 rfl rfl hD hA [0, 1, 2, 3, 4, 5, 6, 7, 8, 9, 10, 11, 12, 13] [] [0, 1, 2, 3, 4, 5, 6, 7, 8, 9, 10, 11, 12, 13] rfl rfl rfl rfl (by decide) rfl rfl rfl hl.1 rfl (Nat.le_of_ble_eq_true rfl) dX8_stood_124 ⟨Nat.zero_le _, Nat.zero_le _⟩ (fun H locs hP hD hS => ?_)
    refine lv_zinc (lv' := [(4, .int (x4 + (-1 : Int32))), (0, .ref (h0 0)), (1, .int x1), (2, .int x2), (3, .int x3)]) hx hb dX8_stood_127 hl (k := 4) rfl (v := (-1 : Int32)) (by decide) (by decide) rfl (fun ls hl => ?_)
    refine lv_goto (tgt := 54) hx hb dX8_stood_130 (by decide) ?_
    exact hs54 u18 u19 c0_9 c0_11 x1 x2 x3 (x4 + (-1 : Int32)) H locs ls hP hD hS (lv_sub hl [1, 2, 3, 4, 0] rfl) hf
  have k94 : ∀ (s54 : (Nat → Int32) → (Nat → Int32) → (Nat → Int32) → (Nat → Int32) → Int32 → Int32 → Int32 → Int32 → Option (Int32 × (Nat → Int32) × (Nat → Int32) × (Nat → Int32) × (Nat → Int32))) (hs54 : ∀ (c0_0 : (Nat → Int32)) (c0_3 : (Nat → Int32)) (c0_9 : (Nat → Int32)) (c0_11 : (Nat → Int32)) (x1 : Int32) (x2 : Int32) (x3 : Int32) (x4 : Int32) (H : Heap) (locs : List Loc) (ls : Array Slot), va_P (dC, dI) vwCl (zW_8 cy h0 (ups (ups (ups (ups w0 0 c0_0) 3 c0_3) 9 c0_9) 11 c0_11)) H → va_D A (zW_8 cy h0 (ups (ups (ups (ups w0 0 c0_0) 3 c0_3) 9 c0_9) 11 c0_11)) → va_S A s.heap H locs → lv_has ls 7 [(0, .ref (h0 0)), (1, .int x1), (2, .int x2), (3, .int x3), (4, .int x4)] → s54 c0_0 c0_3 c0_9 c0_11 x1 x2 x3 x4 = some z → W p l e ({ frames := 4, cells := 0, slots := 0, locals := 90 } : Room) s m args below meth c H locs 0 0 (MQ below (va_Qi (fun (q : Int32) (v : (Nat → Int32) × (Nat → Int32) × (Nat → Int32) × (Nat → Int32)) => (q, v) = z) (fun v => aWR (dC, dI) vwCl [(cy, .int)] A (zW_8 cy h0 (ups (ups (ups (ups w0 0 v.1) 3 v.2.1) 9 v.2.2.1) 11 v.2.2.2))) A) args s 0 0 A) (F0 m 54 ls [])), ∀ n : Nat, ∀ (c0_0 : (Nat → Int32)) (c0_3 : (Nat → Int32)) (c0_9 : (Nat → Int32)) (c0_11 : (Nat → Int32)) (x1 : Int32) (x2 : Int32) (x3 : Int32) (x4 : Int32) (x6 : Int32) (H : Heap) (locs : List Loc) (ls : Array Slot), va_P (dC, dI) vwCl (zW_8 cy h0 (ups (ups (ups (ups w0 0 c0_0) 3 c0_3) 9 c0_9) 11 c0_11)) H → va_D A (zW_8 cy h0 (ups (ups (ups (ups w0 0 c0_0) 3 c0_3) 9 c0_9) 11 c0_11)) → va_S A s.heap H locs → lv_has ls 7 [(0, .ref (h0 0)), (1, .int x1), (2, .int x2), (3, .int x3), (4, .int x4), (6, .int x6)] → (zl9 (fX8_stood_94 w0 s54) n) c0_0 c0_3 c0_9 c0_11 x1 x2 x3 x4 x6 = some z → W p l e ({ frames := 4, cells := 0, slots := 0, locals := 90 } : Room) s m args below meth c H locs 0 0 (MQ below (va_Qi (fun (q : Int32) (v : (Nat → Int32) × (Nat → Int32) × (Nat → Int32) × (Nat → Int32)) => (q, v) = z) (fun v => aWR (dC, dI) vwCl [(cy, .int)] A (zW_8 cy h0 (ups (ups (ups (ups w0 0 v.1) 3 v.2.1) 9 v.2.2.1) 11 v.2.2.2))) A) args s 0 0 A) (F0 m 94 ls []) := by
    intro s54 hs54
    intro n
    induction n with
    | zero =>
      intro c0_0 c0_3 c0_9 c0_11 x1 x2 x3 x4 x6 H locs ls hP hD hS hl hf
      exact z_no hf
    | succ n hs94 =>
      intro c0_0 c0_3 c0_9 c0_11 x1 x2 x3 x4 x6 H locs ls hP hD hS hl hf
      have hf : fX8_stood_94 w0 s54 (zl9 (fX8_stood_94 w0 s54) n) c0_0 c0_3 c0_9 c0_11 x1 x2 x3 x4 x6 = some z := hf
      generalize zl9 (fX8_stood_94 w0 s54) n = s94 at hs94 hf
      unfold fX8_stood_94 at hf
      refine lv_iload hx hb dX8_stood_94 (lv_at hl 5 rfl) ?_
      refine lv_bipush (v := (60 : Int32)) hx hb dX8_stood_96 (by decide) ?_
      refine lv_icmp_ge (tgt := 111) hx hb dX8_stood_98 (by decide) (fun hc => ?_) (fun hc => ?_)
      · have hf := it_t hc hf
        refine lv_aload_n hx hb dX8_stood_111 rfl (lv_at hl 0 rfl) ?_
        refine zget hx hb hts hown hK hP hin_8 0 rfl rfl 22 (by decide) mw_612 (v := .int (c0_0 22)) rfl dX8_stood_112 ?_
        refine lv_bipush (v := (8 : Int32)) hx hb dX8_stood_115 (by decide) ?_
        refine lv_icmp_ne (tgt := 123) hx hb dX8_stood_117 (by decide) (fun hc => ?_) (fun hc => ?_)
        · have hf := it_f hc hf
          exact k123 s54 hs54 c0_0 c0_3 c0_9 c0_11 x1 x2 x3 x4 H locs ls hP hD hS (lv_sub hl [0, 1, 2, 3, 4] rfl) hf
        · have hf := it_t hc hf
          refine lv_iload hx hb dX8_stood_120 (lv_at hl 4 rfl) ?_
          refine lv_istore_n (lv' := [(3, .int x4), (0, .ref (h0 0)), (1, .int x1), (2, .int x2), (4, .int x4), (6, .int x6)]) hx hb dX8_stood_122 rfl hl (by decide) rfl (fun ls hl => ?_)
          exact k123 s54 hs54 c0_0 c0_3 c0_9 c0_11 x1 x2 x4 x4 H locs ls hP hD hS (lv_sub hl [1, 2, 3, 0, 4] rfl) hf
      · have hf := it_f hc hf
        refine lv_aload_n hx hb dX8_stood_101 rfl (lv_at hl 0 rfl) ?_
        obtain ⟨u21, hq20, hf⟩ := ob1_d hf
        refine zwvV (q := (RX8, TX8, 37)) (As := []) (rest := []) (u := u21) (wn := (zW_8 cy h0 (ups (ups (ups (ups w0 0 u21) 3 c0_3) 9 c0_9) 11 c0_11))) ⟨hx, hb, hml, hown, hts⟩ (kX8_step l dC dI cy h0 (ups (ups (ups (ups w0 0 c0_0) 3 c0_3) 9 c0_9) 11 c0_11) H.size u21 hq20) mw_734 mw_735 mw_907 mw_9 mw_736 hdX8_step rfl rfl ⟨Nat.le_of_ble_eq_true rfl, Nat.le_of_ble_eq_true rfl⟩ hP hK hG hS 0 rfl rfl hD hA [0, 1, 2, 3, 4, 5, 6, 7, 8, 9, 10, 11, 12, 13] [] [0, 1, 2, 3, 4, 5, 6, 7, 8, 9, 10, 11, 12, 13] rfl rfl rfl rfl (by decide) rfl rfl rfl hl.1 rfl (Nat.le_of_ble_eq_true rfl) dX8_stood_102 ⟨Nat.zero_le _, Nat.zero_le _⟩ (fun H locs hP hD hS => ?_)
        refine lv_zinc (lv' := [(6, .int (x6 + (1 : Int32))), (0, .ref (h0 0)), (1, .int x1), (2, .int x2), (3, .int x3), (4, .int x4)]) hx hb dX8_stood_105 hl (k := 5) rfl (v := (1 : Int32)) (by decide) (by decide) rfl (fun ls hl => ?_)
        refine lv_goto (tgt := 94) hx hb dX8_stood_108 (by decide) ?_
        exact hs94 u21 c0_3 c0_9 c0_11 x1 x2 x3 x4 (x6 + (1 : Int32)) H locs ls hP hD hS (lv_sub hl [1, 2, 3, 4, 5, 0] rfl) hf
  have k54 : ∀ n : Nat, ∀ (c0_0 : (Nat → Int32)) (c0_3 : (Nat → Int32)) (c0_9 : (Nat → Int32)) (c0_11 : (Nat → Int32)) (x1 : Int32) (x2 : Int32) (x3 : Int32) (x4 : Int32) (H : Heap) (locs : List Loc) (ls : Array Slot), va_P (dC, dI) vwCl (zW_8 cy h0 (ups (ups (ups (ups w0 0 c0_0) 3 c0_3) 9 c0_9) 11 c0_11)) H → va_D A (zW_8 cy h0 (ups (ups (ups (ups w0 0 c0_0) 3 c0_3) 9 c0_9) 11 c0_11)) → va_S A s.heap H locs → lv_has ls 7 [(0, .ref (h0 0)), (1, .int x1), (2, .int x2), (3, .int x3), (4, .int x4)] → (zl8 (fX8_stood_54 w0) n) c0_0 c0_3 c0_9 c0_11 x1 x2 x3 x4 = some z → W p l e ({ frames := 4, cells := 0, slots := 0, locals := 90 } : Room) s m args below meth c H locs 0 0 (MQ below (va_Qi (fun (q : Int32) (v : (Nat → Int32) × (Nat → Int32) × (Nat → Int32) × (Nat → Int32)) => (q, v) = z) (fun v => aWR (dC, dI) vwCl [(cy, .int)] A (zW_8 cy h0 (ups (ups (ups (ups w0 0 v.1) 3 v.2.1) 9 v.2.2.1) 11 v.2.2.2))) A) args s 0 0 A) (F0 m 54 ls []) := by
    intro n
    induction n with
    | zero =>
      intro c0_0 c0_3 c0_9 c0_11 x1 x2 x3 x4 H locs ls hP hD hS hl hf
      exact z_no hf
    | succ n hs54 =>
      intro c0_0 c0_3 c0_9 c0_11 x1 x2 x3 x4 H locs ls hP hD hS hl hf
      have hf : fX8_stood_54 w0 (zl8 (fX8_stood_54 w0) n) c0_0 c0_3 c0_9 c0_11 x1 x2 x3 x4 = some z := hf
      generalize zl8 (fX8_stood_54 w0) n = s54 at hs54 hf
      unfold fX8_stood_54 at hf
      refine lv_iload hx hb dX8_stood_54 (lv_at hl 4 rfl) ?_
      refine lv_if_lt (tgt := 133) hx hb dX8_stood_56 (by decide) (fun hc => ?_) (fun hc => ?_)
      · have hf := it_t hc hf
        refine lv_iload_n hx hb dX8_stood_133 rfl (lv_at hl 3 rfl) ?_
        exact zretI hx hb hr hlocks hP hK hD hS hf rfl dX8_stood_134
      · have hf := it_f hc hf
        refine lv_iload_n hx hb dX8_stood_59 rfl (lv_at hl 3 rfl) ?_
        refine lv_if_ge (tgt := 133) hx hb dX8_stood_60 (by decide) (fun hc => ?_) (fun hc => ?_)
        · have hf := it_t hc hf
          refine lv_iload_n hx hb dX8_stood_133 rfl (lv_at hl 3 rfl) ?_
          exact zretI hx hb hr hlocks hP hK hD hS hf rfl dX8_stood_134
        · have hf := it_f hc hf
          refine lv_aload_n hx hb dX8_stood_63 rfl (lv_at hl 0 rfl) ?_
          refine zget hx hb hts hown hK hP hin_8 0 rfl rfl 15 (by decide) mw_605 (v := .int (c0_0 15)) rfl dX8_stood_64 ?_
          refine lv_istore (lv' := [(5, .int (c0_0 15)), (0, .ref (h0 0)), (1, .int x1), (2, .int x2), (3, .int x3), (4, .int x4)]) hx hb dX8_stood_67 hl (by decide) rfl (fun ls hl => ?_)
          refine lv_aload_n hx hb dX8_stood_69 rfl (lv_at hl 1 rfl) ?_
          refine lv_iload_n hx hb dX8_stood_70 rfl (lv_at hl 2 rfl) ?_
          obtain ⟨u16, hq15, hf⟩ := ob1_d hf
          refine zwvV (q := (RX8, TX8, 37)) (As := [.int x1]) (rest := []) (u := u16) (wn := (zW_8 cy h0 (ups (ups (ups (ups w0 0 u16) 3 c0_3) 9 c0_9) 11 c0_11))) ⟨hx, hb, hml, hown, hts⟩ (kX8_lay l dC dI cy h0 (ups (ups (ups (ups w0 0 c0_0) 3 c0_3) 9 c0_9) 11 c0_11) x1 H.size u16 hq15) mw_713 mw_714 mw_903 mw_9 mw_715 hdX8_lay rfl rfl ⟨Nat.le_of_ble_eq_true rfl, Nat.le_of_ble_eq_true rfl⟩ hP hK hG hS 0 rfl rfl hD hA [0, 1, 2, 3, 4, 5, 6, 7, 8, 9, 10, 11, 12, 13] [] [0, 1, 2, 3, 4, 5, 6, 7, 8, 9, 10, 11, 12, 13] rfl rfl rfl rfl (by decide) rfl rfl rfl hl.1 rfl (Nat.le_of_ble_eq_true rfl) dX8_stood_71 ⟨Nat.zero_le _, Nat.zero_le _⟩ (fun H locs hP hD hS => ?_)
          refine lv_aload_n hx hb dX8_stood_74 rfl (lv_at hl 1 rfl) ?_
          refine lv_iload hx hb dX8_stood_75 (lv_at hl 0 rfl) ?_
          refine zput hx hb hts hown hK hP hD hS hin_8 tyX8 tyX8_ok nmX8 0 rfl rfl 15 (by decide) mw_605 rfl (v := .int (c0_0 15)) rfl rfl (Nat.le_of_ble_eq_true rfl) (wn := (zW_8 cy h0 (ups (ups (ups (ups w0 0 (ups u16 15 (c0_0 15))) 3 c0_3) 9 c0_9) 11 c0_11))) rfl dX8_stood_77 (fun H locs hP hD hS => ?_)
          refine lv_aload_n hx hb dX8_stood_80 rfl (lv_at hl 1 rfl) ?_
          refine lv_iload_n hx hb dX8_stood_81 rfl (lv_at hl 3 rfl) ?_
          refine zput hx hb hts hown hK hP hD hS hin_8 tyX8 tyX8_ok nmX8 0 rfl rfl 14 (by decide) mw_604 rfl (v := .int x2) rfl rfl (Nat.le_of_ble_eq_true rfl) (wn := (zW_8 cy h0 (ups (ups (ups (ups w0 0 (ups (ups u16 15 (c0_0 15)) 14 x2)) 3 c0_3) 9 c0_9) 11 c0_11))) rfl dX8_stood_82 (fun H locs hP hD hS => ?_)
          refine lv_aload_n hx hb dX8_stood_85 rfl (lv_at hl 1 rfl) ?_
          refine lv_iload hx hb dX8_stood_86 (lv_at hl 5 rfl) ?_
          refine zput hx hb hts hown hK hP hD hS hin_8 tyX8 tyX8_ok nmX8 0 rfl rfl 21 (by decide) mw_611 rfl (v := .int x4) rfl rfl (Nat.le_of_ble_eq_true rfl) (wn := (zW_8 cy h0 (ups (ups (ups (ups w0 0 (ups (ups (ups u16 15 (c0_0 15)) 14 x2) 21 x4)) 3 c0_3) 9 c0_9) 11 c0_11))) rfl dX8_stood_88 (fun H locs hP hD hS => ?_)
          refine lv_iconst (v := (0 : Int32)) hx hb dX8_stood_91 (by decide) ?_
          refine lv_istore (lv' := [(6, .int (0 : Int32)), (5, .int (c0_0 15)), (0, .ref (h0 0)), (1, .int x1), (2, .int x2), (3, .int x3), (4, .int x4)]) hx hb dX8_stood_92 hl (by decide) rfl (fun ls hl => ?_)
          exact k94 s54 hs54 zFU (ups (ups (ups u16 15 (c0_0 15)) 14 x2) 21 x4) c0_3 c0_9 c0_11 x1 x2 x3 x4 (0 : Int32) H locs ls hP hD hS (lv_sub hl [2, 3, 4, 5, 6, 0] rfl) hf
  obtain ⟨ls, hl, he⟩ := zent (m := m) (n := 7) (L := [(0, .ref (h0 0)), (1, .int x1), (2, .int x2)]) ha (Nat.le_of_ble_eq_true rfl) rfl
  refine W.eq he ?_
  unfold fX8_stood at hf
  have kE : ∀ (H : Heap) (locs : List Loc), va_P (dC, dI) vwCl (zW_8 cy h0 (ups (ups (ups (ups w0 0 (w0 0)) 3 (w0 3)) 9 (w0 9)) 11 (w0 11))) H → va_D A (zW_8 cy h0 (ups (ups (ups (ups w0 0 (w0 0)) 3 (w0 3)) 9 (w0 9)) 11 (w0 11))) → va_S A s.heap H locs → W p l e ({ frames := 4, cells := 0, slots := 0, locals := 90 } : Room) s m args below meth c H locs 0 0 (MQ below (va_Qi (fun (q : Int32) (v : (Nat → Int32) × (Nat → Int32) × (Nat → Int32) × (Nat → Int32)) => (q, v) = z) (fun v => aWR (dC, dI) vwCl [(cy, .int)] A (zW_8 cy h0 (ups (ups (ups (ups w0 0 v.1) 3 v.2.1) 9 v.2.2.1) 11 v.2.2.2))) A) args s 0 0 A) (F0 m 0 ls []) := by
    intro H locs hP hD hS
    refine lv_aload_n hx hb dX8_stood_0 rfl (lv_at hl 0 rfl) ?_
    refine lv_iload_n hx hb dX8_stood_1 rfl (lv_at hl 1 rfl) ?_
    obtain ⟨r2, hq1, hf⟩ := ob1_d hf
    refine zroV (q := (RX8, TX8, 37)) (As := [.int x1]) (rest := []) (r := r2) ⟨hx, hb, hml, hown, hts⟩ (kX8_isCell l dC dI cy h0 (ups (ups (ups (ups w0 0 (w0 0)) 3 (w0 3)) 9 (w0 9)) 11 (w0 11)) x1 r2 hq1) mw_685 mw_686 mw_900 mw_9 mw_687 hdX8_isCell rfl rfl ⟨Nat.le_of_ble_eq_true rfl, Nat.le_of_ble_eq_true rfl⟩ hP hK hG hS 0 rfl rfl [0, 1, 2, 3, 4, 5, 6, 7, 8, 9, 10, 11, 12, 13] rfl rfl hl.1 rfl (Nat.le_of_ble_eq_true rfl) dX8_stood_2 ⟨Nat.zero_le _, Nat.zero_le _⟩ ?_
    refine lv_if_eq (tgt := 15) hx hb dX8_stood_5 (by decide) (fun hc => ?_) (fun hc => ?_)
    · have hf := it_t hc hf
      exact k15 (w0 0) (w0 3) (w0 9) (w0 11) H locs ls hP hD hS (lv_sub hl [0] rfl) hf
    · have hf := it_f hc hf
      refine lv_iload_n hx hb dX8_stood_8 rfl (lv_at hl 2 rfl) ?_
      obtain ⟨r7, hq6, hf⟩ := ob1_d hf
      refine zroS (As := [.int x2]) (rest := []) (r := r7) ⟨hx, hb, hml, hown, hts⟩ (kX8_isDirection l dC dI cy x2 r7 hq6) mw_696 mw_697 mw_9 mw_698 hdX8_isDirection rfl rfl ⟨Nat.le_of_ble_eq_true rfl, Nat.le_of_ble_eq_true rfl⟩ hP hK hG hS [] rfl rfl hl.1 rfl (Nat.le_of_ble_eq_true rfl) dX8_stood_9 ⟨Nat.zero_le _, Nat.zero_le _⟩ ?_
      refine lv_if_ne (tgt := 21) hx hb dX8_stood_12 (by decide) (fun hc => ?_) (fun hc => ?_)
      · have hf := it_f hc hf
        refine lv_aload_n hx hb dX8_stood_21 rfl (lv_at hl 0 rfl) ?_
        refine lv_iload_n hx hb dX8_stood_22 rfl (lv_at hl 1 rfl) ?_
        obtain ⟨r9, hq8, hf⟩ := ob1_d hf
        refine zroV (q := (RX8, TX8, 37)) (As := [.int x1]) (rest := []) (r := r9) ⟨hx, hb, hml, hown, hts⟩ (kX8_bears l dC dI cy h0 (ups (ups (ups (ups w0 0 (w0 0)) 3 (w0 3)) 9 (w0 9)) 11 (w0 11)) x1 r9 hq8) mw_707 mw_708 mw_901 mw_9 mw_709 hdX8_bears rfl rfl ⟨Nat.le_of_ble_eq_true rfl, Nat.le_of_ble_eq_true rfl⟩ hP hK hG hS 0 rfl rfl [0, 1, 2, 3, 4, 5, 6, 7, 8, 9, 10, 11, 12, 13] rfl rfl hl.1 rfl (Nat.le_of_ble_eq_true rfl) dX8_stood_23 ⟨Nat.zero_le _, Nat.zero_le _⟩ ?_
        refine lv_if_eq (tgt := 36) hx hb dX8_stood_26 (by decide) (fun hc => ?_) (fun hc => ?_)
        · have hf := it_t hc hf
          exact k36 (w0 0) (w0 3) (w0 9) (w0 11) H locs ls hP hD hS (lv_sub hl [0] rfl) hf
        · have hf := it_f hc hf
          refine lv_aload_n hx hb dX8_stood_29 rfl (lv_at hl 0 rfl) ?_
          refine zget hx hb hts hown hK hP hin_8 0 rfl rfl 12 (by decide) mw_602 (v := .int (w0 0 12)) rfl dX8_stood_30 ?_
          refine lv_if_ne (tgt := 43) hx hb dX8_stood_33 (by decide) (fun hc => ?_) (fun hc => ?_)
          · have hf := it_f hc hf
            refine lv_aload_n hx hb dX8_stood_43 rfl (lv_at hl 0 rfl) ?_
            obtain ⟨u14, hq13, hf⟩ := ob1_d hf
            refine zwvV (q := (RX8, TX8, 37)) (As := []) (rest := []) (u := u14) (wn := (zW_8 cy h0 (ups (ups (ups (ups w0 0 (w0 0)) 3 (w0 3)) 9 (w0 9)) 11 u14))) ⟨hx, hb, hml, hown, hts⟩ (kX8_keep l dC dI cy h0 (ups (ups (ups (ups w0 0 (w0 0)) 3 (w0 3)) 9 (w0 9)) 11 (w0 11)) H.size u14 hq13) mw_812 mw_813 mw_917 mw_9 mw_814 hdX8_keep rfl rfl ⟨Nat.le_of_ble_eq_true rfl, Nat.le_of_ble_eq_true rfl⟩ hP hK hG hS 0 rfl rfl hD hA [0, 1, 2, 3, 4, 5, 6, 7, 8, 9, 10, 11, 12, 13] [] [0, 1, 2, 3, 4, 5, 6, 7, 8, 9, 10, 11, 12, 13] rfl rfl rfl rfl (by decide) rfl rfl rfl hl.1 rfl (Nat.le_of_ble_eq_true rfl) dX8_stood_44 ⟨Nat.zero_le _, Nat.zero_le _⟩ (fun H locs hP hD hS => ?_)
            refine lv_bipush (v := (-9 : Int32)) hx hb dX8_stood_47 (by decide) ?_
            refine lv_istore_n (lv' := [(3, .int (-9 : Int32)), (0, .ref (h0 0)), (1, .int x1), (2, .int x2)]) hx hb dX8_stood_49 rfl hl (by decide) rfl (fun ls hl => ?_)
            refine lv_bipush (v := (40 : Int32)) hx hb dX8_stood_50 (by decide) ?_
            refine lv_istore (lv' := [(4, .int (40 : Int32)), (3, .int (-9 : Int32)), (0, .ref (h0 0)), (1, .int x1), (2, .int x2)]) hx hb dX8_stood_52 hl (by decide) rfl (fun ls hl => ?_)
            exact k54 zFU (w0 0) (w0 3) (w0 9) u14 x1 x2 (-9 : Int32) (40 : Int32) H locs ls hP hD hS (lv_sub hl [2, 3, 4, 1, 0] rfl) hf
          · have hf := it_t hc hf
            exact k36 (w0 0) (w0 3) (w0 9) (w0 11) H locs ls hP hD hS (lv_sub hl [0] rfl) hf
      · have hf := it_t hc hf
        exact k15 (w0 0) (w0 3) (w0 9) (w0 11) H locs ls hP hD hS (lv_sub hl [0] rfl) hf
  exact kE s.heap [] hP hD hS
set_option maxHeartbeats 4000000 in
set_option maxRecDepth 100000 in
theorem kX8_worth (l : Launch) (dC : Nat → ClassId) (dI : Nat → Nat → Nat) (cy : ClassId) (h0 : Nat → Nat) (w0 : Nat → Nat → Int32) (x1 : Int32) (x2 : Int32) (sz : Nat) (z : Int32 × (Nat → Int32) × (Nat → Int32) × (Nat → Int32) × (Nat → Int32)) (hf : fX8_worth w0 x1 x2 = some z) : Met l yX8_worth (wsM yX8_worth cX8_worth 5 (some .int)) ({ frames := 4, cells := 0, slots := 0, locals := 90 } : Room) (va_Pc [.ref (h0 0), .int x1, .int x2] (pWR (dC, dI) vwCl [(cy, .int)] (zW_8 cy h0 w0) sz)) (va_Qi (fun (q : Int32) (v : (Nat → Int32) × (Nat → Int32) × (Nat → Int32) × (Nat → Int32)) => (q, v) = z) (fun v => aWR (dC, dI) vwCl [(cy, .int)] (va_A (zW_8 cy h0 w0) sz) (zW_8 cy h0 (ups (ups (ups (ups w0 0 v.1) 3 v.2.1) 9 v.2.2.1) 11 v.2.2.2))) (va_A (zW_8 cy h0 w0) sz)) 0 0 (va_A (zW_8 cy h0 w0) sz) := by
  refine Met.ofW (cc := cX8_worth) (maxL := 5) (ret := (some .int)) (by decide) rfl ?_
  intro p e s m args below meth c s₁ B hml hv
  obtain ⟨ha, hsz, hP, hK, hD0, hG⟩ := hv
  have hx := B.exec
  have hb := B.bytes
  have hr := B.returns
  have hts : ∀ w ∈ wsA, w.before args s = true := fun w h => atoms_spec (ws := wsM yX8_worth cX8_worth 5 (some .int)) B.pre w (List.mem_cons_of_mem _ h)
  have hown : s.vm.findClass RX8 = some m.cls := findClass_of_methodNamed B.named
  have hlocks := B.notSynchronized
  subst hsz
  have hD := hD0.self (sz := s.heap.size)
  generalize hAe : va_A (zW_8 cy h0 w0) s.heap.size = A at hD hG ⊢
  have hA : ∀ q : Nat, s.heap.size ≤ q → A q := fun q h => by rw [← hAe]; exact Or.inr h
  have hS : va_S A s.heap s.heap [] := va_S.rf
  have hP : va_P (dC, dI) vwCl (zW_8 cy h0 (ups (ups (ups (ups w0 0 (w0 0)) 3 (w0 3)) 9 (w0 9)) 11 (w0 11))) s.heap := hP
  have hD : va_D A (zW_8 cy h0 (ups (ups (ups (ups w0 0 (w0 0)) 3 (w0 3)) 9 (w0 9)) 11 (w0 11))) := hD
  have k112 : ∀ n : Nat, ∀ (c0_0 : (Nat → Int32)) (c0_3 : (Nat → Int32)) (c0_9 : (Nat → Int32)) (c0_11 : (Nat → Int32)) (x3 : Int32) (x4 : Int32) (H : Heap) (locs : List Loc) (ls : Array Slot), va_P (dC, dI) vwCl (zW_8 cy h0 (ups (ups (ups (ups w0 0 c0_0) 3 c0_3) 9 c0_9) 11 c0_11)) H → va_D A (zW_8 cy h0 (ups (ups (ups (ups w0 0 c0_0) 3 c0_3) 9 c0_9) 11 c0_11)) → va_S A s.heap H locs → lv_has ls 5 [(0, .ref (h0 0)), (3, .int x3), (4, .int x4)] → (zl6 (fX8_worth_112 w0) n) c0_0 c0_3 c0_9 c0_11 x3 x4 = some z → W p l e ({ frames := 4, cells := 0, slots := 0, locals := 90 } : Room) s m args below meth c H locs 0 0 (MQ below (va_Qi (fun (q : Int32) (v : (Nat → Int32) × (Nat → Int32) × (Nat → Int32) × (Nat → Int32)) => (q, v) = z) (fun v => aWR (dC, dI) vwCl [(cy, .int)] A (zW_8 cy h0 (ups (ups (ups (ups w0 0 v.1) 3 v.2.1) 9 v.2.2.1) 11 v.2.2.2))) A) args s 0 0 A) (F0 m 112 ls []) := by
    intro n
    induction n with
    | zero =>
      intro c0_0 c0_3 c0_9 c0_11 x3 x4 H locs ls hP hD hS hl hf
      exact z_no hf
    | succ n hs112 =>
      intro c0_0 c0_3 c0_9 c0_11 x3 x4 H locs ls hP hD hS hl hf
      have hf : fX8_worth_112 w0 (zl6 (fX8_worth_112 w0) n) c0_0 c0_3 c0_9 c0_11 x3 x4 = some z := hf
      generalize zl6 (fX8_worth_112 w0) n = s112 at hs112 hf
      unfold fX8_worth_112 at hf
      refine lv_iload hx hb dX8_worth_112 (lv_at hl 2 rfl) ?_
      refine lv_bipush (v := (30 : Int32)) hx hb dX8_worth_114 (by decide) ?_
      refine lv_icmp_ge (tgt := 129) hx hb dX8_worth_116 (by decide) (fun hc => ?_) (fun hc => ?_)
      · have hf := it_t hc hf
        refine lv_aload_n hx hb dX8_worth_129 rfl (lv_at hl 0 rfl) ?_
        obtain ⟨r11, hq10, hf⟩ := ob1_d hf
        refine zroV (q := (RX8, TX8, 37)) (As := []) (rest := []) (r := r11) ⟨hx, hb, hml, hown, hts⟩ (kX8_lives l dC dI cy h0 (ups (ups (ups (ups w0 0 c0_0) 3 c0_3) 9 c0_9) 11 c0_11) r11 hq10) mw_726 mw_727 mw_906 mw_9 mw_728 hdX8_lives rfl rfl ⟨Nat.le_of_ble_eq_true rfl, Nat.le_of_ble_eq_true rfl⟩ hP hK hG hS 0 rfl rfl [0, 1, 2, 3, 4, 5, 6, 7, 8, 9, 10, 11, 12, 13] rfl rfl hl.1 rfl (Nat.le_of_ble_eq_true rfl) dX8_worth_130 ⟨Nat.zero_le _, Nat.zero_le _⟩ ?_
        refine lv_istore (lv' := [(4, .int r11), (0, .ref (h0 0)), (3, .int x3)]) hx hb dX8_worth_133 hl (by decide) rfl (fun ls hl => ?_)
        refine lv_aload_n hx hb dX8_worth_135 rfl (lv_at hl 1 rfl) ?_
        obtain ⟨u13, u14, hq12, hf⟩ := ob2_d hf
        refine zwvV (q := (RX8, TX8, 37)) (As := []) (rest := []) (u := (u13, u14)) (wn := (zW_8 cy h0 (ups (ups (ups (ups w0 0 u13) 3 u14) 9 c0_9) 11 c0_11))) ⟨hx, hb, hml, hown, hts⟩ (kX8_again l dC dI cy h0 (ups (ups (ups (ups w0 0 c0_0) 3 c0_3) 9 c0_9) 11 c0_11) H.size (u13, u14) hq12) mw_815 mw_816 mw_918 mw_9 mw_817 hdX8_again rfl rfl ⟨Nat.le_of_ble_eq_true rfl, Nat.le_of_ble_eq_true rfl⟩ hP hK hG hS 0 rfl rfl hD hA [0, 1, 2, 3, 4, 5, 6, 7, 8, 9, 10, 11, 12, 13] [] [0, 1, 2, 3, 4, 5, 6, 7, 8, 9, 10, 11, 12, 13] rfl rfl rfl rfl (by decide) rfl rfl rfl hl.1 rfl (Nat.le_of_ble_eq_true rfl) dX8_worth_136 ⟨Nat.zero_le _, Nat.zero_le _⟩ (fun H locs hP hD hS => ?_)
        refine lv_iload hx hb dX8_worth_139 (lv_at hl 0 rfl) ?_
        refine lv_iload_n hx hb dX8_worth_141 rfl (lv_at hl 2 rfl) ?_
        refine lv_isub hx hb dX8_worth_142 ?_
        exact zretI hx hb hr hlocks hP hK hD hS hf rfl dX8_worth_143
      · have hf := it_f hc hf
        refine lv_aload_n hx hb dX8_worth_119 rfl (lv_at hl 0 rfl) ?_
        obtain ⟨u16, hq15, hf⟩ := ob1_d hf
        refine zwvV (q := (RX8, TX8, 37)) (As := []) (rest := []) (u := u16) (wn := (zW_8 cy h0 (ups (ups (ups (ups w0 0 u16) 3 c0_3) 9 c0_9) 11 c0_11))) ⟨hx, hb, hml, hown, hts⟩ (kX8_step l dC dI cy h0 (ups (ups (ups (ups w0 0 c0_0) 3 c0_3) 9 c0_9) 11 c0_11) H.size u16 hq15) mw_734 mw_735 mw_907 mw_9 mw_736 hdX8_step rfl rfl ⟨Nat.le_of_ble_eq_true rfl, Nat.le_of_ble_eq_true rfl⟩ hP hK hG hS 0 rfl rfl hD hA [0, 1, 2, 3, 4, 5, 6, 7, 8, 9, 10, 11, 12, 13] [] [0, 1, 2, 3, 4, 5, 6, 7, 8, 9, 10, 11, 12, 13] rfl rfl rfl rfl (by decide) rfl rfl rfl hl.1 rfl (Nat.le_of_ble_eq_true rfl) dX8_worth_120 ⟨Nat.zero_le _, Nat.zero_le _⟩ (fun H locs hP hD hS => ?_)
        refine lv_zinc (lv' := [(4, .int (x4 + (1 : Int32))), (0, .ref (h0 0)), (3, .int x3)]) hx hb dX8_worth_123 hl (k := 2) rfl (v := (1 : Int32)) (by decide) (by decide) rfl (fun ls hl => ?_)
        refine lv_goto (tgt := 112) hx hb dX8_worth_126 (by decide) ?_
        exact hs112 u16 c0_3 c0_9 c0_11 x3 (x4 + (1 : Int32)) H locs ls hP hD hS (lv_sub hl [1, 2, 0] rfl) hf
  have k69 : ∀ n : Nat, ∀ (c0_0 : (Nat → Int32)) (c0_3 : (Nat → Int32)) (c0_9 : (Nat → Int32)) (c0_11 : (Nat → Int32)) (x1 : Int32) (x2 : Int32) (x3 : Int32) (H : Heap) (locs : List Loc) (ls : Array Slot), va_P (dC, dI) vwCl (zW_8 cy h0 (ups (ups (ups (ups w0 0 c0_0) 3 c0_3) 9 c0_9) 11 c0_11)) H → va_D A (zW_8 cy h0 (ups (ups (ups (ups w0 0 c0_0) 3 c0_3) 9 c0_9) 11 c0_11)) → va_S A s.heap H locs → lv_has ls 5 [(0, .ref (h0 0)), (1, .int x1), (2, .int x2), (3, .int x3)] → (zl7 (fX8_worth_69 w0) n) c0_0 c0_3 c0_9 c0_11 x1 x2 x3 = some z → W p l e ({ frames := 4, cells := 0, slots := 0, locals := 90 } : Room) s m args below meth c H locs 0 0 (MQ below (va_Qi (fun (q : Int32) (v : (Nat → Int32) × (Nat → Int32) × (Nat → Int32) × (Nat → Int32)) => (q, v) = z) (fun v => aWR (dC, dI) vwCl [(cy, .int)] A (zW_8 cy h0 (ups (ups (ups (ups w0 0 v.1) 3 v.2.1) 9 v.2.2.1) 11 v.2.2.2))) A) args s 0 0 A) (F0 m 69 ls []) := by
    intro n
    induction n with
    | zero =>
      intro c0_0 c0_3 c0_9 c0_11 x1 x2 x3 H locs ls hP hD hS hl hf
      exact z_no hf
    | succ n hs69 =>
      intro c0_0 c0_3 c0_9 c0_11 x1 x2 x3 H locs ls hP hD hS hl hf
      have hf : fX8_worth_69 w0 (zl7 (fX8_worth_69 w0) n) c0_0 c0_3 c0_9 c0_11 x1 x2 x3 = some z := hf
      generalize zl7 (fX8_worth_69 w0) n = s69 at hs69 hf
      unfold fX8_worth_69 at hf
      refine lv_iload_n hx hb dX8_worth_69 rfl (lv_at hl 3 rfl) ?_
      refine lv_bipush (v := (30 : Int32)) hx hb dX8_worth_70 (by decide) ?_
      refine lv_icmp_ge (tgt := 85) hx hb dX8_worth_72 (by decide) (fun hc => ?_) (fun hc => ?_)
      · have hf := it_t hc hf
        refine lv_aload_n hx hb dX8_worth_85 rfl (lv_at hl 0 rfl) ?_
        obtain ⟨r6, hq5, hf⟩ := ob1_d hf
        refine zroV (q := (RX8, TX8, 37)) (As := []) (rest := []) (r := r6) ⟨hx, hb, hml, hown, hts⟩ (kX8_lives l dC dI cy h0 (ups (ups (ups (ups w0 0 c0_0) 3 c0_3) 9 c0_9) 11 c0_11) r6 hq5) mw_726 mw_727 mw_906 mw_9 mw_728 hdX8_lives rfl rfl ⟨Nat.le_of_ble_eq_true rfl, Nat.le_of_ble_eq_true rfl⟩ hP hK hG hS 0 rfl rfl [0, 1, 2, 3, 4, 5, 6, 7, 8, 9, 10, 11, 12, 13] rfl rfl hl.1 rfl (Nat.le_of_ble_eq_true rfl) dX8_worth_86 ⟨Nat.zero_le _, Nat.zero_le _⟩ ?_
        refine lv_istore_n (lv' := [(3, .int r6), (0, .ref (h0 0)), (1, .int x1), (2, .int x2)]) hx hb dX8_worth_89 rfl hl (by decide) rfl (fun ls hl => ?_)
        refine lv_aload_n hx hb dX8_worth_90 rfl (lv_at hl 1 rfl) ?_
        obtain ⟨u8, u9, hq7, hf⟩ := ob2_d hf
        refine zwvV (q := (RX8, TX8, 37)) (As := []) (rest := []) (u := (u8, u9)) (wn := (zW_8 cy h0 (ups (ups (ups (ups w0 0 u8) 3 u9) 9 c0_9) 11 c0_11))) ⟨hx, hb, hml, hown, hts⟩ (kX8_again l dC dI cy h0 (ups (ups (ups (ups w0 0 c0_0) 3 c0_3) 9 c0_9) 11 c0_11) H.size (u8, u9) hq7) mw_815 mw_816 mw_918 mw_9 mw_817 hdX8_again rfl rfl ⟨Nat.le_of_ble_eq_true rfl, Nat.le_of_ble_eq_true rfl⟩ hP hK hG hS 0 rfl rfl hD hA [0, 1, 2, 3, 4, 5, 6, 7, 8, 9, 10, 11, 12, 13] [] [0, 1, 2, 3, 4, 5, 6, 7, 8, 9, 10, 11, 12, 13] rfl rfl rfl rfl (by decide) rfl rfl rfl hl.1 rfl (Nat.le_of_ble_eq_true rfl) dX8_worth_91 ⟨Nat.zero_le _, Nat.zero_le _⟩ (fun H locs hP hD hS => ?_)
        refine lv_aload_n hx hb dX8_worth_94 rfl (lv_at hl 1 rfl) ?_
        refine lv_aload_n hx hb dX8_worth_95 rfl (lv_at hl 1 rfl) ?_
        refine zget hx hb hts hown hK hP hin_8 0 rfl rfl 21 (by decide) mw_611 (v := .int (u8 21)) rfl dX8_worth_96 ?_
        refine lv_iload_n hx hb dX8_worth_99 rfl (lv_at hl 2 rfl) ?_
        refine lv_iadd hx hb dX8_worth_100 ?_
        refine zput hx hb hts hown hK hP hD hS hin_8 tyX8 tyX8_ok nmX8 0 rfl rfl 26 (by decide) mw_616 rfl (v := .int ((u8 21) + x1)) rfl rfl (Nat.le_of_ble_eq_true rfl) (wn := (zW_8 cy h0 (ups (ups (ups (ups w0 0 (ups u8 26 ((u8 21) + x1))) 3 u9) 9 c0_9) 11 c0_11))) rfl dX8_worth_101 (fun H locs hP hD hS => ?_)
        refine lv_aload_n hx hb dX8_worth_104 rfl (lv_at hl 1 rfl) ?_
        refine lv_iload_n hx hb dX8_worth_105 rfl (lv_at hl 3 rfl) ?_
        refine zput hx hb hts hown hK hP hD hS hin_8 tyX8 tyX8_ok nmX8 0 rfl rfl 27 (by decide) mw_617 rfl (v := .int x2) rfl rfl (Nat.le_of_ble_eq_true rfl) (wn := (zW_8 cy h0 (ups (ups (ups (ups w0 0 (ups (ups u8 26 ((u8 21) + x1)) 27 x2)) 3 u9) 9 c0_9) 11 c0_11))) rfl dX8_worth_106 (fun H locs hP hD hS => ?_)
        refine lv_iconst (v := (0 : Int32)) hx hb dX8_worth_109 (by decide) ?_
        refine lv_istore (lv' := [(4, .int (0 : Int32)), (3, .int r6), (0, .ref (h0 0)), (1, .int x1), (2, .int x2)]) hx hb dX8_worth_110 hl (by decide) rfl (fun ls hl => ?_)
        exact k112 zFU (ups (ups u8 26 ((u8 21) + x1)) 27 x2) u9 c0_9 c0_11 r6 (0 : Int32) H locs ls hP hD hS (lv_sub hl [2, 1, 0] rfl) hf
      · have hf := it_f hc hf
        refine lv_aload_n hx hb dX8_worth_75 rfl (lv_at hl 0 rfl) ?_
        obtain ⟨u18, hq17, hf⟩ := ob1_d hf
        refine zwvV (q := (RX8, TX8, 37)) (As := []) (rest := []) (u := u18) (wn := (zW_8 cy h0 (ups (ups (ups (ups w0 0 u18) 3 c0_3) 9 c0_9) 11 c0_11))) ⟨hx, hb, hml, hown, hts⟩ (kX8_step l dC dI cy h0 (ups (ups (ups (ups w0 0 c0_0) 3 c0_3) 9 c0_9) 11 c0_11) H.size u18 hq17) mw_734 mw_735 mw_907 mw_9 mw_736 hdX8_step rfl rfl ⟨Nat.le_of_ble_eq_true rfl, Nat.le_of_ble_eq_true rfl⟩ hP hK hG hS 0 rfl rfl hD hA [0, 1, 2, 3, 4, 5, 6, 7, 8, 9, 10, 11, 12, 13] [] [0, 1, 2, 3, 4, 5, 6, 7, 8, 9, 10, 11, 12, 13] rfl rfl rfl rfl (by decide) rfl rfl rfl hl.1 rfl (Nat.le_of_ble_eq_true rfl) dX8_worth_76 ⟨Nat.zero_le _, Nat.zero_le _⟩ (fun H locs hP hD hS => ?_)
        refine lv_zinc (lv' := [(3, .int (x3 + (1 : Int32))), (0, .ref (h0 0)), (1, .int x1), (2, .int x2)]) hx hb dX8_worth_79 hl (k := 3) rfl (v := (1 : Int32)) (by decide) (by decide) rfl (fun ls hl => ?_)
        refine lv_goto (tgt := 69) hx hb dX8_worth_82 (by decide) ?_
        exact hs69 u18 c0_3 c0_9 c0_11 x1 x2 (x3 + (1 : Int32)) H locs ls hP hD hS (lv_sub hl [1, 2, 3, 0] rfl) hf
  obtain ⟨ls, hl, he⟩ := zent (m := m) (n := 5) (L := [(0, .ref (h0 0)), (1, .int x1), (2, .int x2)]) ha (Nat.le_of_ble_eq_true rfl) rfl
  refine W.eq he ?_
  unfold fX8_worth at hf
  have kE : ∀ (H : Heap) (locs : List Loc), va_P (dC, dI) vwCl (zW_8 cy h0 (ups (ups (ups (ups w0 0 (w0 0)) 3 (w0 3)) 9 (w0 9)) 11 (w0 11))) H → va_D A (zW_8 cy h0 (ups (ups (ups (ups w0 0 (w0 0)) 3 (w0 3)) 9 (w0 9)) 11 (w0 11))) → va_S A s.heap H locs → W p l e ({ frames := 4, cells := 0, slots := 0, locals := 90 } : Room) s m args below meth c H locs 0 0 (MQ below (va_Qi (fun (q : Int32) (v : (Nat → Int32) × (Nat → Int32) × (Nat → Int32) × (Nat → Int32)) => (q, v) = z) (fun v => aWR (dC, dI) vwCl [(cy, .int)] A (zW_8 cy h0 (ups (ups (ups (ups w0 0 v.1) 3 v.2.1) 9 v.2.2.1) 11 v.2.2.2))) A) args s 0 0 A) (F0 m 0 ls []) := by
    intro H locs hP hD hS
    refine lv_iload_n hx hb dX8_worth_0 rfl (lv_at hl 2 rfl) ?_
    obtain ⟨r2, hq1, hf⟩ := ob1_d hf
    refine zroS (As := [.int x2]) (rest := []) (r := r2) ⟨hx, hb, hml, hown, hts⟩ (kX8_isDirection l dC dI cy x2 r2 hq1) mw_696 mw_697 mw_9 mw_698 hdX8_isDirection rfl rfl ⟨Nat.le_of_ble_eq_true rfl, Nat.le_of_ble_eq_true rfl⟩ hP hK hG hS [] rfl rfl hl.1 rfl (Nat.le_of_ble_eq_true rfl) dX8_worth_1 ⟨Nat.zero_le _, Nat.zero_le _⟩ ?_
    refine lv_if_ne (tgt := 16) hx hb dX8_worth_4 (by decide) (fun hc => ?_) (fun hc => ?_)
    · have hf := it_f hc hf
      refine lv_iload_n hx hb dX8_worth_16 rfl (lv_at hl 1 rfl) ?_
      refine lv_if_ge (tgt := 30) hx hb dX8_worth_17 (by decide) (fun hc => ?_) (fun hc => ?_)
      · have hf := it_t hc hf
        refine lv_iload_n hx hb dX8_worth_30 rfl (lv_at hl 1 rfl) ?_
        refine lv_bipush (v := (29 : Int32)) hx hb dX8_worth_31 (by decide) ?_
        refine lv_icmp_le (tgt := 46) hx hb dX8_worth_33 (by decide) (fun hc => ?_) (fun hc => ?_)
        · have hf := it_t hc hf
          refine lv_aload_n hx hb dX8_worth_46 rfl (lv_at hl 0 rfl) ?_
          refine zget hx hb hts hown hK hP hin_8 0 rfl rfl 12 (by decide) mw_602 (v := .int (w0 0 12)) rfl dX8_worth_47 ?_
          refine lv_if_ne (tgt := 63) hx hb dX8_worth_50 (by decide) (fun hc => ?_) (fun hc => ?_)
          · have hf := it_f hc hf
            refine lv_aload_n hx hb dX8_worth_63 rfl (lv_at hl 0 rfl) ?_
            obtain ⟨u4, hq3, hf⟩ := ob1_d hf
            refine zwvV (q := (RX8, TX8, 37)) (As := []) (rest := []) (u := u4) (wn := (zW_8 cy h0 (ups (ups (ups (ups w0 0 (w0 0)) 3 (w0 3)) 9 (w0 9)) 11 u4))) ⟨hx, hb, hml, hown, hts⟩ (kX8_keep l dC dI cy h0 (ups (ups (ups (ups w0 0 (w0 0)) 3 (w0 3)) 9 (w0 9)) 11 (w0 11)) H.size u4 hq3) mw_812 mw_813 mw_917 mw_9 mw_814 hdX8_keep rfl rfl ⟨Nat.le_of_ble_eq_true rfl, Nat.le_of_ble_eq_true rfl⟩ hP hK hG hS 0 rfl rfl hD hA [0, 1, 2, 3, 4, 5, 6, 7, 8, 9, 10, 11, 12, 13] [] [0, 1, 2, 3, 4, 5, 6, 7, 8, 9, 10, 11, 12, 13] rfl rfl rfl rfl (by decide) rfl rfl rfl hl.1 rfl (Nat.le_of_ble_eq_true rfl) dX8_worth_64 ⟨Nat.zero_le _, Nat.zero_le _⟩ (fun H locs hP hD hS => ?_)
            refine lv_iconst (v := (0 : Int32)) hx hb dX8_worth_67 (by decide) ?_
            refine lv_istore_n (lv' := [(3, .int (0 : Int32)), (0, .ref (h0 0)), (1, .int x1), (2, .int x2)]) hx hb dX8_worth_68 rfl hl (by decide) rfl (fun ls hl => ?_)
            exact k69 zFU (w0 0) (w0 3) (w0 9) u4 x1 x2 (0 : Int32) H locs ls hP hD hS (lv_sub hl [1, 2, 3, 0] rfl) hf
          · have hf := it_t hc hf
            refine lv_ldc (v := (1000000000 : Int32)) hx hb hown (hts _ mw_822) dX8_worth_53 ?_
            refine lv_aload_n hx hb dX8_worth_55 rfl (lv_at hl 0 rfl) ?_
            refine lv_bipush (v := (-3 : Int32)) hx hb dX8_worth_56 (by decide) ?_
            obtain ⟨r20, u21, hq19, hf⟩ := ob2_d hf
            refine zwiV (q := (RX8, TX8, 37)) (As := [.int (-3 : Int32)]) (rest := [.int (1000000000 : Int32)]) (r := r20) (u := u21) (wn := (zW_8 cy h0 (ups (ups (ups (ups w0 0 (w0 0)) 3 (w0 3)) 9 u21) 11 (w0 11)))) ⟨hx, hb, hml, hown, hts⟩ (kX8_no l dC dI cy h0 (ups (ups (ups (ups w0 0 (w0 0)) 3 (w0 3)) 9 (w0 9)) 11 (w0 11)) (-3 : Int32) H.size (r20, u21) hq19) mw_668 mw_669 mw_898 mw_9 mw_670 hdX8_no rfl rfl ⟨Nat.le_of_ble_eq_true rfl, Nat.le_of_ble_eq_true rfl⟩ hP hK hG hS 0 rfl rfl hD hA [0, 1, 2, 3, 4, 5, 6, 7, 8, 9, 10, 11, 12, 13] [] [0, 1, 2, 3, 4, 5, 6, 7, 8, 9, 10, 11, 12, 13] rfl rfl rfl rfl (by decide) rfl rfl rfl hl.1 rfl (Nat.le_of_ble_eq_true rfl) dX8_worth_58 ⟨Nat.zero_le _, Nat.zero_le _⟩ (fun H locs hP hD hS => ?_)
            refine lv_isub hx hb dX8_worth_61 ?_
            exact zretI hx hb hr hlocks hP hK hD hS hf rfl dX8_worth_62
        · have hf := it_f hc hf
          refine lv_ldc (v := (1000000000 : Int32)) hx hb hown (hts _ mw_822) dX8_worth_36 ?_
          refine lv_aload_n hx hb dX8_worth_38 rfl (lv_at hl 0 rfl) ?_
          refine lv_bipush (v := (-6 : Int32)) hx hb dX8_worth_39 (by decide) ?_
          obtain ⟨r23, u24, hq22, hf⟩ := ob2_d hf
          refine zwiV (q := (RX8, TX8, 37)) (As := [.int (-6 : Int32)]) (rest := [.int (1000000000 : Int32)]) (r := r23) (u := u24) (wn := (zW_8 cy h0 (ups (ups (ups (ups w0 0 (w0 0)) 3 (w0 3)) 9 u24) 11 (w0 11)))) ⟨hx, hb, hml, hown, hts⟩ (kX8_no l dC dI cy h0 (ups (ups (ups (ups w0 0 (w0 0)) 3 (w0 3)) 9 (w0 9)) 11 (w0 11)) (-6 : Int32) H.size (r23, u24) hq22) mw_668 mw_669 mw_898 mw_9 mw_670 hdX8_no rfl rfl ⟨Nat.le_of_ble_eq_true rfl, Nat.le_of_ble_eq_true rfl⟩ hP hK hG hS 0 rfl rfl hD hA [0, 1, 2, 3, 4, 5, 6, 7, 8, 9, 10, 11, 12, 13] [] [0, 1, 2, 3, 4, 5, 6, 7, 8, 9, 10, 11, 12, 13] rfl rfl rfl rfl (by decide) rfl rfl rfl hl.1 rfl (Nat.le_of_ble_eq_true rfl) dX8_worth_41 ⟨Nat.zero_le _, Nat.zero_le _⟩ (fun H locs hP hD hS => ?_)
          refine lv_isub hx hb dX8_worth_44 ?_
          exact zretI hx hb hr hlocks hP hK hD hS hf rfl dX8_worth_45
      · have hf := it_f hc hf
        refine lv_ldc (v := (1000000000 : Int32)) hx hb hown (hts _ mw_822) dX8_worth_20 ?_
        refine lv_aload_n hx hb dX8_worth_22 rfl (lv_at hl 0 rfl) ?_
        refine lv_bipush (v := (-4 : Int32)) hx hb dX8_worth_23 (by decide) ?_
        obtain ⟨r26, u27, hq25, hf⟩ := ob2_d hf
        refine zwiV (q := (RX8, TX8, 37)) (As := [.int (-4 : Int32)]) (rest := [.int (1000000000 : Int32)]) (r := r26) (u := u27) (wn := (zW_8 cy h0 (ups (ups (ups (ups w0 0 (w0 0)) 3 (w0 3)) 9 u27) 11 (w0 11)))) ⟨hx, hb, hml, hown, hts⟩ (kX8_no l dC dI cy h0 (ups (ups (ups (ups w0 0 (w0 0)) 3 (w0 3)) 9 (w0 9)) 11 (w0 11)) (-4 : Int32) H.size (r26, u27) hq25) mw_668 mw_669 mw_898 mw_9 mw_670 hdX8_no rfl rfl ⟨Nat.le_of_ble_eq_true rfl, Nat.le_of_ble_eq_true rfl⟩ hP hK hG hS 0 rfl rfl hD hA [0, 1, 2, 3, 4, 5, 6, 7, 8, 9, 10, 11, 12, 13] [] [0, 1, 2, 3, 4, 5, 6, 7, 8, 9, 10, 11, 12, 13] rfl rfl rfl rfl (by decide) rfl rfl rfl hl.1 rfl (Nat.le_of_ble_eq_true rfl) dX8_worth_25 ⟨Nat.zero_le _, Nat.zero_le _⟩ (fun H locs hP hD hS => ?_)
        refine lv_isub hx hb dX8_worth_28 ?_
        exact zretI hx hb hr hlocks hP hK hD hS hf rfl dX8_worth_29
    · have hf := it_t hc hf
      refine lv_ldc (v := (1000000000 : Int32)) hx hb hown (hts _ mw_822) dX8_worth_7 ?_
      refine lv_aload_n hx hb dX8_worth_9 rfl (lv_at hl 0 rfl) ?_
      refine lv_iconst (v := (-1 : Int32)) hx hb dX8_worth_10 (by decide) ?_
      obtain ⟨r29, u30, hq28, hf⟩ := ob2_d hf
      refine zwiV (q := (RX8, TX8, 37)) (As := [.int (-1 : Int32)]) (rest := [.int (1000000000 : Int32)]) (r := r29) (u := u30) (wn := (zW_8 cy h0 (ups (ups (ups (ups w0 0 (w0 0)) 3 (w0 3)) 9 u30) 11 (w0 11)))) ⟨hx, hb, hml, hown, hts⟩ (kX8_no l dC dI cy h0 (ups (ups (ups (ups w0 0 (w0 0)) 3 (w0 3)) 9 (w0 9)) 11 (w0 11)) (-1 : Int32) H.size (r29, u30) hq28) mw_668 mw_669 mw_898 mw_9 mw_670 hdX8_no rfl rfl ⟨Nat.le_of_ble_eq_true rfl, Nat.le_of_ble_eq_true rfl⟩ hP hK hG hS 0 rfl rfl hD hA [0, 1, 2, 3, 4, 5, 6, 7, 8, 9, 10, 11, 12, 13] [] [0, 1, 2, 3, 4, 5, 6, 7, 8, 9, 10, 11, 12, 13] rfl rfl rfl rfl (by decide) rfl rfl rfl hl.1 rfl (Nat.le_of_ble_eq_true rfl) dX8_worth_11 ⟨Nat.zero_le _, Nat.zero_le _⟩ (fun H locs hP hD hS => ?_)
      refine lv_isub hx hb dX8_worth_14 ?_
      exact zretI hx hb hr hlocks hP hK hD hS hf rfl dX8_worth_15
  exact kE s.heap [] hP hD hS
set_option maxHeartbeats 4000000 in
set_option maxRecDepth 100000 in
theorem kX8_light (l : Launch) (dC : Nat → ClassId) (dI : Nat → Nat → Nat) (cy : ClassId) (h0 : Nat → Nat) (w0 : Nat → Nat → Int32) (z : Int32) (hf : fX8_light w0 = some z) : Met l yX8_light (wsM yX8_light cX8_light 7 (some .int)) ({ frames := 1, cells := 0, slots := 0, locals := 24 } : Room) (va_Pc [.ref (h0 0)] (pRO (dC, dI) vwCl [(cy, .int)] (zW_8 cy h0 w0))) (vp_Si (fun q => q = z)) 0 0 (fun _ => False) := by
  refine Met.ofW (cc := cX8_light) (maxL := 7) (ret := (some .int)) (by decide) rfl ?_
  intro p e s m args below meth c s₁ B hml hv
  obtain ⟨ha, hP, hK, hG⟩ := hv
  have hx := B.exec
  have hb := B.bytes
  have hr := B.returns
  have hts : ∀ w ∈ wsA, w.before args s = true := fun w h => atoms_spec (ws := wsM yX8_light cX8_light 7 (some .int)) B.pre w (List.mem_cons_of_mem _ h)
  have hown : s.vm.findClass RX8 = some m.cls := findClass_of_methodNamed B.named
  have hlocks := B.notSynchronized
  have hS : va_S (fun _ => False) s.heap s.heap [] := va_S.rf
  have k117 : ∀ (s7 : Int32 → Int32 → Int32 → Option (Int32)) (hs7 : ∀ (x1 : Int32) (x2 : Int32) (x3 : Int32) (ls : Array Slot), lv_has ls 7 [(0, .ref (h0 0)), (1, .int x1), (2, .int x2), (3, .int x3)] → s7 x1 x2 x3 = some z → W p l e ({ frames := 1, cells := 0, slots := 0, locals := 24 } : Room) s m args below meth c s.heap [] 0 0 (MQ below (vp_Si (fun q => q = z)) args s 0 0 (fun _ => False)) (F0 m 7 ls [])), ∀ (x1 : Int32) (x2 : Int32) (x3 : Int32) (ls : Array Slot), lv_has ls 7 [(0, .ref (h0 0)), (1, .int x1), (2, .int x2), (3, .int x3)] → (fX8_light_117 w0 s7) x1 x2 x3 = some z → W p l e ({ frames := 1, cells := 0, slots := 0, locals := 24 } : Room) s m args below meth c s.heap [] 0 0 (MQ below (vp_Si (fun q => q = z)) args s 0 0 (fun _ => False)) (F0 m 117 ls []) := by
    intro s7 hs7
    intro x1 x2 x3 ls hl hf
    unfold fX8_light_117 at hf
    refine lv_zinc (lv' := [(3, .int (x3 + (1 : Int32))), (0, .ref (h0 0)), (1, .int x1), (2, .int x2)]) hx hb dX8_light_117 hl (k := 3) rfl (v := (1 : Int32)) (by decide) (by decide) rfl (fun ls hl => ?_)
    refine lv_goto (tgt := 7) hx hb dX8_light_120 (by decide) ?_
    exact hs7 x1 x2 (x3 + (1 : Int32)) ls (lv_sub hl [1, 2, 3, 0] rfl) hf
  have k97 : ∀ (s7 : Int32 → Int32 → Int32 → Option (Int32)) (hs7 : ∀ (x1 : Int32) (x2 : Int32) (x3 : Int32) (ls : Array Slot), lv_has ls 7 [(0, .ref (h0 0)), (1, .int x1), (2, .int x2), (3, .int x3)] → s7 x1 x2 x3 = some z → W p l e ({ frames := 1, cells := 0, slots := 0, locals := 24 } : Room) s m args below meth c s.heap [] 0 0 (MQ below (vp_Si (fun q => q = z)) args s 0 0 (fun _ => False)) (F0 m 7 ls [])), ∀ (s38 : Int32 → Int32 → Int32 → Int32 → Int32 → Option (Int32)) (hs38 : ∀ (x1 : Int32) (x2 : Int32) (x3 : Int32) (x4 : Int32) (x5 : Int32) (ls : Array Slot), lv_has ls 7 [(0, .ref (h0 0)), (1, .int x1), (2, .int x2), (3, .int x3), (4, .int x4), (5, .int x5)] → s38 x1 x2 x3 x4 x5 = some z → W p l e ({ frames := 1, cells := 0, slots := 0, locals := 24 } : Room) s m args below meth c s.heap [] 0 0 (MQ below (vp_Si (fun q => q = z)) args s 0 0 (fun _ => False)) (F0 m 38 ls [])), ∀ (x1 : Int32) (x2 : Int32) (x3 : Int32) (x4 : Int32) (x5 : Int32) (ls : Array Slot), lv_has ls 7 [(0, .ref (h0 0)), (1, .int x1), (2, .int x2), (3, .int x3), (4, .int x4), (5, .int x5)] → (fX8_light_97 w0 s7 s38) x1 x2 x3 x4 x5 = some z → W p l e ({ frames := 1, cells := 0, slots := 0, locals := 24 } : Room) s m args below meth c s.heap [] 0 0 (MQ below (vp_Si (fun q => q = z)) args s 0 0 (fun _ => False)) (F0 m 97 ls []) := by
    intro s7 hs7 s38 hs38
    intro x1 x2 x3 x4 x5 ls hl hf
    unfold fX8_light_97 at hf
    refine lv_zinc (lv' := [(5, .int (x5 + (1 : Int32))), (0, .ref (h0 0)), (1, .int x1), (2, .int x2), (3, .int x3), (4, .int x4)]) hx hb dX8_light_97 hl (k := 5) rfl (v := (1 : Int32)) (by decide) (by decide) rfl (fun ls hl => ?_)
    refine lv_goto (tgt := 38) hx hb dX8_light_100 (by decide) ?_
    exact hs38 x1 x2 x3 x4 (x5 + (1 : Int32)) ls (lv_sub hl [1, 2, 3, 4, 5, 0] rfl) hf
  have k84 : ∀ (s7 : Int32 → Int32 → Int32 → Option (Int32)) (hs7 : ∀ (x1 : Int32) (x2 : Int32) (x3 : Int32) (ls : Array Slot), lv_has ls 7 [(0, .ref (h0 0)), (1, .int x1), (2, .int x2), (3, .int x3)] → s7 x1 x2 x3 = some z → W p l e ({ frames := 1, cells := 0, slots := 0, locals := 24 } : Room) s m args below meth c s.heap [] 0 0 (MQ below (vp_Si (fun q => q = z)) args s 0 0 (fun _ => False)) (F0 m 7 ls [])), ∀ (s38 : Int32 → Int32 → Int32 → Int32 → Int32 → Option (Int32)) (hs38 : ∀ (x1 : Int32) (x2 : Int32) (x3 : Int32) (x4 : Int32) (x5 : Int32) (ls : Array Slot), lv_has ls 7 [(0, .ref (h0 0)), (1, .int x1), (2, .int x2), (3, .int x3), (4, .int x4), (5, .int x5)] → s38 x1 x2 x3 x4 x5 = some z → W p l e ({ frames := 1, cells := 0, slots := 0, locals := 24 } : Room) s m args below meth c s.heap [] 0 0 (MQ below (vp_Si (fun q => q = z)) args s 0 0 (fun _ => False)) (F0 m 38 ls [])), ∀ (s54 : Int32 → Int32 → Int32 → Int32 → Int32 → Int32 → Option (Int32)) (hs54 : ∀ (x1 : Int32) (x2 : Int32) (x3 : Int32) (x4 : Int32) (x5 : Int32) (x6 : Int32) (ls : Array Slot), lv_has ls 7 [(0, .ref (h0 0)), (1, .int x1), (2, .int x2), (3, .int x3), (4, .int x4), (5, .int x5), (6, .int x6)] → s54 x1 x2 x3 x4 x5 x6 = some z → W p l e ({ frames := 1, cells := 0, slots := 0, locals := 24 } : Room) s m args below meth c s.heap [] 0 0 (MQ below (vp_Si (fun q => q = z)) args s 0 0 (fun _ => False)) (F0 m 54 ls [])), ∀ (x1 : Int32) (x2 : Int32) (x3 : Int32) (x4 : Int32) (x5 : Int32) (x6 : Int32) (ls : Array Slot), lv_has ls 7 [(0, .ref (h0 0)), (1, .int x1), (2, .int x2), (3, .int x3), (4, .int x4), (5, .int x5), (6, .int x6)] → (fX8_light_84 w0 s7 s38 s54) x1 x2 x3 x4 x5 x6 = some z → W p l e ({ frames := 1, cells := 0, slots := 0, locals := 24 } : Room) s m args below meth c s.heap [] 0 0 (MQ below (vp_Si (fun q => q = z)) args s 0 0 (fun _ => False)) (F0 m 84 ls []) := by
    intro s7 hs7 s38 hs38 s54 hs54
    intro x1 x2 x3 x4 x5 x6 ls hl hf
    unfold fX8_light_84 at hf
    refine lv_aload_n hx hb dX8_light_84 rfl (lv_at hl 0 rfl) ?_
    refine lv_iload hx hb dX8_light_85 (lv_at hl 6 rfl) ?_
    refine lv_iload hx hb dX8_light_87 (lv_at hl 5 rfl) ?_
    obtain ⟨r7, hq6, hf⟩ := ob1_d hf
    refine zroV (q := (RX8, TX8, 37)) (As := [.int x6, .int x5]) (rest := []) (r := r7) ⟨hx, hb, hml, hown, hts⟩ (kX8_beside l dC dI cy h0 w0 x6 x5 r7 hq6) mw_743 mw_744 mw_910 mw_9 mw_745 hdX8_beside rfl rfl ⟨Nat.le_of_ble_eq_true rfl, Nat.le_of_ble_eq_true rfl⟩ hP hK hG hS 0 rfl rfl [0, 1, 2, 3, 4, 5, 6, 7, 8, 9, 10, 11, 12, 13] rfl rfl hl.1 rfl (Nat.le_of_ble_eq_true rfl) dX8_light_89 ⟨Nat.zero_le _, Nat.zero_le _⟩ ?_
    refine lv_istore (lv' := [(6, .int r7), (0, .ref (h0 0)), (1, .int x1), (2, .int x2), (3, .int x3), (4, .int x4), (5, .int x5)]) hx hb dX8_light_92 hl (by decide) rfl (fun ls hl => ?_)
    refine lv_goto (tgt := 54) hx hb dX8_light_94 (by decide) ?_
    exact hs54 x1 x2 x3 x4 x5 r7 ls (lv_sub hl [1, 2, 3, 4, 5, 6, 0] rfl) hf
  have k54 : ∀ (s7 : Int32 → Int32 → Int32 → Option (Int32)) (hs7 : ∀ (x1 : Int32) (x2 : Int32) (x3 : Int32) (ls : Array Slot), lv_has ls 7 [(0, .ref (h0 0)), (1, .int x1), (2, .int x2), (3, .int x3)] → s7 x1 x2 x3 = some z → W p l e ({ frames := 1, cells := 0, slots := 0, locals := 24 } : Room) s m args below meth c s.heap [] 0 0 (MQ below (vp_Si (fun q => q = z)) args s 0 0 (fun _ => False)) (F0 m 7 ls [])), ∀ (s38 : Int32 → Int32 → Int32 → Int32 → Int32 → Option (Int32)) (hs38 : ∀ (x1 : Int32) (x2 : Int32) (x3 : Int32) (x4 : Int32) (x5 : Int32) (ls : Array Slot), lv_has ls 7 [(0, .ref (h0 0)), (1, .int x1), (2, .int x2), (3, .int x3), (4, .int x4), (5, .int x5)] → s38 x1 x2 x3 x4 x5 = some z → W p l e ({ frames := 1, cells := 0, slots := 0, locals := 24 } : Room) s m args below meth c s.heap [] 0 0 (MQ below (vp_Si (fun q => q = z)) args s 0 0 (fun _ => False)) (F0 m 38 ls [])), ∀ n : Nat, ∀ (x1 : Int32) (x2 : Int32) (x3 : Int32) (x4 : Int32) (x5 : Int32) (x6 : Int32) (ls : Array Slot), lv_has ls 7 [(0, .ref (h0 0)), (1, .int x1), (2, .int x2), (3, .int x3), (4, .int x4), (5, .int x5), (6, .int x6)] → (zl6 (fX8_light_54 w0 s7 s38) n) x1 x2 x3 x4 x5 x6 = some z → W p l e ({ frames := 1, cells := 0, slots := 0, locals := 24 } : Room) s m args below meth c s.heap [] 0 0 (MQ below (vp_Si (fun q => q = z)) args s 0 0 (fun _ => False)) (F0 m 54 ls []) := by
    intro s7 hs7 s38 hs38
    intro n
    induction n with
    | zero =>
      intro x1 x2 x3 x4 x5 x6 ls hl hf
      exact z_no hf
    | succ n hs54 =>
      intro x1 x2 x3 x4 x5 x6 ls hl hf
      have hf : fX8_light_54 w0 s7 s38 (zl6 (fX8_light_54 w0 s7 s38) n) x1 x2 x3 x4 x5 x6 = some z := hf
      generalize zl6 (fX8_light_54 w0 s7 s38) n = s54 at hs54 hf
      unfold fX8_light_54 at hf
      refine lv_iload hx hb dX8_light_54 (lv_at hl 6 rfl) ?_
      refine lv_if_lt (tgt := 97) hx hb dX8_light_56 (by decide) (fun hc => ?_) (fun hc => ?_)
      · have hf := it_t hc hf
        exact k97 s7 hs7 s38 hs38 x1 x2 x3 x4 x5 ls (lv_sub hl [0, 1, 2, 3, 4, 5] rfl) hf
      · have hf := it_f hc hf
        refine lv_aload_n hx hb dX8_light_59 rfl (lv_at hl 0 rfl) ?_
        refine zget hx hb hts hown hK hP hin_8 0 rfl rfl 2 (by decide) mw_592 (v := .ref (h0 1)) rfl dX8_light_60 ?_
        refine lv_iload hx hb dX8_light_63 (lv_at hl 6 rfl) ?_
        obtain ⟨hin4, hf⟩ := gd_d hf
        refine va_iald hx hb hK hP 1 0 rfl rfl hin4 dX8_light_65 ?_
        refine lv_if_eq (tgt := 97) hx hb dX8_light_66 (by decide) (fun hc => ?_) (fun hc => ?_)
        · have hf := it_t hc hf
          exact k97 s7 hs7 s38 hs38 x1 x2 x3 x4 x5 ls (lv_sub hl [0, 1, 2, 3, 4, 5] rfl) hf
        · have hf := it_f hc hf
          refine lv_aload_n hx hb dX8_light_69 rfl (lv_at hl 0 rfl) ?_
          refine zget hx hb hts hown hK hP hin_8 0 rfl rfl 2 (by decide) mw_592 (v := .ref (h0 1)) rfl dX8_light_70 ?_
          refine lv_iload hx hb dX8_light_73 (lv_at hl 6 rfl) ?_
          obtain ⟨hin5, hf⟩ := gd_d hf
          refine va_iald hx hb hK hP 1 0 rfl rfl hin5 dX8_light_75 ?_
          refine lv_bipush (v := (30 : Int32)) hx hb dX8_light_76 (by decide) ?_
          refine lv_icmp_ge (tgt := 84) hx hb dX8_light_78 (by decide) (fun hc => ?_) (fun hc => ?_)
          · have hf := it_t hc hf
            exact k84 s7 hs7 s38 hs38 s54 hs54 x1 x2 x3 x4 x5 x6 ls (lv_sub hl [0, 1, 2, 3, 4, 5, 6] rfl) hf
          · have hf := it_f hc hf
            refine lv_zinc (lv' := [(4, .int (x4 + (1 : Int32))), (0, .ref (h0 0)), (1, .int x1), (2, .int x2), (3, .int x3), (5, .int x5), (6, .int x6)]) hx hb dX8_light_81 hl (k := 4) rfl (v := (1 : Int32)) (by decide) (by decide) rfl (fun ls hl => ?_)
            exact k84 s7 hs7 s38 hs38 s54 hs54 x1 x2 x3 (x4 + (1 : Int32)) x5 x6 ls (lv_sub hl [1, 2, 3, 4, 0, 5, 6] rfl) hf
  have k38 : ∀ (s7 : Int32 → Int32 → Int32 → Option (Int32)) (hs7 : ∀ (x1 : Int32) (x2 : Int32) (x3 : Int32) (ls : Array Slot), lv_has ls 7 [(0, .ref (h0 0)), (1, .int x1), (2, .int x2), (3, .int x3)] → s7 x1 x2 x3 = some z → W p l e ({ frames := 1, cells := 0, slots := 0, locals := 24 } : Room) s m args below meth c s.heap [] 0 0 (MQ below (vp_Si (fun q => q = z)) args s 0 0 (fun _ => False)) (F0 m 7 ls [])), ∀ n : Nat, ∀ (x1 : Int32) (x2 : Int32) (x3 : Int32) (x4 : Int32) (x5 : Int32) (ls : Array Slot), lv_has ls 7 [(0, .ref (h0 0)), (1, .int x1), (2, .int x2), (3, .int x3), (4, .int x4), (5, .int x5)] → (zl5 (fX8_light_38 w0 s7) n) x1 x2 x3 x4 x5 = some z → W p l e ({ frames := 1, cells := 0, slots := 0, locals := 24 } : Room) s m args below meth c s.heap [] 0 0 (MQ below (vp_Si (fun q => q = z)) args s 0 0 (fun _ => False)) (F0 m 38 ls []) := by
    intro s7 hs7
    intro n
    induction n with
    | zero =>
      intro x1 x2 x3 x4 x5 ls hl hf
      exact z_no hf
    | succ n hs38 =>
      intro x1 x2 x3 x4 x5 ls hl hf
      have hf : fX8_light_38 w0 s7 (zl5 (fX8_light_38 w0 s7) n) x1 x2 x3 x4 x5 = some z := hf
      generalize zl5 (fX8_light_38 w0 s7) n = s38 at hs38 hf
      unfold fX8_light_38 at hf
      refine lv_iload hx hb dX8_light_38 (lv_at hl 5 rfl) ?_
      refine lv_bipush (v := (8 : Int32)) hx hb dX8_light_40 (by decide) ?_
      refine lv_icmp_ge (tgt := 103) hx hb dX8_light_42 (by decide) (fun hc => ?_) (fun hc => ?_)
      · have hf := it_t hc hf
        refine lv_iload hx hb dX8_light_103 (lv_at hl 4 rfl) ?_
        refine lv_iload_n hx hb dX8_light_105 rfl (lv_at hl 2 rfl) ?_
        refine lv_icmp_gt (tgt := 112) hx hb dX8_light_106 (by decide) (fun hc => ?_) (fun hc => ?_)
        · have hf := it_t hc hf
          refine lv_iload hx hb dX8_light_112 (lv_at hl 4 rfl) ?_
          refine lv_istore_n (lv' := [(2, .int x4), (0, .ref (h0 0)), (1, .int x1), (3, .int x3), (4, .int x4), (5, .int x5)]) hx hb dX8_light_114 rfl hl (by decide) rfl (fun ls hl => ?_)
          refine lv_iload_n hx hb dX8_light_115 rfl (lv_at hl 3 rfl) ?_
          refine lv_istore_n (lv' := [(1, .int x3), (2, .int x4), (0, .ref (h0 0)), (3, .int x3), (4, .int x4), (5, .int x5)]) hx hb dX8_light_116 rfl hl (by decide) rfl (fun ls hl => ?_)
          exact k117 s7 hs7 x3 x4 x3 ls (lv_sub hl [2, 0, 1, 3] rfl) hf
        · have hf := it_f hc hf
          refine lv_goto (tgt := 117) hx hb dX8_light_109 (by decide) ?_
          exact k117 s7 hs7 x1 x2 x3 ls (lv_sub hl [0, 1, 2, 3] rfl) hf
      · have hf := it_f hc hf
        refine lv_aload_n hx hb dX8_light_45 rfl (lv_at hl 0 rfl) ?_
        refine lv_iload_n hx hb dX8_light_46 rfl (lv_at hl 3 rfl) ?_
        refine lv_iload hx hb dX8_light_47 (lv_at hl 5 rfl) ?_
        obtain ⟨r3, hq2, hf⟩ := ob1_d hf
        refine zroV (q := (RX8, TX8, 37)) (As := [.int x3, .int x5]) (rest := []) (r := r3) ⟨hx, hb, hml, hown, hts⟩ (kX8_beside l dC dI cy h0 w0 x3 x5 r3 hq2) mw_743 mw_744 mw_910 mw_9 mw_745 hdX8_beside rfl rfl ⟨Nat.le_of_ble_eq_true rfl, Nat.le_of_ble_eq_true rfl⟩ hP hK hG hS 0 rfl rfl [0, 1, 2, 3, 4, 5, 6, 7, 8, 9, 10, 11, 12, 13] rfl rfl hl.1 rfl (Nat.le_of_ble_eq_true rfl) dX8_light_49 ⟨Nat.zero_le _, Nat.zero_le _⟩ ?_
        refine lv_istore (lv' := [(6, .int r3), (0, .ref (h0 0)), (1, .int x1), (2, .int x2), (3, .int x3), (4, .int x4), (5, .int x5)]) hx hb dX8_light_52 hl (by decide) rfl (fun ls hl => ?_)
        exact k54 s7 hs7 s38 hs38 zFU x1 x2 x3 x4 x5 r3 ls (lv_sub hl [1, 2, 3, 4, 5, 6, 0] rfl) hf
  have k7 : ∀ n : Nat, ∀ (x1 : Int32) (x2 : Int32) (x3 : Int32) (ls : Array Slot), lv_has ls 7 [(0, .ref (h0 0)), (1, .int x1), (2, .int x2), (3, .int x3)] → (zl3 (fX8_light_7 w0) n) x1 x2 x3 = some z → W p l e ({ frames := 1, cells := 0, slots := 0, locals := 24 } : Room) s m args below meth c s.heap [] 0 0 (MQ below (vp_Si (fun q => q = z)) args s 0 0 (fun _ => False)) (F0 m 7 ls []) := by
    intro n
    induction n with
    | zero =>
      intro x1 x2 x3 ls hl hf
      exact z_no hf
    | succ n hs7 =>
      intro x1 x2 x3 ls hl hf
      have hf : fX8_light_7 w0 (zl3 (fX8_light_7 w0) n) x1 x2 x3 = some z := hf
      generalize zl3 (fX8_light_7 w0) n = s7 at hs7 hf
      unfold fX8_light_7 at hf
      refine lv_iload_n hx hb dX8_light_7 rfl (lv_at hl 3 rfl) ?_
      refine lv_aload_n hx hb dX8_light_8 rfl (lv_at hl 0 rfl) ?_
      refine zget hx hb hts hown hK hP hin_8 0 rfl rfl 0 (by decide) mw_590 (v := .int (w0 0 0)) rfl dX8_light_9 ?_
      refine lv_aload_n hx hb dX8_light_12 rfl (lv_at hl 0 rfl) ?_
      refine zget hx hb hts hown hK hP hin_8 0 rfl rfl 1 (by decide) mw_591 (v := .int (w0 0 1)) rfl dX8_light_13 ?_
      refine lv_imul hx hb dX8_light_16 ?_
      refine lv_icmp_ge (tgt := 123) hx hb dX8_light_17 (by decide) (fun hc => ?_) (fun hc => ?_)
      · have hf := it_t hc hf
        refine lv_iload_n hx hb dX8_light_123 rfl (lv_at hl 1 rfl) ?_
        exact zretR hx hb hr hlocks hf dX8_light_124
      · have hf := it_f hc hf
        refine lv_aload_n hx hb dX8_light_20 rfl (lv_at hl 0 rfl) ?_
        refine zget hx hb hts hown hK hP hin_8 0 rfl rfl 2 (by decide) mw_592 (v := .ref (h0 1)) rfl dX8_light_21 ?_
        refine lv_iload_n hx hb dX8_light_24 rfl (lv_at hl 3 rfl) ?_
        obtain ⟨hin1, hf⟩ := gd_d hf
        refine va_iald hx hb hK hP 1 0 rfl rfl hin1 dX8_light_25 ?_
        refine lv_if_eq (tgt := 32) hx hb dX8_light_26 (by decide) (fun hc => ?_) (fun hc => ?_)
        · have hf := it_t hc hf
          refine lv_iconst (v := (0 : Int32)) hx hb dX8_light_32 (by decide) ?_
          refine lv_istore (lv' := [(4, .int (0 : Int32)), (0, .ref (h0 0)), (1, .int x1), (2, .int x2), (3, .int x3)]) hx hb dX8_light_33 hl (by decide) rfl (fun ls hl => ?_)
          refine lv_iconst (v := (0 : Int32)) hx hb dX8_light_35 (by decide) ?_
          refine lv_istore (lv' := [(5, .int (0 : Int32)), (4, .int (0 : Int32)), (0, .ref (h0 0)), (1, .int x1), (2, .int x2), (3, .int x3)]) hx hb dX8_light_36 hl (by decide) rfl (fun ls hl => ?_)
          exact k38 s7 hs7 zFU x1 x2 x3 (0 : Int32) (0 : Int32) ls (lv_sub hl [2, 3, 4, 5, 1, 0] rfl) hf
        · have hf := it_f hc hf
          refine lv_goto (tgt := 117) hx hb dX8_light_29 (by decide) ?_
          exact k117 s7 hs7 x1 x2 x3 ls (lv_sub hl [0, 1, 2, 3] rfl) hf
  obtain ⟨ls, hl, he⟩ := zent (m := m) (n := 7) (L := [(0, .ref (h0 0))]) ha (Nat.le_of_ble_eq_true rfl) rfl
  refine W.eq he ?_
  unfold fX8_light at hf
  have kE : W p l e ({ frames := 1, cells := 0, slots := 0, locals := 24 } : Room) s m args below meth c s.heap [] 0 0 (MQ below (vp_Si (fun q => q = z)) args s 0 0 (fun _ => False)) (F0 m 0 ls []) := by
    refine lv_bipush (v := (-9 : Int32)) hx hb dX8_light_0 (by decide) ?_
    refine lv_istore_n (lv' := [(1, .int (-9 : Int32)), (0, .ref (h0 0))]) hx hb dX8_light_2 rfl hl (by decide) rfl (fun ls hl => ?_)
    refine lv_iconst (v := (-1 : Int32)) hx hb dX8_light_3 (by decide) ?_
    refine lv_istore_n (lv' := [(2, .int (-1 : Int32)), (1, .int (-9 : Int32)), (0, .ref (h0 0))]) hx hb dX8_light_4 rfl hl (by decide) rfl (fun ls hl => ?_)
    refine lv_iconst (v := (0 : Int32)) hx hb dX8_light_5 (by decide) ?_
    refine lv_istore_n (lv' := [(3, .int (0 : Int32)), (2, .int (-1 : Int32)), (1, .int (-9 : Int32)), (0, .ref (h0 0))]) hx hb dX8_light_6 rfl hl (by decide) rfl (fun ls hl => ?_)
    exact k7 zFU (-9 : Int32) (-1 : Int32) (0 : Int32) ls (lv_sub hl [3, 2, 1, 0] rfl) hf
  exact kE
set_option maxHeartbeats 4000000 in
set_option maxRecDepth 100000 in
theorem kX8_draw (l : Launch) (dC : Nat → ClassId) (dI : Nat → Nat → Nat) (cy : ClassId) (h0 : Nat → Nat) (w0 : Nat → Nat → Int32) (x1 : Int32) (sz : Nat) (z : Int32 × (Nat → Int32)) (hf : fX8_draw w0 x1 = some z) : Met l yX8_draw (wsM yX8_draw cX8_draw 2 (some .int)) ({ frames := 0, cells := 0, slots := 0, locals := 0 } : Room) (va_Pc [.ref (h0 0), .int x1] (pWR (dC, dI) vwCl [(cy, .int)] (zW_8 cy h0 w0) sz)) (va_Qi (fun (q : Int32) (v : (Nat → Int32)) => (q, v) = z) (fun v => aWR (dC, dI) vwCl [(cy, .int)] (va_A (zW_8 cy h0 w0) sz) (zW_8 cy h0 (ups w0 0 v))) (va_A (zW_8 cy h0 w0) sz)) 0 0 (va_A (zW_8 cy h0 w0) sz) := by
  refine Met.ofW (cc := cX8_draw) (maxL := 2) (ret := (some .int)) (by decide) rfl ?_
  intro p e s m args below meth c s₁ B hml hv
  obtain ⟨ha, hsz, hP, hK, hD0, hG⟩ := hv
  have hx := B.exec
  have hb := B.bytes
  have hr := B.returns
  have hts : ∀ w ∈ wsA, w.before args s = true := fun w h => atoms_spec (ws := wsM yX8_draw cX8_draw 2 (some .int)) B.pre w (List.mem_cons_of_mem _ h)
  have hown : s.vm.findClass RX8 = some m.cls := findClass_of_methodNamed B.named
  have hlocks := B.notSynchronized
  subst hsz
  have hD := hD0.self (sz := s.heap.size)
  generalize hAe : va_A (zW_8 cy h0 w0) s.heap.size = A at hD hG ⊢
  have hA : ∀ q : Nat, s.heap.size ≤ q → A q := fun q h => by rw [← hAe]; exact Or.inr h
  have hS : va_S A s.heap s.heap [] := va_S.rf
  have hP : va_P (dC, dI) vwCl (zW_8 cy h0 (ups w0 0 (w0 0))) s.heap := hP
  have hD : va_D A (zW_8 cy h0 (ups w0 0 (w0 0))) := hD
  obtain ⟨ls, hl, he⟩ := zent (m := m) (n := 2) (L := [(0, .ref (h0 0)), (1, .int x1)]) ha (Nat.le_of_ble_eq_true rfl) rfl
  refine W.eq he ?_
  unfold fX8_draw at hf
  have kE : ∀ (H : Heap) (locs : List Loc), va_P (dC, dI) vwCl (zW_8 cy h0 (ups w0 0 (w0 0))) H → va_D A (zW_8 cy h0 (ups w0 0 (w0 0))) → va_S A s.heap H locs → W p l e ({ frames := 0, cells := 0, slots := 0, locals := 0 } : Room) s m args below meth c H locs 0 0 (MQ below (va_Qi (fun (q : Int32) (v : (Nat → Int32)) => (q, v) = z) (fun v => aWR (dC, dI) vwCl [(cy, .int)] A (zW_8 cy h0 (ups w0 0 v))) A) args s 0 0 A) (F0 m 0 ls []) := by
    intro H locs hP hD hS
    refine lv_aload_n hx hb dX8_draw_0 rfl (lv_at hl 0 rfl) ?_
    refine lv_aload_n hx hb dX8_draw_1 rfl (lv_at hl 0 rfl) ?_
    refine zget hx hb hts hown hK hP hin_8 0 rfl rfl 36 (by decide) mw_626 (v := .int (w0 0 36)) rfl dX8_draw_2 ?_
    refine lv_ldc (v := (1664525 : Int32)) hx hb hown (hts _ mw_860) dX8_draw_5 ?_
    refine lv_imul hx hb dX8_draw_7 ?_
    refine lv_ldc (v := (1013904223 : Int32)) hx hb hown (hts _ mw_861) dX8_draw_8 ?_
    refine lv_iadd hx hb dX8_draw_10 ?_
    refine zput hx hb hts hown hK hP hD hS hin_8 tyX8 tyX8_ok nmX8 0 rfl rfl 36 (by decide) mw_626 rfl (v := .int (((w0 0 36) * (1664525 : Int32)) + (1013904223 : Int32))) rfl rfl (Nat.le_of_ble_eq_true rfl) (wn := (zW_8 cy h0 (ups w0 0 (ups (w0 0) 36 (((w0 0 36) * (1664525 : Int32)) + (1013904223 : Int32)))))) rfl dX8_draw_11 (fun H locs hP hD hS => ?_)
    refine lv_aload_n hx hb dX8_draw_14 rfl (lv_at hl 0 rfl) ?_
    refine zget hx hb hts hown hK hP hin_8 0 rfl rfl 36 (by decide) mw_626 (v := .int (((w0 0 36) * (1664525 : Int32)) + (1013904223 : Int32))) rfl dX8_draw_15 ?_
    refine lv_ldc (v := (2147483647 : Int32)) hx hb hown (hts _ mw_862) dX8_draw_18 ?_
    refine lv_iand hx hb dX8_draw_20 ?_
    refine lv_sipush (v := (256 : Int32)) hx hb dX8_draw_21 (by decide) ?_
    refine lv_idiv hx hb dX8_draw_24 (by decide) ?_
    refine lv_iload_n hx hb dX8_draw_25 rfl (lv_at hl 1 rfl) ?_
    obtain ⟨hne1, hf⟩ := dv_d hf
    refine lv_zrem hx hb dX8_draw_26 hne1 ?_
    exact zretI hx hb hr hlocks hP hK hD hS hf rfl dX8_draw_27
  exact kE s.heap [] hP hD hS
set_option maxHeartbeats 4000000 in
set_option maxRecDepth 100000 in
theorem kX8_night (l : Launch) (dC : Nat → ClassId) (dI : Nat → Nat → Nat) (cy : ClassId) (h0 : Nat → Nat) (w0 : Nat → Nat → Int32) (x1 : Int32) (x2 : Int32) (sz : Nat) (z : Int32 × (Nat → Int32) × (Nat → Int32) × (Nat → Int32) × (Nat → Int32)) (hf : fX8_night w0 x1 x2 = some z) : Met l yX8_night (wsM yX8_night cX8_night 4 (some .int)) ({ frames := 4, cells := 0, slots := 0, locals := 90 } : Room) (va_Pc [.ref (h0 0), .int x1, .int x2] (pWR (dC, dI) vwCl [(cy, .int)] (zW_8 cy h0 w0) sz)) (va_Qi (fun (q : Int32) (v : (Nat → Int32) × (Nat → Int32) × (Nat → Int32) × (Nat → Int32)) => (q, v) = z) (fun v => aWR (dC, dI) vwCl [(cy, .int)] (va_A (zW_8 cy h0 w0) sz) (zW_8 cy h0 (ups (ups (ups (ups w0 0 v.1) 3 v.2.1) 9 v.2.2.1) 11 v.2.2.2))) (va_A (zW_8 cy h0 w0) sz)) 0 0 (va_A (zW_8 cy h0 w0) sz) := by
  refine Met.ofW (cc := cX8_night) (maxL := 4) (ret := (some .int)) (by decide) rfl ?_
  intro p e s m args below meth c s₁ B hml hv
  obtain ⟨ha, hsz, hP, hK, hD0, hG⟩ := hv
  have hx := B.exec
  have hb := B.bytes
  have hr := B.returns
  have hts : ∀ w ∈ wsA, w.before args s = true := fun w h => atoms_spec (ws := wsM yX8_night cX8_night 4 (some .int)) B.pre w (List.mem_cons_of_mem _ h)
  have hown : s.vm.findClass RX8 = some m.cls := findClass_of_methodNamed B.named
  have hlocks := B.notSynchronized
  subst hsz
  have hD := hD0.self (sz := s.heap.size)
  generalize hAe : va_A (zW_8 cy h0 w0) s.heap.size = A at hD hG ⊢
  have hA : ∀ q : Nat, s.heap.size ≤ q → A q := fun q h => by rw [← hAe]; exact Or.inr h
  have hS : va_S A s.heap s.heap [] := va_S.rf
  have hP : va_P (dC, dI) vwCl (zW_8 cy h0 (ups (ups (ups (ups w0 0 (w0 0)) 3 (w0 3)) 9 (w0 9)) 11 (w0 11))) s.heap := hP
  have hD : va_D A (zW_8 cy h0 (ups (ups (ups (ups w0 0 (w0 0)) 3 (w0 3)) 9 (w0 9)) 11 (w0 11))) := hD
  have k82 : ∀ (s50 : (Nat → Int32) → (Nat → Int32) → (Nat → Int32) → (Nat → Int32) → Int32 → Int32 → Option (Int32 × (Nat → Int32) × (Nat → Int32) × (Nat → Int32) × (Nat → Int32))) (hs50 : ∀ (c0_0 : (Nat → Int32)) (c0_3 : (Nat → Int32)) (c0_9 : (Nat → Int32)) (c0_11 : (Nat → Int32)) (x1 : Int32) (x3 : Int32) (H : Heap) (locs : List Loc) (ls : Array Slot), va_P (dC, dI) vwCl (zW_8 cy h0 (ups (ups (ups (ups w0 0 c0_0) 3 c0_3) 9 c0_9) 11 c0_11)) H → va_D A (zW_8 cy h0 (ups (ups (ups (ups w0 0 c0_0) 3 c0_3) 9 c0_9) 11 c0_11)) → va_S A s.heap H locs → lv_has ls 4 [(0, .ref (h0 0)), (1, .int x1), (3, .int x3)] → s50 c0_0 c0_3 c0_9 c0_11 x1 x3 = some z → W p l e ({ frames := 4, cells := 0, slots := 0, locals := 90 } : Room) s m args below meth c H locs 0 0 (MQ below (va_Qi (fun (q : Int32) (v : (Nat → Int32) × (Nat → Int32) × (Nat → Int32) × (Nat → Int32)) => (q, v) = z) (fun v => aWR (dC, dI) vwCl [(cy, .int)] A (zW_8 cy h0 (ups (ups (ups (ups w0 0 v.1) 3 v.2.1) 9 v.2.2.1) 11 v.2.2.2))) A) args s 0 0 A) (F0 m 50 ls [])), ∀ (c0_0 : (Nat → Int32)) (c0_3 : (Nat → Int32)) (c0_9 : (Nat → Int32)) (c0_11 : (Nat → Int32)) (x1 : Int32) (x3 : Int32) (H : Heap) (locs : List Loc) (ls : Array Slot), va_P (dC, dI) vwCl (zW_8 cy h0 (ups (ups (ups (ups w0 0 c0_0) 3 c0_3) 9 c0_9) 11 c0_11)) H → va_D A (zW_8 cy h0 (ups (ups (ups (ups w0 0 c0_0) 3 c0_3) 9 c0_9) 11 c0_11)) → va_S A s.heap H locs → lv_has ls 4 [(0, .ref (h0 0)), (1, .int x1), (3, .int x3)] → (fX8_night_82 w0 s50) c0_0 c0_3 c0_9 c0_11 x1 x3 = some z → W p l e ({ frames := 4, cells := 0, slots := 0, locals := 90 } : Room) s m args below meth c H locs 0 0 (MQ below (va_Qi (fun (q : Int32) (v : (Nat → Int32) × (Nat → Int32) × (Nat → Int32) × (Nat → Int32)) => (q, v) = z) (fun v => aWR (dC, dI) vwCl [(cy, .int)] A (zW_8 cy h0 (ups (ups (ups (ups w0 0 v.1) 3 v.2.1) 9 v.2.2.1) 11 v.2.2.2))) A) args s 0 0 A) (F0 m 82 ls []) := by
    intro s50 hs50
    intro c0_0 c0_3 c0_9 c0_11 x1 x3 H locs ls hP hD hS hl hf
    unfold fX8_night_82 at hf
    refine lv_aload_n hx hb dX8_night_82 rfl (lv_at hl 0 rfl) ?_
    obtain ⟨u12, hq11, hf⟩ := ob1_d hf
    refine zwvV (q := (RX8, TX8, 37)) (As := []) (rest := []) (u := u12) (wn := (zW_8 cy h0 (ups (ups (ups (ups w0 0 u12) 3 c0_3) 9 c0_9) 11 c0_11))) ⟨hx, hb, hml, hown, hts⟩ (kX8_step l dC dI cy h0 (ups (ups (ups (ups w0 0 c0_0) 3 c0_3) 9 c0_9) 11 c0_11) H.size u12 hq11) mw_734 mw_735 mw_907 mw_9 mw_736 hdX8_step rfl rfl ⟨Nat.le_of_ble_eq_true rfl, Nat.le_of_ble_eq_true rfl⟩ hP hK hG hS 0 rfl rfl hD hA [0, 1, 2, 3, 4, 5, 6, 7, 8, 9, 10, 11, 12, 13] [] [0, 1, 2, 3, 4, 5, 6, 7, 8, 9, 10, 11, 12, 13] rfl rfl rfl rfl (by decide) rfl rfl rfl hl.1 rfl (Nat.le_of_ble_eq_true rfl) dX8_night_83 ⟨Nat.zero_le _, Nat.zero_le _⟩ (fun H locs hP hD hS => ?_)
    refine lv_zinc (lv' := [(3, .int (x3 + (1 : Int32))), (0, .ref (h0 0)), (1, .int x1)]) hx hb dX8_night_86 hl (k := 2) rfl (v := (1 : Int32)) (by decide) (by decide) rfl (fun ls hl => ?_)
    refine lv_goto (tgt := 50) hx hb dX8_night_89 (by decide) ?_
    exact hs50 u12 c0_3 c0_9 c0_11 x1 (x3 + (1 : Int32)) H locs ls hP hD hS (lv_sub hl [1, 2, 0] rfl) hf
  have k50 : ∀ n : Nat, ∀ (c0_0 : (Nat → Int32)) (c0_3 : (Nat → Int32)) (c0_9 : (Nat → Int32)) (c0_11 : (Nat → Int32)) (x1 : Int32) (x3 : Int32) (H : Heap) (locs : List Loc) (ls : Array Slot), va_P (dC, dI) vwCl (zW_8 cy h0 (ups (ups (ups (ups w0 0 c0_0) 3 c0_3) 9 c0_9) 11 c0_11)) H → va_D A (zW_8 cy h0 (ups (ups (ups (ups w0 0 c0_0) 3 c0_3) 9 c0_9) 11 c0_11)) → va_S A s.heap H locs → lv_has ls 4 [(0, .ref (h0 0)), (1, .int x1), (3, .int x3)] → (zl6 (fX8_night_50 w0) n) c0_0 c0_3 c0_9 c0_11 x1 x3 = some z → W p l e ({ frames := 4, cells := 0, slots := 0, locals := 90 } : Room) s m args below meth c H locs 0 0 (MQ below (va_Qi (fun (q : Int32) (v : (Nat → Int32) × (Nat → Int32) × (Nat → Int32) × (Nat → Int32)) => (q, v) = z) (fun v => aWR (dC, dI) vwCl [(cy, .int)] A (zW_8 cy h0 (ups (ups (ups (ups w0 0 v.1) 3 v.2.1) 9 v.2.2.1) 11 v.2.2.2))) A) args s 0 0 A) (F0 m 50 ls []) := by
    intro n
    induction n with
    | zero =>
      intro c0_0 c0_3 c0_9 c0_11 x1 x3 H locs ls hP hD hS hl hf
      exact z_no hf
    | succ n hs50 =>
      intro c0_0 c0_3 c0_9 c0_11 x1 x3 H locs ls hP hD hS hl hf
      have hf : fX8_night_50 w0 (zl6 (fX8_night_50 w0) n) c0_0 c0_3 c0_9 c0_11 x1 x3 = some z := hf
      generalize zl6 (fX8_night_50 w0) n = s50 at hs50 hf
      unfold fX8_night_50 at hf
      refine lv_iload_n hx hb dX8_night_50 rfl (lv_at hl 2 rfl) ?_
      refine lv_iload_n hx hb dX8_night_51 rfl (lv_at hl 1 rfl) ?_
      refine lv_icmp_ge (tgt := 92) hx hb dX8_night_52 (by decide) (fun hc => ?_) (fun hc => ?_)
      · have hf := it_t hc hf
        refine lv_aload_n hx hb dX8_night_92 rfl (lv_at hl 0 rfl) ?_
        obtain ⟨r4, hq3, hf⟩ := ob1_d hf
        refine zroV (q := (RX8, TX8, 37)) (As := []) (rest := []) (r := r4) ⟨hx, hb, hml, hown, hts⟩ (kX8_lives l dC dI cy h0 (ups (ups (ups (ups w0 0 c0_0) 3 c0_3) 9 c0_9) 11 c0_11) r4 hq3) mw_726 mw_727 mw_906 mw_9 mw_728 hdX8_lives rfl rfl ⟨Nat.le_of_ble_eq_true rfl, Nat.le_of_ble_eq_true rfl⟩ hP hK hG hS 0 rfl rfl [0, 1, 2, 3, 4, 5, 6, 7, 8, 9, 10, 11, 12, 13] rfl rfl hl.1 rfl (Nat.le_of_ble_eq_true rfl) dX8_night_93 ⟨Nat.zero_le _, Nat.zero_le _⟩ ?_
        refine lv_istore_n (lv' := [(3, .int r4), (0, .ref (h0 0)), (1, .int x1)]) hx hb dX8_night_96 rfl hl (by decide) rfl (fun ls hl => ?_)
        refine lv_aload_n hx hb dX8_night_97 rfl (lv_at hl 1 rfl) ?_
        obtain ⟨u6, u7, hq5, hf⟩ := ob2_d hf
        refine zwvV (q := (RX8, TX8, 37)) (As := []) (rest := []) (u := (u6, u7)) (wn := (zW_8 cy h0 (ups (ups (ups (ups w0 0 u6) 3 u7) 9 c0_9) 11 c0_11))) ⟨hx, hb, hml, hown, hts⟩ (kX8_again l dC dI cy h0 (ups (ups (ups (ups w0 0 c0_0) 3 c0_3) 9 c0_9) 11 c0_11) H.size (u6, u7) hq5) mw_815 mw_816 mw_918 mw_9 mw_817 hdX8_again rfl rfl ⟨Nat.le_of_ble_eq_true rfl, Nat.le_of_ble_eq_true rfl⟩ hP hK hG hS 0 rfl rfl hD hA [0, 1, 2, 3, 4, 5, 6, 7, 8, 9, 10, 11, 12, 13] [] [0, 1, 2, 3, 4, 5, 6, 7, 8, 9, 10, 11, 12, 13] rfl rfl rfl rfl (by decide) rfl rfl rfl hl.1 rfl (Nat.le_of_ble_eq_true rfl) dX8_night_98 ⟨Nat.zero_le _, Nat.zero_le _⟩ (fun H locs hP hD hS => ?_)
        refine lv_iload_n hx hb dX8_night_101 rfl (lv_at hl 0 rfl) ?_
        exact zretI hx hb hr hlocks hP hK hD hS hf rfl dX8_night_102
      · have hf := it_f hc hf
        refine lv_aload_n hx hb dX8_night_55 rfl (lv_at hl 0 rfl) ?_
        refine lv_bipush (v := (10 : Int32)) hx hb dX8_night_56 (by decide) ?_
        obtain ⟨r9, u10, hq8, hf⟩ := ob2_d hf
        refine zwiV (q := (RX8, TX8, 37)) (As := [.int (10 : Int32)]) (rest := []) (r := r9) (u := u10) (wn := (zW_8 cy h0 (ups (ups (ups (ups w0 0 u10) 3 c0_3) 9 c0_9) 11 c0_11))) ⟨hx, hb, hml, hown, hts⟩ (kX8_draw l dC dI cy h0 (ups (ups (ups (ups w0 0 c0_0) 3 c0_3) 9 c0_9) 11 c0_11) (10 : Int32) H.size (r9, u10) hq8) mw_857 mw_858 mw_921 mw_9 mw_859 hdX8_draw rfl rfl ⟨Nat.le_of_ble_eq_true rfl, Nat.le_of_ble_eq_true rfl⟩ hP hK hG hS 0 rfl rfl hD hA [0, 1, 2, 3, 4, 5, 6, 7, 8, 9, 10, 11, 12, 13] [] [0, 1, 2, 3, 4, 5, 6, 7, 8, 9, 10, 11, 12, 13] rfl rfl rfl rfl (by decide) rfl rfl rfl hl.1 rfl (Nat.le_of_ble_eq_true rfl) dX8_night_58 ⟨Nat.zero_le _, Nat.zero_le _⟩ (fun H locs hP hD hS => ?_)
        refine lv_if_ne (tgt := 82) hx hb dX8_night_61 (by decide) (fun hc => ?_) (fun hc => ?_)
        · have hf := it_f hc hf
          exact k82 s50 hs50 u10 c0_3 c0_9 c0_11 x1 x3 H locs ls hP hD hS (lv_sub hl [0, 1, 2] rfl) hf
        · have hf := it_t hc hf
          refine lv_aload_n hx hb dX8_night_64 rfl (lv_at hl 0 rfl) ?_
          refine lv_aload_n hx hb dX8_night_65 rfl (lv_at hl 0 rfl) ?_
          refine zget hx hb hts hown hK hP hin_8 0 rfl rfl 25 (by decide) mw_615 (v := .int (u10 25)) rfl dX8_night_66 ?_
          refine lv_aload_n hx hb dX8_night_69 rfl (lv_at hl 0 rfl) ?_
          refine lv_bipush (v := (8 : Int32)) hx hb dX8_night_70 (by decide) ?_
          obtain ⟨r14, u15, hq13, hf⟩ := ob2_d hf
          refine zwiV (q := (RX8, TX8, 37)) (As := [.int (8 : Int32)]) (rest := [.int (u10 25), .ref (h0 0)]) (r := r14) (u := u15) (wn := (zW_8 cy h0 (ups (ups (ups (ups w0 0 u15) 3 c0_3) 9 c0_9) 11 c0_11))) ⟨hx, hb, hml, hown, hts⟩ (kX8_draw l dC dI cy h0 (ups (ups (ups (ups w0 0 u10) 3 c0_3) 9 c0_9) 11 c0_11) (8 : Int32) H.size (r14, u15) hq13) mw_857 mw_858 mw_921 mw_9 mw_859 hdX8_draw rfl rfl ⟨Nat.le_of_ble_eq_true rfl, Nat.le_of_ble_eq_true rfl⟩ hP hK hG hS 0 rfl rfl hD hA [0, 1, 2, 3, 4, 5, 6, 7, 8, 9, 10, 11, 12, 13] [] [0, 1, 2, 3, 4, 5, 6, 7, 8, 9, 10, 11, 12, 13] rfl rfl rfl rfl (by decide) rfl rfl rfl hl.1 rfl (Nat.le_of_ble_eq_true rfl) dX8_night_72 ⟨Nat.zero_le _, Nat.zero_le _⟩ (fun H locs hP hD hS => ?_)
          refine lv_iadd hx hb dX8_night_75 ?_
          refine lv_bipush (v := (8 : Int32)) hx hb dX8_night_76 (by decide) ?_
          refine lv_zrem hx hb dX8_night_78 (by decide) ?_
          refine zput hx hb hts hown hK hP hD hS hin_8 tyX8 tyX8_ok nmX8 0 rfl rfl 25 (by decide) mw_615 rfl (v := .int (zrem ((u10 25) + r14) (8 : Int32))) rfl rfl (Nat.le_of_ble_eq_true rfl) (wn := (zW_8 cy h0 (ups (ups (ups (ups w0 0 (ups u15 25 (zrem ((u10 25) + r14) (8 : Int32)))) 3 c0_3) 9 c0_9) 11 c0_11))) rfl dX8_night_79 (fun H locs hP hD hS => ?_)
          exact k82 s50 hs50 (ups u15 25 (zrem ((u10 25) + r14) (8 : Int32))) c0_3 c0_9 c0_11 x1 x3 H locs ls hP hD hS (lv_sub hl [0, 1, 2] rfl) hf
  obtain ⟨ls, hl, he⟩ := zent (m := m) (n := 4) (L := [(0, .ref (h0 0)), (1, .int x1), (2, .int x2)]) ha (Nat.le_of_ble_eq_true rfl) rfl
  refine W.eq he ?_
  unfold fX8_night at hf
  have kE : ∀ (H : Heap) (locs : List Loc), va_P (dC, dI) vwCl (zW_8 cy h0 (ups (ups (ups (ups w0 0 (w0 0)) 3 (w0 3)) 9 (w0 9)) 11 (w0 11))) H → va_D A (zW_8 cy h0 (ups (ups (ups (ups w0 0 (w0 0)) 3 (w0 3)) 9 (w0 9)) 11 (w0 11))) → va_S A s.heap H locs → W p l e ({ frames := 4, cells := 0, slots := 0, locals := 90 } : Room) s m args below meth c H locs 0 0 (MQ below (va_Qi (fun (q : Int32) (v : (Nat → Int32) × (Nat → Int32) × (Nat → Int32) × (Nat → Int32)) => (q, v) = z) (fun v => aWR (dC, dI) vwCl [(cy, .int)] A (zW_8 cy h0 (ups (ups (ups (ups w0 0 v.1) 3 v.2.1) 9 v.2.2.1) 11 v.2.2.2))) A) args s 0 0 A) (F0 m 0 ls []) := by
    intro H locs hP hD hS
    refine lv_iload_n hx hb dX8_night_0 rfl (lv_at hl 1 rfl) ?_
    refine lv_iconst (v := (1 : Int32)) hx hb dX8_night_1 (by decide) ?_
    refine lv_icmp_ge (tgt := 12) hx hb dX8_night_2 (by decide) (fun hc => ?_) (fun hc => ?_)
    · have hf := it_t hc hf
      refine lv_iload_n hx hb dX8_night_12 rfl (lv_at hl 1 rfl) ?_
      refine lv_bipush (v := (99 : Int32)) hx hb dX8_night_13 (by decide) ?_
      refine lv_icmp_le (tgt := 25) hx hb dX8_night_15 (by decide) (fun hc => ?_) (fun hc => ?_)
      · have hf := it_t hc hf
        refine lv_aload_n hx hb dX8_night_25 rfl (lv_at hl 0 rfl) ?_
        refine zget hx hb hts hown hK hP hin_8 0 rfl rfl 12 (by decide) mw_602 (v := .int (w0 0 12)) rfl dX8_night_26 ?_
        refine lv_if_ne (tgt := 39) hx hb dX8_night_29 (by decide) (fun hc => ?_) (fun hc => ?_)
        · have hf := it_f hc hf
          refine lv_aload_n hx hb dX8_night_39 rfl (lv_at hl 0 rfl) ?_
          obtain ⟨u2, hq1, hf⟩ := ob1_d hf
          refine zwvV (q := (RX8, TX8, 37)) (As := []) (rest := []) (u := u2) (wn := (zW_8 cy h0 (ups (ups (ups (ups w0 0 (w0 0)) 3 (w0 3)) 9 (w0 9)) 11 u2))) ⟨hx, hb, hml, hown, hts⟩ (kX8_keep l dC dI cy h0 (ups (ups (ups (ups w0 0 (w0 0)) 3 (w0 3)) 9 (w0 9)) 11 (w0 11)) H.size u2 hq1) mw_812 mw_813 mw_917 mw_9 mw_814 hdX8_keep rfl rfl ⟨Nat.le_of_ble_eq_true rfl, Nat.le_of_ble_eq_true rfl⟩ hP hK hG hS 0 rfl rfl hD hA [0, 1, 2, 3, 4, 5, 6, 7, 8, 9, 10, 11, 12, 13] [] [0, 1, 2, 3, 4, 5, 6, 7, 8, 9, 10, 11, 12, 13] rfl rfl rfl rfl (by decide) rfl rfl rfl hl.1 rfl (Nat.le_of_ble_eq_true rfl) dX8_night_40 ⟨Nat.zero_le _, Nat.zero_le _⟩ (fun H locs hP hD hS => ?_)
          refine lv_aload_n hx hb dX8_night_43 rfl (lv_at hl 0 rfl) ?_
          refine lv_iload_n hx hb dX8_night_44 rfl (lv_at hl 2 rfl) ?_
          refine zput hx hb hts hown hK hP hD hS hin_8 tyX8 tyX8_ok nmX8 0 rfl rfl 36 (by decide) mw_626 rfl (v := .int x2) rfl rfl (Nat.le_of_ble_eq_true rfl) (wn := (zW_8 cy h0 (ups (ups (ups (ups w0 0 (ups (w0 0) 36 x2)) 3 (w0 3)) 9 (w0 9)) 11 u2))) rfl dX8_night_45 (fun H locs hP hD hS => ?_)
          refine lv_iconst (v := (0 : Int32)) hx hb dX8_night_48 (by decide) ?_
          refine lv_istore_n (lv' := [(3, .int (0 : Int32)), (0, .ref (h0 0)), (1, .int x1), (2, .int x2)]) hx hb dX8_night_49 rfl hl (by decide) rfl (fun ls hl => ?_)
          exact k50 zFU (ups (w0 0) 36 x2) (w0 3) (w0 9) u2 x1 (0 : Int32) H locs ls hP hD hS (lv_sub hl [1, 2, 0] rfl) hf
        · have hf := it_t hc hf
          refine lv_aload_n hx hb dX8_night_32 rfl (lv_at hl 0 rfl) ?_
          refine lv_bipush (v := (-3 : Int32)) hx hb dX8_night_33 (by decide) ?_
          obtain ⟨r17, u18, hq16, hf⟩ := ob2_d hf
          refine zwiV (q := (RX8, TX8, 37)) (As := [.int (-3 : Int32)]) (rest := []) (r := r17) (u := u18) (wn := (zW_8 cy h0 (ups (ups (ups (ups w0 0 (w0 0)) 3 (w0 3)) 9 u18) 11 (w0 11)))) ⟨hx, hb, hml, hown, hts⟩ (kX8_no l dC dI cy h0 (ups (ups (ups (ups w0 0 (w0 0)) 3 (w0 3)) 9 (w0 9)) 11 (w0 11)) (-3 : Int32) H.size (r17, u18) hq16) mw_668 mw_669 mw_898 mw_9 mw_670 hdX8_no rfl rfl ⟨Nat.le_of_ble_eq_true rfl, Nat.le_of_ble_eq_true rfl⟩ hP hK hG hS 0 rfl rfl hD hA [0, 1, 2, 3, 4, 5, 6, 7, 8, 9, 10, 11, 12, 13] [] [0, 1, 2, 3, 4, 5, 6, 7, 8, 9, 10, 11, 12, 13] rfl rfl rfl rfl (by decide) rfl rfl rfl hl.1 rfl (Nat.le_of_ble_eq_true rfl) dX8_night_35 ⟨Nat.zero_le _, Nat.zero_le _⟩ (fun H locs hP hD hS => ?_)
          exact zretI hx hb hr hlocks hP hK hD hS hf rfl dX8_night_38
      · have hf := it_f hc hf
        refine lv_aload_n hx hb dX8_night_18 rfl (lv_at hl 0 rfl) ?_
        refine lv_bipush (v := (-6 : Int32)) hx hb dX8_night_19 (by decide) ?_
        obtain ⟨r20, u21, hq19, hf⟩ := ob2_d hf
        refine zwiV (q := (RX8, TX8, 37)) (As := [.int (-6 : Int32)]) (rest := []) (r := r20) (u := u21) (wn := (zW_8 cy h0 (ups (ups (ups (ups w0 0 (w0 0)) 3 (w0 3)) 9 u21) 11 (w0 11)))) ⟨hx, hb, hml, hown, hts⟩ (kX8_no l dC dI cy h0 (ups (ups (ups (ups w0 0 (w0 0)) 3 (w0 3)) 9 (w0 9)) 11 (w0 11)) (-6 : Int32) H.size (r20, u21) hq19) mw_668 mw_669 mw_898 mw_9 mw_670 hdX8_no rfl rfl ⟨Nat.le_of_ble_eq_true rfl, Nat.le_of_ble_eq_true rfl⟩ hP hK hG hS 0 rfl rfl hD hA [0, 1, 2, 3, 4, 5, 6, 7, 8, 9, 10, 11, 12, 13] [] [0, 1, 2, 3, 4, 5, 6, 7, 8, 9, 10, 11, 12, 13] rfl rfl rfl rfl (by decide) rfl rfl rfl hl.1 rfl (Nat.le_of_ble_eq_true rfl) dX8_night_21 ⟨Nat.zero_le _, Nat.zero_le _⟩ (fun H locs hP hD hS => ?_)
        exact zretI hx hb hr hlocks hP hK hD hS hf rfl dX8_night_24
    · have hf := it_f hc hf
      refine lv_aload_n hx hb dX8_night_5 rfl (lv_at hl 0 rfl) ?_
      refine lv_bipush (v := (-4 : Int32)) hx hb dX8_night_6 (by decide) ?_
      obtain ⟨r23, u24, hq22, hf⟩ := ob2_d hf
      refine zwiV (q := (RX8, TX8, 37)) (As := [.int (-4 : Int32)]) (rest := []) (r := r23) (u := u24) (wn := (zW_8 cy h0 (ups (ups (ups (ups w0 0 (w0 0)) 3 (w0 3)) 9 u24) 11 (w0 11)))) ⟨hx, hb, hml, hown, hts⟩ (kX8_no l dC dI cy h0 (ups (ups (ups (ups w0 0 (w0 0)) 3 (w0 3)) 9 (w0 9)) 11 (w0 11)) (-4 : Int32) H.size (r23, u24) hq22) mw_668 mw_669 mw_898 mw_9 mw_670 hdX8_no rfl rfl ⟨Nat.le_of_ble_eq_true rfl, Nat.le_of_ble_eq_true rfl⟩ hP hK hG hS 0 rfl rfl hD hA [0, 1, 2, 3, 4, 5, 6, 7, 8, 9, 10, 11, 12, 13] [] [0, 1, 2, 3, 4, 5, 6, 7, 8, 9, 10, 11, 12, 13] rfl rfl rfl rfl (by decide) rfl rfl rfl hl.1 rfl (Nat.le_of_ble_eq_true rfl) dX8_night_8 ⟨Nat.zero_le _, Nat.zero_le _⟩ (fun H locs hP hD hS => ?_)
      exact zretI hx hb hr hlocks hP hK hD hS hf rfl dX8_night_11
  exact kE s.heap [] hP hD hS
set_option maxHeartbeats 4000000 in
set_option maxRecDepth 100000 in
theorem kX8_log (l : Launch) (dC : Nat → ClassId) (dI : Nat → Nat → Nat) (cy : ClassId) (h0 : Nat → Nat) (w0 : Nat → Nat → Int32) (x1 : Int32) (sz : Nat) (z : Int32 × (Nat → Int32) × (Nat → Int32) × (Nat → Int32)) (hf : fX8_log w0 x1 = some z) : Met l yX8_log (wsM yX8_log cX8_log 2 (some .int)) ({ frames := 1, cells := 0, slots := 0, locals := 21 } : Room) (va_Pc [.ref (h0 0), .int x1] (pWR (dC, dI) vwCl [(cy, .int)] (zW_8 cy h0 w0) sz)) (va_Qi (fun (q : Int32) (v : (Nat → Int32) × (Nat → Int32) × (Nat → Int32)) => (q, v) = z) (fun v => aWR (dC, dI) vwCl [(cy, .int)] (va_A (zW_8 cy h0 w0) sz) (zW_8 cy h0 (ups (ups (ups w0 0 v.1) 8 v.2.1) 9 v.2.2))) (va_A (zW_8 cy h0 w0) sz)) 0 0 (va_A (zW_8 cy h0 w0) sz) := by
  refine Met.ofW (cc := cX8_log) (maxL := 2) (ret := (some .int)) (by decide) rfl ?_
  intro p e s m args below meth c s₁ B hml hv
  obtain ⟨ha, hsz, hP, hK, hD0, hG⟩ := hv
  have hx := B.exec
  have hb := B.bytes
  have hr := B.returns
  have hts : ∀ w ∈ wsA, w.before args s = true := fun w h => atoms_spec (ws := wsM yX8_log cX8_log 2 (some .int)) B.pre w (List.mem_cons_of_mem _ h)
  have hown : s.vm.findClass RX8 = some m.cls := findClass_of_methodNamed B.named
  have hlocks := B.notSynchronized
  subst hsz
  have hD := hD0.self (sz := s.heap.size)
  generalize hAe : va_A (zW_8 cy h0 w0) s.heap.size = A at hD hG ⊢
  have hA : ∀ q : Nat, s.heap.size ≤ q → A q := fun q h => by rw [← hAe]; exact Or.inr h
  have hS : va_S A s.heap s.heap [] := va_S.rf
  have hP : va_P (dC, dI) vwCl (zW_8 cy h0 (ups (ups (ups w0 0 (w0 0)) 8 (w0 8)) 9 (w0 9))) s.heap := hP
  have hD : va_D A (zW_8 cy h0 (ups (ups (ups w0 0 (w0 0)) 8 (w0 8)) 9 (w0 9))) := hD
  have k26 : ∀ (c0_0 : (Nat → Int32)) (c0_8 : (Nat → Int32)) (c0_9 : (Nat → Int32)) (H : Heap) (locs : List Loc) (ls : Array Slot), va_P (dC, dI) vwCl (zW_8 cy h0 (ups (ups (ups w0 0 c0_0) 8 c0_8) 9 c0_9)) H → va_D A (zW_8 cy h0 (ups (ups (ups w0 0 c0_0) 8 c0_8) 9 c0_9)) → va_S A s.heap H locs → lv_has ls 2 [(0, .ref (h0 0))] → (fX8_log_26 w0) c0_0 c0_8 c0_9 = some z → W p l e ({ frames := 1, cells := 0, slots := 0, locals := 21 } : Room) s m args below meth c H locs 0 0 (MQ below (va_Qi (fun (q : Int32) (v : (Nat → Int32) × (Nat → Int32) × (Nat → Int32)) => (q, v) = z) (fun v => aWR (dC, dI) vwCl [(cy, .int)] A (zW_8 cy h0 (ups (ups (ups w0 0 v.1) 8 v.2.1) 9 v.2.2))) A) args s 0 0 A) (F0 m 26 ls []) := by
    intro c0_0 c0_8 c0_9 H locs ls hP hD hS hl hf
    unfold fX8_log_26 at hf
    refine lv_aload_n hx hb dX8_log_26 rfl (lv_at hl 0 rfl) ?_
    refine lv_bipush (v := (-6 : Int32)) hx hb dX8_log_27 (by decide) ?_
    obtain ⟨r2, u3, hq1, hf⟩ := ob2_d hf
    refine zwiV (q := (RX8, TX8, 37)) (As := [.int (-6 : Int32)]) (rest := []) (r := r2) (u := u3) (wn := (zW_8 cy h0 (ups (ups (ups w0 0 c0_0) 8 c0_8) 9 u3))) ⟨hx, hb, hml, hown, hts⟩ (kX8_no l dC dI cy h0 (ups (ups (ups w0 0 c0_0) 8 c0_8) 9 c0_9) (-6 : Int32) H.size (r2, u3) hq1) mw_668 mw_669 mw_898 mw_9 mw_670 hdX8_no rfl rfl ⟨Nat.le_of_ble_eq_true rfl, Nat.le_of_ble_eq_true rfl⟩ hP hK hG hS 0 rfl rfl hD hA [0, 1, 2, 3, 4, 5, 6, 7, 8, 9, 10, 11, 12, 13] [] [0, 1, 2, 3, 4, 5, 6, 7, 8, 9, 10, 11, 12, 13] rfl rfl rfl rfl (by decide) rfl rfl rfl hl.1 rfl (Nat.le_of_ble_eq_true rfl) dX8_log_29 ⟨Nat.zero_le _, Nat.zero_le _⟩ (fun H locs hP hD hS => ?_)
    exact zretI hx hb hr hlocks hP hK hD hS hf rfl dX8_log_32
  obtain ⟨ls, hl, he⟩ := zent (m := m) (n := 2) (L := [(0, .ref (h0 0)), (1, .int x1)]) ha (Nat.le_of_ble_eq_true rfl) rfl
  refine W.eq he ?_
  unfold fX8_log at hf
  have kE : ∀ (H : Heap) (locs : List Loc), va_P (dC, dI) vwCl (zW_8 cy h0 (ups (ups (ups w0 0 (w0 0)) 8 (w0 8)) 9 (w0 9))) H → va_D A (zW_8 cy h0 (ups (ups (ups w0 0 (w0 0)) 8 (w0 8)) 9 (w0 9))) → va_S A s.heap H locs → W p l e ({ frames := 1, cells := 0, slots := 0, locals := 21 } : Room) s m args below meth c H locs 0 0 (MQ below (va_Qi (fun (q : Int32) (v : (Nat → Int32) × (Nat → Int32) × (Nat → Int32)) => (q, v) = z) (fun v => aWR (dC, dI) vwCl [(cy, .int)] A (zW_8 cy h0 (ups (ups (ups w0 0 v.1) 8 v.2.1) 9 v.2.2))) A) args s 0 0 A) (F0 m 0 ls []) := by
    intro H locs hP hD hS
    refine lv_iload_n hx hb dX8_log_0 rfl (lv_at hl 1 rfl) ?_
    refine lv_if_ge (tgt := 11) hx hb dX8_log_1 (by decide) (fun hc => ?_) (fun hc => ?_)
    · have hf := it_t hc hf
      refine lv_iload_n hx hb dX8_log_11 rfl (lv_at hl 1 rfl) ?_
      refine lv_bipush (v := (99 : Int32)) hx hb dX8_log_12 (by decide) ?_
      refine lv_icmp_gt (tgt := 26) hx hb dX8_log_14 (by decide) (fun hc => ?_) (fun hc => ?_)
      · have hf := it_t hc hf
        exact k26 (w0 0) (w0 8) (w0 9) H locs ls hP hD hS (lv_sub hl [0] rfl) hf
      · have hf := it_f hc hf
        refine lv_aload_n hx hb dX8_log_17 rfl (lv_at hl 0 rfl) ?_
        refine zget hx hb hts hown hK hP hin_8 0 rfl rfl 28 (by decide) mw_618 (v := .int (w0 0 28)) rfl dX8_log_18 ?_
        refine lv_bipush (v := (12 : Int32)) hx hb dX8_log_21 (by decide) ?_
        refine lv_icmp_ne (tgt := 33) hx hb dX8_log_23 (by decide) (fun hc => ?_) (fun hc => ?_)
        · have hf := it_f hc hf
          refine lv_aload_n hx hb dX8_log_33 rfl (lv_at hl 0 rfl) ?_
          refine zget hx hb hts hown hK hP hin_8 0 rfl rfl 29 (by decide) mw_619 (v := .ref (h0 8)) rfl dX8_log_34 ?_
          refine lv_aload_n hx hb dX8_log_37 rfl (lv_at hl 0 rfl) ?_
          refine zget hx hb hts hown hK hP hin_8 0 rfl rfl 28 (by decide) mw_618 (v := .int (w0 0 28)) rfl dX8_log_38 ?_
          refine lv_iload_n hx hb dX8_log_41 rfl (lv_at hl 1 rfl) ?_
          obtain ⟨hin4, hf⟩ := gd_d hf
          obtain ⟨g5, hg5, hf⟩ := nm_d hf
          refine zast hx hb hK hP hD hS 8 (wn := (zW_8 cy h0 (ups (ups (ups w0 0 (w0 0)) 8 g5) 9 (w0 9)))) hg5 rfl rfl hin4 rfl dX8_log_42 (fun H locs hP hD hS => ?_)
          refine lv_aload_n hx hb dX8_log_43 rfl (lv_at hl 0 rfl) ?_
          refine lv_dup hx hb dX8_log_44 rfl ?_
          refine zget hx hb hts hown hK hP hin_8 0 rfl rfl 28 (by decide) mw_618 (v := .int (w0 0 28)) rfl dX8_log_45 ?_
          refine lv_iconst (v := (1 : Int32)) hx hb dX8_log_48 (by decide) ?_
          refine lv_iadd hx hb dX8_log_49 ?_
          refine lv_dup_x1 hx hb dX8_log_50 rfl rfl ?_
          refine zput hx hb hts hown hK hP hD hS hin_8 tyX8 tyX8_ok nmX8 0 rfl rfl 28 (by decide) mw_618 rfl (v := .int ((w0 0 28) + (1 : Int32))) rfl rfl (Nat.le_of_ble_eq_true rfl) (wn := (zW_8 cy h0 (ups (ups (ups w0 0 (ups (w0 0) 28 ((w0 0 28) + (1 : Int32)))) 8 g5) 9 (w0 9)))) rfl dX8_log_51 (fun H locs hP hD hS => ?_)
          exact zretI hx hb hr hlocks hP hK hD hS hf rfl dX8_log_54
        · have hf := it_t hc hf
          exact k26 (w0 0) (w0 8) (w0 9) H locs ls hP hD hS (lv_sub hl [0] rfl) hf
    · have hf := it_f hc hf
      refine lv_aload_n hx hb dX8_log_4 rfl (lv_at hl 0 rfl) ?_
      refine lv_bipush (v := (-4 : Int32)) hx hb dX8_log_5 (by decide) ?_
      obtain ⟨r7, u8, hq6, hf⟩ := ob2_d hf
      refine zwiV (q := (RX8, TX8, 37)) (As := [.int (-4 : Int32)]) (rest := []) (r := r7) (u := u8) (wn := (zW_8 cy h0 (ups (ups (ups w0 0 (w0 0)) 8 (w0 8)) 9 u8))) ⟨hx, hb, hml, hown, hts⟩ (kX8_no l dC dI cy h0 (ups (ups (ups w0 0 (w0 0)) 8 (w0 8)) 9 (w0 9)) (-4 : Int32) H.size (r7, u8) hq6) mw_668 mw_669 mw_898 mw_9 mw_670 hdX8_no rfl rfl ⟨Nat.le_of_ble_eq_true rfl, Nat.le_of_ble_eq_true rfl⟩ hP hK hG hS 0 rfl rfl hD hA [0, 1, 2, 3, 4, 5, 6, 7, 8, 9, 10, 11, 12, 13] [] [0, 1, 2, 3, 4, 5, 6, 7, 8, 9, 10, 11, 12, 13] rfl rfl rfl rfl (by decide) rfl rfl rfl hl.1 rfl (Nat.le_of_ble_eq_true rfl) dX8_log_7 ⟨Nat.zero_le _, Nat.zero_le _⟩ (fun H locs hP hD hS => ?_)
      exact zretI hx hb hr hlocks hP hK hD hS hf rfl dX8_log_10
  exact kE s.heap [] hP hD hS
set_option maxHeartbeats 4000000 in
set_option maxRecDepth 100000 in
theorem kX8_judge (l : Launch) (dC : Nat → ClassId) (dI : Nat → Nat → Nat) (cy : ClassId) (h0 : Nat → Nat) (w0 : Nat → Nat → Int32) (sz : Nat) (z : Int32 × (Nat → Int32) × (Nat → Int32) × (Nat → Int32) × (Nat → Int32)) (hf : fX8_judge w0 = some z) : Met l yX8_judge (wsM yX8_judge cX8_judge 3 (some .int)) ({ frames := 4, cells := 0, slots := 0, locals := 90 } : Room) (va_Pc [.ref (h0 0)] (pWR (dC, dI) vwCl [(cy, .int)] (zW_8 cy h0 w0) sz)) (va_Qi (fun (q : Int32) (v : (Nat → Int32) × (Nat → Int32) × (Nat → Int32) × (Nat → Int32)) => (q, v) = z) (fun v => aWR (dC, dI) vwCl [(cy, .int)] (va_A (zW_8 cy h0 w0) sz) (zW_8 cy h0 (ups (ups (ups (ups w0 0 v.1) 3 v.2.1) 9 v.2.2.1) 11 v.2.2.2))) (va_A (zW_8 cy h0 w0) sz)) 0 0 (va_A (zW_8 cy h0 w0) sz) := by
  refine Met.ofW (cc := cX8_judge) (maxL := 3) (ret := (some .int)) (by decide) rfl ?_
  intro p e s m args below meth c s₁ B hml hv
  obtain ⟨ha, hsz, hP, hK, hD0, hG⟩ := hv
  have hx := B.exec
  have hb := B.bytes
  have hr := B.returns
  have hts : ∀ w ∈ wsA, w.before args s = true := fun w h => atoms_spec (ws := wsM yX8_judge cX8_judge 3 (some .int)) B.pre w (List.mem_cons_of_mem _ h)
  have hown : s.vm.findClass RX8 = some m.cls := findClass_of_methodNamed B.named
  have hlocks := B.notSynchronized
  subst hsz
  have hD := hD0.self (sz := s.heap.size)
  generalize hAe : va_A (zW_8 cy h0 w0) s.heap.size = A at hD hG ⊢
  have hA : ∀ q : Nat, s.heap.size ≤ q → A q := fun q h => by rw [← hAe]; exact Or.inr h
  have hS : va_S A s.heap s.heap [] := va_S.rf
  have hP : va_P (dC, dI) vwCl (zW_8 cy h0 (ups (ups (ups (ups w0 0 (w0 0)) 3 (w0 3)) 9 (w0 9)) 11 (w0 11))) s.heap := hP
  have hD : va_D A (zW_8 cy h0 (ups (ups (ups (ups w0 0 (w0 0)) 3 (w0 3)) 9 (w0 9)) 11 (w0 11))) := hD
  have k72 : ∀ (c0_0 : (Nat → Int32)) (c0_3 : (Nat → Int32)) (c0_9 : (Nat → Int32)) (c0_11 : (Nat → Int32)) (x1 : Int32) (H : Heap) (locs : List Loc) (ls : Array Slot), va_P (dC, dI) vwCl (zW_8 cy h0 (ups (ups (ups (ups w0 0 c0_0) 3 c0_3) 9 c0_9) 11 c0_11)) H → va_D A (zW_8 cy h0 (ups (ups (ups (ups w0 0 c0_0) 3 c0_3) 9 c0_9) 11 c0_11)) → va_S A s.heap H locs → lv_has ls 3 [(0, .ref (h0 0)), (1, .int x1)] → (fX8_judge_72 w0) c0_0 c0_3 c0_9 c0_11 x1 = some z → W p l e ({ frames := 4, cells := 0, slots := 0, locals := 90 } : Room) s m args below meth c H locs 0 0 (MQ below (va_Qi (fun (q : Int32) (v : (Nat → Int32) × (Nat → Int32) × (Nat → Int32) × (Nat → Int32)) => (q, v) = z) (fun v => aWR (dC, dI) vwCl [(cy, .int)] A (zW_8 cy h0 (ups (ups (ups (ups w0 0 v.1) 3 v.2.1) 9 v.2.2.1) 11 v.2.2.2))) A) args s 0 0 A) (F0 m 72 ls []) := by
    intro c0_0 c0_3 c0_9 c0_11 x1 H locs ls hP hD hS hl hf
    unfold fX8_judge_72 at hf
    refine lv_aload_n hx hb dX8_judge_72 rfl (lv_at hl 0 rfl) ?_
    obtain ⟨u4, u5, hq3, hf⟩ := ob2_d hf
    refine zwvV (q := (RX8, TX8, 37)) (As := []) (rest := []) (u := (u4, u5)) (wn := (zW_8 cy h0 (ups (ups (ups (ups w0 0 u4) 3 u5) 9 c0_9) 11 c0_11))) ⟨hx, hb, hml, hown, hts⟩ (kX8_again l dC dI cy h0 (ups (ups (ups (ups w0 0 c0_0) 3 c0_3) 9 c0_9) 11 c0_11) H.size (u4, u5) hq3) mw_815 mw_816 mw_918 mw_9 mw_817 hdX8_again rfl rfl ⟨Nat.le_of_ble_eq_true rfl, Nat.le_of_ble_eq_true rfl⟩ hP hK hG hS 0 rfl rfl hD hA [0, 1, 2, 3, 4, 5, 6, 7, 8, 9, 10, 11, 12, 13] [] [0, 1, 2, 3, 4, 5, 6, 7, 8, 9, 10, 11, 12, 13] rfl rfl rfl rfl (by decide) rfl rfl rfl hl.1 rfl (Nat.le_of_ble_eq_true rfl) dX8_judge_73 ⟨Nat.zero_le _, Nat.zero_le _⟩ (fun H locs hP hD hS => ?_)
    refine lv_aload_n hx hb dX8_judge_76 rfl (lv_at hl 0 rfl) ?_
    refine lv_iconst (v := (0 : Int32)) hx hb dX8_judge_77 (by decide) ?_
    refine zput hx hb hts hown hK hP hD hS hin_8 tyX8 tyX8_ok nmX8 0 rfl rfl 28 (by decide) mw_618 rfl (v := .int (0 : Int32)) rfl rfl (Nat.le_of_ble_eq_true rfl) (wn := (zW_8 cy h0 (ups (ups (ups (ups w0 0 (ups u4 28 (0 : Int32))) 3 u5) 9 c0_9) 11 c0_11))) rfl dX8_judge_78 (fun H locs hP hD hS => ?_)
    refine lv_iload_n hx hb dX8_judge_81 rfl (lv_at hl 1 rfl) ?_
    exact zretI hx hb hr hlocks hP hK hD hS hf rfl dX8_judge_82
  have k66 : ∀ (s23 : (Nat → Int32) → (Nat → Int32) → (Nat → Int32) → (Nat → Int32) → Int32 → Int32 → Option (Int32 × (Nat → Int32) × (Nat → Int32) × (Nat → Int32) × (Nat → Int32))) (hs23 : ∀ (c0_0 : (Nat → Int32)) (c0_3 : (Nat → Int32)) (c0_9 : (Nat → Int32)) (c0_11 : (Nat → Int32)) (x1 : Int32) (x2 : Int32) (H : Heap) (locs : List Loc) (ls : Array Slot), va_P (dC, dI) vwCl (zW_8 cy h0 (ups (ups (ups (ups w0 0 c0_0) 3 c0_3) 9 c0_9) 11 c0_11)) H → va_D A (zW_8 cy h0 (ups (ups (ups (ups w0 0 c0_0) 3 c0_3) 9 c0_9) 11 c0_11)) → va_S A s.heap H locs → lv_has ls 3 [(0, .ref (h0 0)), (1, .int x1), (2, .int x2)] → s23 c0_0 c0_3 c0_9 c0_11 x1 x2 = some z → W p l e ({ frames := 4, cells := 0, slots := 0, locals := 90 } : Room) s m args below meth c H locs 0 0 (MQ below (va_Qi (fun (q : Int32) (v : (Nat → Int32) × (Nat → Int32) × (Nat → Int32) × (Nat → Int32)) => (q, v) = z) (fun v => aWR (dC, dI) vwCl [(cy, .int)] A (zW_8 cy h0 (ups (ups (ups (ups w0 0 v.1) 3 v.2.1) 9 v.2.2.1) 11 v.2.2.2))) A) args s 0 0 A) (F0 m 23 ls [])), ∀ (c0_0 : (Nat → Int32)) (c0_3 : (Nat → Int32)) (c0_9 : (Nat → Int32)) (c0_11 : (Nat → Int32)) (x1 : Int32) (x2 : Int32) (H : Heap) (locs : List Loc) (ls : Array Slot), va_P (dC, dI) vwCl (zW_8 cy h0 (ups (ups (ups (ups w0 0 c0_0) 3 c0_3) 9 c0_9) 11 c0_11)) H → va_D A (zW_8 cy h0 (ups (ups (ups (ups w0 0 c0_0) 3 c0_3) 9 c0_9) 11 c0_11)) → va_S A s.heap H locs → lv_has ls 3 [(0, .ref (h0 0)), (1, .int x1), (2, .int x2)] → (fX8_judge_66 w0 s23) c0_0 c0_3 c0_9 c0_11 x1 x2 = some z → W p l e ({ frames := 4, cells := 0, slots := 0, locals := 90 } : Room) s m args below meth c H locs 0 0 (MQ below (va_Qi (fun (q : Int32) (v : (Nat → Int32) × (Nat → Int32) × (Nat → Int32) × (Nat → Int32)) => (q, v) = z) (fun v => aWR (dC, dI) vwCl [(cy, .int)] A (zW_8 cy h0 (ups (ups (ups (ups w0 0 v.1) 3 v.2.1) 9 v.2.2.1) 11 v.2.2.2))) A) args s 0 0 A) (F0 m 66 ls []) := by
    intro s23 hs23
    intro c0_0 c0_3 c0_9 c0_11 x1 x2 H locs ls hP hD hS hl hf
    unfold fX8_judge_66 at hf
    refine lv_zinc (lv' := [(2, .int (x2 + (1 : Int32))), (0, .ref (h0 0)), (1, .int x1)]) hx hb dX8_judge_66 hl (k := 2) rfl (v := (1 : Int32)) (by decide) (by decide) rfl (fun ls hl => ?_)
    refine lv_goto (tgt := 23) hx hb dX8_judge_69 (by decide) ?_
    exact hs23 c0_0 c0_3 c0_9 c0_11 x1 (x2 + (1 : Int32)) H locs ls hP hD hS (lv_sub hl [1, 2, 0] rfl) hf
  have k55 : ∀ (s23 : (Nat → Int32) → (Nat → Int32) → (Nat → Int32) → (Nat → Int32) → Int32 → Int32 → Option (Int32 × (Nat → Int32) × (Nat → Int32) × (Nat → Int32) × (Nat → Int32))) (hs23 : ∀ (c0_0 : (Nat → Int32)) (c0_3 : (Nat → Int32)) (c0_9 : (Nat → Int32)) (c0_11 : (Nat → Int32)) (x1 : Int32) (x2 : Int32) (H : Heap) (locs : List Loc) (ls : Array Slot), va_P (dC, dI) vwCl (zW_8 cy h0 (ups (ups (ups (ups w0 0 c0_0) 3 c0_3) 9 c0_9) 11 c0_11)) H → va_D A (zW_8 cy h0 (ups (ups (ups (ups w0 0 c0_0) 3 c0_3) 9 c0_9) 11 c0_11)) → va_S A s.heap H locs → lv_has ls 3 [(0, .ref (h0 0)), (1, .int x1), (2, .int x2)] → s23 c0_0 c0_3 c0_9 c0_11 x1 x2 = some z → W p l e ({ frames := 4, cells := 0, slots := 0, locals := 90 } : Room) s m args below meth c H locs 0 0 (MQ below (va_Qi (fun (q : Int32) (v : (Nat → Int32) × (Nat → Int32) × (Nat → Int32) × (Nat → Int32)) => (q, v) = z) (fun v => aWR (dC, dI) vwCl [(cy, .int)] A (zW_8 cy h0 (ups (ups (ups (ups w0 0 v.1) 3 v.2.1) 9 v.2.2.1) 11 v.2.2.2))) A) args s 0 0 A) (F0 m 23 ls [])), ∀ (c0_0 : (Nat → Int32)) (c0_3 : (Nat → Int32)) (c0_9 : (Nat → Int32)) (c0_11 : (Nat → Int32)) (x1 : Int32) (x2 : Int32) (t0 : Int32) (H : Heap) (locs : List Loc) (ls : Array Slot), va_P (dC, dI) vwCl (zW_8 cy h0 (ups (ups (ups (ups w0 0 c0_0) 3 c0_3) 9 c0_9) 11 c0_11)) H → va_D A (zW_8 cy h0 (ups (ups (ups (ups w0 0 c0_0) 3 c0_3) 9 c0_9) 11 c0_11)) → va_S A s.heap H locs → lv_has ls 3 [(0, .ref (h0 0)), (1, .int x1), (2, .int x2)] → (fX8_judge_55 w0 s23) c0_0 c0_3 c0_9 c0_11 x1 x2 t0 = some z → W p l e ({ frames := 4, cells := 0, slots := 0, locals := 90 } : Room) s m args below meth c H locs 0 0 (MQ below (va_Qi (fun (q : Int32) (v : (Nat → Int32) × (Nat → Int32) × (Nat → Int32) × (Nat → Int32)) => (q, v) = z) (fun v => aWR (dC, dI) vwCl [(cy, .int)] A (zW_8 cy h0 (ups (ups (ups (ups w0 0 v.1) 3 v.2.1) 9 v.2.2.1) 11 v.2.2.2))) A) args s 0 0 A) (F0 m 55 ls [.int t0]) := by
    intro s23 hs23
    intro c0_0 c0_3 c0_9 c0_11 x1 x2 t0 H locs ls hP hD hS hl hf
    unfold fX8_judge_55 at hf
    refine lv_aload_n hx hb dX8_judge_55 rfl (lv_at hl 0 rfl) ?_
    refine zget hx hb hts hown hK hP hin_8 0 rfl rfl 29 (by decide) mw_619 (v := .ref (h0 8)) rfl dX8_judge_56 ?_
    refine lv_iload_n hx hb dX8_judge_59 rfl (lv_at hl 2 rfl) ?_
    obtain ⟨hin8, hf⟩ := gd_d hf
    refine va_iald hx hb hK hP 8 0 rfl rfl hin8 dX8_judge_60 ?_
    refine lv_icmp_eq (tgt := 66) hx hb dX8_judge_61 (by decide) (fun hc => ?_) (fun hc => ?_)
    · have hf := it_t hc hf
      exact k66 s23 hs23 c0_0 c0_3 c0_9 c0_11 x1 x2 H locs ls hP hD hS (lv_sub hl [0, 1, 2] rfl) hf
    · have hf := it_f hc hf
      refine lv_iload_n hx hb dX8_judge_64 rfl (lv_at hl 2 rfl) ?_
      refine lv_istore_n (lv' := [(1, .int x2), (0, .ref (h0 0)), (2, .int x2)]) hx hb dX8_judge_65 rfl hl (by decide) rfl (fun ls hl => ?_)
      exact k66 s23 hs23 c0_0 c0_3 c0_9 c0_11 x2 x2 H locs ls hP hD hS (lv_sub hl [1, 0, 2] rfl) hf
  have k23 : ∀ n : Nat, ∀ (c0_0 : (Nat → Int32)) (c0_3 : (Nat → Int32)) (c0_9 : (Nat → Int32)) (c0_11 : (Nat → Int32)) (x1 : Int32) (x2 : Int32) (H : Heap) (locs : List Loc) (ls : Array Slot), va_P (dC, dI) vwCl (zW_8 cy h0 (ups (ups (ups (ups w0 0 c0_0) 3 c0_3) 9 c0_9) 11 c0_11)) H → va_D A (zW_8 cy h0 (ups (ups (ups (ups w0 0 c0_0) 3 c0_3) 9 c0_9) 11 c0_11)) → va_S A s.heap H locs → lv_has ls 3 [(0, .ref (h0 0)), (1, .int x1), (2, .int x2)] → (zl6 (fX8_judge_23 w0) n) c0_0 c0_3 c0_9 c0_11 x1 x2 = some z → W p l e ({ frames := 4, cells := 0, slots := 0, locals := 90 } : Room) s m args below meth c H locs 0 0 (MQ below (va_Qi (fun (q : Int32) (v : (Nat → Int32) × (Nat → Int32) × (Nat → Int32) × (Nat → Int32)) => (q, v) = z) (fun v => aWR (dC, dI) vwCl [(cy, .int)] A (zW_8 cy h0 (ups (ups (ups (ups w0 0 v.1) 3 v.2.1) 9 v.2.2.1) 11 v.2.2.2))) A) args s 0 0 A) (F0 m 23 ls []) := by
    intro n
    induction n with
    | zero =>
      intro c0_0 c0_3 c0_9 c0_11 x1 x2 H locs ls hP hD hS hl hf
      exact z_no hf
    | succ n hs23 =>
      intro c0_0 c0_3 c0_9 c0_11 x1 x2 H locs ls hP hD hS hl hf
      have hf : fX8_judge_23 w0 (zl6 (fX8_judge_23 w0) n) c0_0 c0_3 c0_9 c0_11 x1 x2 = some z := hf
      generalize zl6 (fX8_judge_23 w0) n = s23 at hs23 hf
      unfold fX8_judge_23 at hf
      refine lv_iload_n hx hb dX8_judge_23 rfl (lv_at hl 2 rfl) ?_
      refine lv_aload_n hx hb dX8_judge_24 rfl (lv_at hl 0 rfl) ?_
      refine zget hx hb hts hown hK hP hin_8 0 rfl rfl 28 (by decide) mw_618 (v := .int (c0_0 28)) rfl dX8_judge_25 ?_
      refine lv_icmp_ge (tgt := 72) hx hb dX8_judge_28 (by decide) (fun hc => ?_) (fun hc => ?_)
      · have hf := it_t hc hf
        exact k72 c0_0 c0_3 c0_9 c0_11 x1 H locs ls hP hD hS (lv_sub hl [0, 1] rfl) hf
      · have hf := it_f hc hf
        refine lv_iload_n hx hb dX8_judge_31 rfl (lv_at hl 1 rfl) ?_
        refine lv_if_ge (tgt := 72) hx hb dX8_judge_32 (by decide) (fun hc => ?_) (fun hc => ?_)
        · have hf := it_t hc hf
          exact k72 c0_0 c0_3 c0_9 c0_11 x1 H locs ls hP hD hS (lv_sub hl [0, 1] rfl) hf
        · have hf := it_f hc hf
          refine lv_aload_n hx hb dX8_judge_35 rfl (lv_at hl 0 rfl) ?_
          obtain ⟨u7, hq6, hf⟩ := ob1_d hf
          refine zwvV (q := (RX8, TX8, 37)) (As := []) (rest := []) (u := u7) (wn := (zW_8 cy h0 (ups (ups (ups (ups w0 0 u7) 3 c0_3) 9 c0_9) 11 c0_11))) ⟨hx, hb, hml, hown, hts⟩ (kX8_step l dC dI cy h0 (ups (ups (ups (ups w0 0 c0_0) 3 c0_3) 9 c0_9) 11 c0_11) H.size u7 hq6) mw_734 mw_735 mw_907 mw_9 mw_736 hdX8_step rfl rfl ⟨Nat.le_of_ble_eq_true rfl, Nat.le_of_ble_eq_true rfl⟩ hP hK hG hS 0 rfl rfl hD hA [0, 1, 2, 3, 4, 5, 6, 7, 8, 9, 10, 11, 12, 13] [] [0, 1, 2, 3, 4, 5, 6, 7, 8, 9, 10, 11, 12, 13] rfl rfl rfl rfl (by decide) rfl rfl rfl hl.1 rfl (Nat.le_of_ble_eq_true rfl) dX8_judge_36 ⟨Nat.zero_le _, Nat.zero_le _⟩ (fun H locs hP hD hS => ?_)
          refine lv_aload_n hx hb dX8_judge_39 rfl (lv_at hl 0 rfl) ?_
          refine zget hx hb hts hown hK hP hin_8 0 rfl rfl 13 (by decide) mw_603 (v := .int (u7 13)) rfl dX8_judge_40 ?_
          refine lv_if_ge (tgt := 51) hx hb dX8_judge_43 (by decide) (fun hc => ?_) (fun hc => ?_)
          · have hf := it_t hc hf
            refine lv_aload_n hx hb dX8_judge_51 rfl (lv_at hl 0 rfl) ?_
            refine zget hx hb hts hown hK hP hin_8 0 rfl rfl 13 (by decide) mw_603 (v := .int (u7 13)) rfl dX8_judge_52 ?_
            exact k55 s23 hs23 u7 c0_3 c0_9 c0_11 x1 x2 (u7 13) H locs ls hP hD hS (lv_sub hl [0, 1, 2] rfl) hf
          · have hf := it_f hc hf
            refine lv_bipush (v := (99 : Int32)) hx hb dX8_judge_46 (by decide) ?_
            refine lv_goto (tgt := 55) hx hb dX8_judge_48 (by decide) ?_
            exact k55 s23 hs23 u7 c0_3 c0_9 c0_11 x1 x2 (99 : Int32) H locs ls hP hD hS (lv_sub hl [0, 1, 2] rfl) hf
  obtain ⟨ls, hl, he⟩ := zent (m := m) (n := 3) (L := [(0, .ref (h0 0))]) ha (Nat.le_of_ble_eq_true rfl) rfl
  refine W.eq he ?_
  unfold fX8_judge at hf
  have kE : ∀ (H : Heap) (locs : List Loc), va_P (dC, dI) vwCl (zW_8 cy h0 (ups (ups (ups (ups w0 0 (w0 0)) 3 (w0 3)) 9 (w0 9)) 11 (w0 11))) H → va_D A (zW_8 cy h0 (ups (ups (ups (ups w0 0 (w0 0)) 3 (w0 3)) 9 (w0 9)) 11 (w0 11))) → va_S A s.heap H locs → W p l e ({ frames := 4, cells := 0, slots := 0, locals := 90 } : Room) s m args below meth c H locs 0 0 (MQ below (va_Qi (fun (q : Int32) (v : (Nat → Int32) × (Nat → Int32) × (Nat → Int32) × (Nat → Int32)) => (q, v) = z) (fun v => aWR (dC, dI) vwCl [(cy, .int)] A (zW_8 cy h0 (ups (ups (ups (ups w0 0 v.1) 3 v.2.1) 9 v.2.2.1) 11 v.2.2.2))) A) args s 0 0 A) (F0 m 0 ls []) := by
    intro H locs hP hD hS
    refine lv_aload_n hx hb dX8_judge_0 rfl (lv_at hl 0 rfl) ?_
    refine zget hx hb hts hown hK hP hin_8 0 rfl rfl 12 (by decide) mw_602 (v := .int (w0 0 12)) rfl dX8_judge_1 ?_
    refine lv_if_ne (tgt := 14) hx hb dX8_judge_4 (by decide) (fun hc => ?_) (fun hc => ?_)
    · have hf := it_f hc hf
      refine lv_aload_n hx hb dX8_judge_14 rfl (lv_at hl 0 rfl) ?_
      obtain ⟨u2, hq1, hf⟩ := ob1_d hf
      refine zwvV (q := (RX8, TX8, 37)) (As := []) (rest := []) (u := u2) (wn := (zW_8 cy h0 (ups (ups (ups (ups w0 0 (w0 0)) 3 (w0 3)) 9 (w0 9)) 11 u2))) ⟨hx, hb, hml, hown, hts⟩ (kX8_keep l dC dI cy h0 (ups (ups (ups (ups w0 0 (w0 0)) 3 (w0 3)) 9 (w0 9)) 11 (w0 11)) H.size u2 hq1) mw_812 mw_813 mw_917 mw_9 mw_814 hdX8_keep rfl rfl ⟨Nat.le_of_ble_eq_true rfl, Nat.le_of_ble_eq_true rfl⟩ hP hK hG hS 0 rfl rfl hD hA [0, 1, 2, 3, 4, 5, 6, 7, 8, 9, 10, 11, 12, 13] [] [0, 1, 2, 3, 4, 5, 6, 7, 8, 9, 10, 11, 12, 13] rfl rfl rfl rfl (by decide) rfl rfl rfl hl.1 rfl (Nat.le_of_ble_eq_true rfl) dX8_judge_15 ⟨Nat.zero_le _, Nat.zero_le _⟩ (fun H locs hP hD hS => ?_)
      refine lv_bipush (v := (-9 : Int32)) hx hb dX8_judge_18 (by decide) ?_
      refine lv_istore_n (lv' := [(1, .int (-9 : Int32)), (0, .ref (h0 0))]) hx hb dX8_judge_20 rfl hl (by decide) rfl (fun ls hl => ?_)
      refine lv_iconst (v := (0 : Int32)) hx hb dX8_judge_21 (by decide) ?_
      refine lv_istore_n (lv' := [(2, .int (0 : Int32)), (1, .int (-9 : Int32)), (0, .ref (h0 0))]) hx hb dX8_judge_22 rfl hl (by decide) rfl (fun ls hl => ?_)
      exact k23 zFU (w0 0) (w0 3) (w0 9) u2 (-9 : Int32) (0 : Int32) H locs ls hP hD hS (lv_sub hl [2, 1, 0] rfl) hf
    · have hf := it_t hc hf
      refine lv_aload_n hx hb dX8_judge_7 rfl (lv_at hl 0 rfl) ?_
      refine lv_bipush (v := (-3 : Int32)) hx hb dX8_judge_8 (by decide) ?_
      obtain ⟨r10, u11, hq9, hf⟩ := ob2_d hf
      refine zwiV (q := (RX8, TX8, 37)) (As := [.int (-3 : Int32)]) (rest := []) (r := r10) (u := u11) (wn := (zW_8 cy h0 (ups (ups (ups (ups w0 0 (w0 0)) 3 (w0 3)) 9 u11) 11 (w0 11)))) ⟨hx, hb, hml, hown, hts⟩ (kX8_no l dC dI cy h0 (ups (ups (ups (ups w0 0 (w0 0)) 3 (w0 3)) 9 (w0 9)) 11 (w0 11)) (-3 : Int32) H.size (r10, u11) hq9) mw_668 mw_669 mw_898 mw_9 mw_670 hdX8_no rfl rfl ⟨Nat.le_of_ble_eq_true rfl, Nat.le_of_ble_eq_true rfl⟩ hP hK hG hS 0 rfl rfl hD hA [0, 1, 2, 3, 4, 5, 6, 7, 8, 9, 10, 11, 12, 13] [] [0, 1, 2, 3, 4, 5, 6, 7, 8, 9, 10, 11, 12, 13] rfl rfl rfl rfl (by decide) rfl rfl rfl hl.1 rfl (Nat.le_of_ble_eq_true rfl) dX8_judge_10 ⟨Nat.zero_le _, Nat.zero_le _⟩ (fun H locs hP hD hS => ?_)
      exact zretI hx hb hr hlocks hP hK hD hS hf rfl dX8_judge_13
  exact kE s.heap [] hP hD hS
set_option maxHeartbeats 4000000 in
set_option maxRecDepth 100000 in
theorem kX8_image (l : Launch) (dC : Nat → ClassId) (dI : Nat → Nat → Nat) (cy : ClassId) (h0 : Nat → Nat) (w0 : Nat → Nat → Int32) (sz : Nat) (z : Int32 × (Nat → Int32) × (Nat → Int32) × (Nat → Int32)) (hf : fX8_image w0 = some z) : Met l yX8_image (wsM yX8_image cX8_image 2 (some .int)) ({ frames := 1, cells := 0, slots := 0, locals := 20 } : Room) (va_Pc [.ref (h0 0)] (pWR (dC, dI) vwCl [(cy, .int)] (zW_8 cy h0 w0) sz)) (va_Qi (fun (q : Int32) (v : (Nat → Int32) × (Nat → Int32) × (Nat → Int32)) => (q, v) = z) (fun v => aWR (dC, dI) vwCl [(cy, .int)] (va_A (zW_8 cy h0 w0) sz) (zW_8 cy h0 (ups (ups (ups w0 0 v.1) 10 v.2.1) 11 v.2.2))) (va_A (zW_8 cy h0 w0) sz)) 0 0 (va_A (zW_8 cy h0 w0) sz) := by
  refine Met.ofW (cc := cX8_image) (maxL := 2) (ret := (some .int)) (by decide) rfl ?_
  intro p e s m args below meth c s₁ B hml hv
  obtain ⟨ha, hsz, hP, hK, hD0, hG⟩ := hv
  have hx := B.exec
  have hb := B.bytes
  have hr := B.returns
  have hts : ∀ w ∈ wsA, w.before args s = true := fun w h => atoms_spec (ws := wsM yX8_image cX8_image 2 (some .int)) B.pre w (List.mem_cons_of_mem _ h)
  have hown : s.vm.findClass RX8 = some m.cls := findClass_of_methodNamed B.named
  have hlocks := B.notSynchronized
  subst hsz
  have hD := hD0.self (sz := s.heap.size)
  generalize hAe : va_A (zW_8 cy h0 w0) s.heap.size = A at hD hG ⊢
  have hA : ∀ q : Nat, s.heap.size ≤ q → A q := fun q h => by rw [← hAe]; exact Or.inr h
  have hS : va_S A s.heap s.heap [] := va_S.rf
  have hP : va_P (dC, dI) vwCl (zW_8 cy h0 (ups (ups (ups w0 0 (w0 0)) 10 (w0 10)) 11 (w0 11))) s.heap := hP
  have hD : va_D A (zW_8 cy h0 (ups (ups (ups w0 0 (w0 0)) 10 (w0 10)) 11 (w0 11))) := hD
  have k203 : ∀ n : Nat, ∀ (c0_0 : (Nat → Int32)) (c0_10 : (Nat → Int32)) (c0_11 : (Nat → Int32)) (x1 : Int32) (H : Heap) (locs : List Loc) (ls : Array Slot), va_P (dC, dI) vwCl (zW_8 cy h0 (ups (ups (ups w0 0 c0_0) 10 c0_10) 11 c0_11)) H → va_D A (zW_8 cy h0 (ups (ups (ups w0 0 c0_0) 10 c0_10) 11 c0_11)) → va_S A s.heap H locs → lv_has ls 2 [(0, .ref (h0 0)), (1, .int x1)] → (zl4 (fX8_image_203 w0) n) c0_0 c0_10 c0_11 x1 = some z → W p l e ({ frames := 1, cells := 0, slots := 0, locals := 20 } : Room) s m args below meth c H locs 0 0 (MQ below (va_Qi (fun (q : Int32) (v : (Nat → Int32) × (Nat → Int32) × (Nat → Int32)) => (q, v) = z) (fun v => aWR (dC, dI) vwCl [(cy, .int)] A (zW_8 cy h0 (ups (ups (ups w0 0 v.1) 10 v.2.1) 11 v.2.2))) A) args s 0 0 A) (F0 m 203 ls []) := by
    intro n
    induction n with
    | zero =>
      intro c0_0 c0_10 c0_11 x1 H locs ls hP hD hS hl hf
      exact z_no hf
    | succ n hs203 =>
      intro c0_0 c0_10 c0_11 x1 H locs ls hP hD hS hl hf
      have hf : fX8_image_203 w0 (zl4 (fX8_image_203 w0) n) c0_0 c0_10 c0_11 x1 = some z := hf
      generalize zl4 (fX8_image_203 w0) n = s203 at hs203 hf
      unfold fX8_image_203 at hf
      refine lv_iload_n hx hb dX8_image_203 rfl (lv_at hl 1 rfl) ?_
      refine lv_bipush (v := (12 : Int32)) hx hb dX8_image_204 (by decide) ?_
      refine lv_icmp_ge (tgt := 230) hx hb dX8_image_206 (by decide) (fun hc => ?_) (fun hc => ?_)
      · have hf := it_t hc hf
        refine lv_aload_n hx hb dX8_image_230 rfl (lv_at hl 0 rfl) ?_
        refine zget hx hb hts hown hK hP hin_8 0 rfl rfl 0 (by decide) mw_590 (v := .int (c0_0 0)) rfl dX8_image_231 ?_
        refine lv_aload_n hx hb dX8_image_234 rfl (lv_at hl 0 rfl) ?_
        refine zget hx hb hts hown hK hP hin_8 0 rfl rfl 1 (by decide) mw_591 (v := .int (c0_0 1)) rfl dX8_image_235 ?_
        refine lv_imul hx hb dX8_image_238 ?_
        exact zretI hx hb hr hlocks hP hK hD hS hf rfl dX8_image_239
      · have hf := it_f hc hf
        refine lv_aload_n hx hb dX8_image_209 rfl (lv_at hl 0 rfl) ?_
        refine zget hx hb hts hown hK hP hin_8 0 rfl rfl 32 (by decide) mw_622 (v := .ref (h0 10)) rfl dX8_image_210 ?_
        refine lv_bipush (v := (108 : Int32)) hx hb dX8_image_213 (by decide) ?_
        refine lv_iload_n hx hb dX8_image_215 rfl (lv_at hl 1 rfl) ?_
        refine lv_iadd hx hb dX8_image_216 ?_
        refine lv_aload_n hx hb dX8_image_217 rfl (lv_at hl 0 rfl) ?_
        refine zget hx hb hts hown hK hP hin_8 0 rfl rfl 33 (by decide) mw_623 (v := .ref (h0 11)) rfl dX8_image_218 ?_
        refine lv_iload_n hx hb dX8_image_221 rfl (lv_at hl 1 rfl) ?_
        obtain ⟨hin9, hf⟩ := gd_d hf
        refine va_iald hx hb hK hP 11 0 rfl rfl hin9 dX8_image_222 ?_
        obtain ⟨hin10, hf⟩ := gd_d hf
        obtain ⟨g11, hg11, hf⟩ := nm_d hf
        refine zast hx hb hK hP hD hS 10 (wn := (zW_8 cy h0 (ups (ups (ups w0 0 c0_0) 10 g11) 11 c0_11))) hg11 rfl rfl hin10 rfl dX8_image_223 (fun H locs hP hD hS => ?_)
        refine lv_zinc (lv' := [(1, .int (x1 + (1 : Int32))), (0, .ref (h0 0))]) hx hb dX8_image_224 hl (k := 1) rfl (v := (1 : Int32)) (by decide) (by decide) rfl (fun ls hl => ?_)
        refine lv_goto (tgt := 203) hx hb dX8_image_227 (by decide) ?_
        exact hs203 c0_0 g11 c0_11 (x1 + (1 : Int32)) H locs ls hP hD hS (lv_sub hl [1, 0] rfl) hf
  have k196 : ∀ (c0_0 : (Nat → Int32)) (c0_10 : (Nat → Int32)) (c0_11 : (Nat → Int32)) (t1 : Int32) (t2 : Int32) (H : Heap) (locs : List Loc) (ls : Array Slot), va_P (dC, dI) vwCl (zW_8 cy h0 (ups (ups (ups w0 0 c0_0) 10 c0_10) 11 c0_11)) H → va_D A (zW_8 cy h0 (ups (ups (ups w0 0 c0_0) 10 c0_10) 11 c0_11)) → va_S A s.heap H locs → lv_has ls 2 [(0, .ref (h0 0))] → (fX8_image_196 w0) c0_0 c0_10 c0_11 t1 t2 = some z → W p l e ({ frames := 1, cells := 0, slots := 0, locals := 20 } : Room) s m args below meth c H locs 0 0 (MQ below (va_Qi (fun (q : Int32) (v : (Nat → Int32) × (Nat → Int32) × (Nat → Int32)) => (q, v) = z) (fun v => aWR (dC, dI) vwCl [(cy, .int)] A (zW_8 cy h0 (ups (ups (ups w0 0 v.1) 10 v.2.1) 11 v.2.2))) A) args s 0 0 A) (F0 m 196 ls [.int t2, .int t1, .ref (h0 10)]) := by
    intro c0_0 c0_10 c0_11 t1 t2 H locs ls hP hD hS hl hf
    unfold fX8_image_196 at hf
    obtain ⟨hin5, hf⟩ := gd_d hf
    obtain ⟨g6, hg6, hf⟩ := nm_d hf
    refine zast hx hb hK hP hD hS 10 (wn := (zW_8 cy h0 (ups (ups (ups w0 0 c0_0) 10 g6) 11 c0_11))) hg6 rfl rfl hin5 rfl dX8_image_196 (fun H locs hP hD hS => ?_)
    refine lv_aload_n hx hb dX8_image_197 rfl (lv_at hl 0 rfl) ?_
    obtain ⟨u8, hq7, hf⟩ := ob1_d hf
    refine zwvV (q := (RX8, TX8, 37)) (As := []) (rest := []) (u := u8) (wn := (zW_8 cy h0 (ups (ups (ups w0 0 c0_0) 10 g6) 11 u8))) ⟨hx, hb, hml, hown, hts⟩ (kX8_keep l dC dI cy h0 (ups (ups (ups w0 0 c0_0) 10 g6) 11 c0_11) H.size u8 hq7) mw_812 mw_813 mw_917 mw_9 mw_814 hdX8_keep rfl rfl ⟨Nat.le_of_ble_eq_true rfl, Nat.le_of_ble_eq_true rfl⟩ hP hK hG hS 0 rfl rfl hD hA [0, 1, 2, 3, 4, 5, 6, 7, 8, 9, 10, 11, 12, 13] [] [0, 1, 2, 3, 4, 5, 6, 7, 8, 9, 10, 11, 12, 13] rfl rfl rfl rfl (by decide) rfl rfl rfl hl.1 rfl (Nat.le_of_ble_eq_true rfl) dX8_image_198 ⟨Nat.zero_le _, Nat.zero_le _⟩ (fun H locs hP hD hS => ?_)
    refine lv_iconst (v := (0 : Int32)) hx hb dX8_image_201 (by decide) ?_
    refine lv_istore_n (lv' := [(1, .int (0 : Int32)), (0, .ref (h0 0))]) hx hb dX8_image_202 rfl hl (by decide) rfl (fun ls hl => ?_)
    exact k203 zFU c0_0 g6 u8 (0 : Int32) H locs ls hP hD hS (lv_sub hl [1, 0] rfl) hf
  have k62 : ∀ n : Nat, ∀ (c0_0 : (Nat → Int32)) (c0_10 : (Nat → Int32)) (c0_11 : (Nat → Int32)) (x1 : Int32) (H : Heap) (locs : List Loc) (ls : Array Slot), va_P (dC, dI) vwCl (zW_8 cy h0 (ups (ups (ups w0 0 c0_0) 10 c0_10) 11 c0_11)) H → va_D A (zW_8 cy h0 (ups (ups (ups w0 0 c0_0) 10 c0_10) 11 c0_11)) → va_S A s.heap H locs → lv_has ls 2 [(0, .ref (h0 0)), (1, .int x1)] → (zl4 (fX8_image_62 w0) n) c0_0 c0_10 c0_11 x1 = some z → W p l e ({ frames := 1, cells := 0, slots := 0, locals := 20 } : Room) s m args below meth c H locs 0 0 (MQ below (va_Qi (fun (q : Int32) (v : (Nat → Int32) × (Nat → Int32) × (Nat → Int32)) => (q, v) = z) (fun v => aWR (dC, dI) vwCl [(cy, .int)] A (zW_8 cy h0 (ups (ups (ups w0 0 v.1) 10 v.2.1) 11 v.2.2))) A) args s 0 0 A) (F0 m 62 ls []) := by
    intro n
    induction n with
    | zero =>
      intro c0_0 c0_10 c0_11 x1 H locs ls hP hD hS hl hf
      exact z_no hf
    | succ n hs62 =>
      intro c0_0 c0_10 c0_11 x1 H locs ls hP hD hS hl hf
      have hf : fX8_image_62 w0 (zl4 (fX8_image_62 w0) n) c0_0 c0_10 c0_11 x1 = some z := hf
      generalize zl4 (fX8_image_62 w0) n = s62 at hs62 hf
      unfold fX8_image_62 at hf
      refine lv_iload_n hx hb dX8_image_62 rfl (lv_at hl 1 rfl) ?_
      refine lv_bipush (v := (8 : Int32)) hx hb dX8_image_63 (by decide) ?_
      refine lv_icmp_ge (tgt := 134) hx hb dX8_image_65 (by decide) (fun hc => ?_) (fun hc => ?_)
      · have hf := it_t hc hf
        refine lv_aload_n hx hb dX8_image_134 rfl (lv_at hl 0 rfl) ?_
        refine zget hx hb hts hown hK hP hin_8 0 rfl rfl 32 (by decide) mw_622 (v := .ref (h0 10)) rfl dX8_image_135 ?_
        refine lv_bipush (v := (103 : Int32)) hx hb dX8_image_138 (by decide) ?_
        refine lv_aload_n hx hb dX8_image_140 rfl (lv_at hl 0 rfl) ?_
        refine zget hx hb hts hown hK hP hin_8 0 rfl rfl 0 (by decide) mw_590 (v := .int (c0_0 0)) rfl dX8_image_141 ?_
        obtain ⟨g1, hg1, hf⟩ := nm_d hf
        refine zast hx hb hK hP hD hS 10 (wn := (zW_8 cy h0 (ups (ups (ups w0 0 c0_0) 10 g1) 11 c0_11))) hg1 rfl rfl (vin_lit (by decide)) rfl dX8_image_144 (fun H locs hP hD hS => ?_)
        refine lv_aload_n hx hb dX8_image_145 rfl (lv_at hl 0 rfl) ?_
        refine zget hx hb hts hown hK hP hin_8 0 rfl rfl 32 (by decide) mw_622 (v := .ref (h0 10)) rfl dX8_image_146 ?_
        refine lv_bipush (v := (104 : Int32)) hx hb dX8_image_149 (by decide) ?_
        refine lv_aload_n hx hb dX8_image_151 rfl (lv_at hl 0 rfl) ?_
        refine zget hx hb hts hown hK hP hin_8 0 rfl rfl 1 (by decide) mw_591 (v := .int (c0_0 1)) rfl dX8_image_152 ?_
        obtain ⟨g2, hg2, hf⟩ := nm_d hf
        refine zast hx hb hK hP hD hS 10 (wn := (zW_8 cy h0 (ups (ups (ups w0 0 c0_0) 10 g2) 11 c0_11))) hg2 rfl rfl (vin_lit (by decide)) rfl dX8_image_155 (fun H locs hP hD hS => ?_)
        refine lv_aload_n hx hb dX8_image_156 rfl (lv_at hl 0 rfl) ?_
        refine zget hx hb hts hown hK hP hin_8 0 rfl rfl 32 (by decide) mw_622 (v := .ref (h0 10)) rfl dX8_image_157 ?_
        refine lv_bipush (v := (105 : Int32)) hx hb dX8_image_160 (by decide) ?_
        refine lv_aload_n hx hb dX8_image_162 rfl (lv_at hl 0 rfl) ?_
        refine zget hx hb hts hown hK hP hin_8 0 rfl rfl 6 (by decide) mw_596 (v := .int (c0_0 6)) rfl dX8_image_163 ?_
        obtain ⟨g3, hg3, hf⟩ := nm_d hf
        refine zast hx hb hK hP hD hS 10 (wn := (zW_8 cy h0 (ups (ups (ups w0 0 c0_0) 10 g3) 11 c0_11))) hg3 rfl rfl (vin_lit (by decide)) rfl dX8_image_166 (fun H locs hP hD hS => ?_)
        refine lv_aload_n hx hb dX8_image_167 rfl (lv_at hl 0 rfl) ?_
        refine zget hx hb hts hown hK hP hin_8 0 rfl rfl 32 (by decide) mw_622 (v := .ref (h0 10)) rfl dX8_image_168 ?_
        refine lv_bipush (v := (106 : Int32)) hx hb dX8_image_171 (by decide) ?_
        refine lv_aload_n hx hb dX8_image_173 rfl (lv_at hl 0 rfl) ?_
        refine zget hx hb hts hown hK hP hin_8 0 rfl rfl 9 (by decide) mw_599 (v := .int (c0_0 9)) rfl dX8_image_174 ?_
        obtain ⟨g4, hg4, hf⟩ := nm_d hf
        refine zast hx hb hK hP hD hS 10 (wn := (zW_8 cy h0 (ups (ups (ups w0 0 c0_0) 10 g4) 11 c0_11))) hg4 rfl rfl (vin_lit (by decide)) rfl dX8_image_177 (fun H locs hP hD hS => ?_)
        refine lv_aload_n hx hb dX8_image_178 rfl (lv_at hl 0 rfl) ?_
        refine zget hx hb hts hown hK hP hin_8 0 rfl rfl 32 (by decide) mw_622 (v := .ref (h0 10)) rfl dX8_image_179 ?_
        refine lv_bipush (v := (107 : Int32)) hx hb dX8_image_182 (by decide) ?_
        refine lv_aload_n hx hb dX8_image_184 rfl (lv_at hl 0 rfl) ?_
        refine zget hx hb hts hown hK hP hin_8 0 rfl rfl 12 (by decide) mw_602 (v := .int (c0_0 12)) rfl dX8_image_185 ?_
        refine lv_if_eq (tgt := 195) hx hb dX8_image_188 (by decide) (fun hc => ?_) (fun hc => ?_)
        · have hf := it_t hc hf
          refine lv_iconst (v := (0 : Int32)) hx hb dX8_image_195 (by decide) ?_
          exact k196 c0_0 g4 c0_11 (107 : Int32) (0 : Int32) H locs ls hP hD hS (lv_sub hl [0] rfl) hf
        · have hf := it_f hc hf
          refine lv_iconst (v := (1 : Int32)) hx hb dX8_image_191 (by decide) ?_
          refine lv_goto (tgt := 196) hx hb dX8_image_192 (by decide) ?_
          exact k196 c0_0 g4 c0_11 (107 : Int32) (1 : Int32) H locs ls hP hD hS (lv_sub hl [0] rfl) hf
      · have hf := it_f hc hf
        refine lv_aload_n hx hb dX8_image_68 rfl (lv_at hl 0 rfl) ?_
        refine zget hx hb hts hown hK hP hin_8 0 rfl rfl 32 (by decide) mw_622 (v := .ref (h0 10)) rfl dX8_image_69 ?_
        refine lv_bipush (v := (71 : Int32)) hx hb dX8_image_72 (by decide) ?_
        refine lv_iload_n hx hb dX8_image_74 rfl (lv_at hl 1 rfl) ?_
        refine lv_iadd hx hb dX8_image_75 ?_
        refine lv_aload_n hx hb dX8_image_76 rfl (lv_at hl 0 rfl) ?_
        refine zget hx hb hts hown hK hP hin_8 0 rfl rfl 7 (by decide) mw_597 (v := .ref (h0 4)) rfl dX8_image_77 ?_
        refine lv_iload_n hx hb dX8_image_80 rfl (lv_at hl 1 rfl) ?_
        obtain ⟨hin12, hf⟩ := gd_d hf
        refine va_iald hx hb hK hP 4 0 rfl rfl hin12 dX8_image_81 ?_
        obtain ⟨hin13, hf⟩ := gd_d hf
        obtain ⟨g14, hg14, hf⟩ := nm_d hf
        refine zast hx hb hK hP hD hS 10 (wn := (zW_8 cy h0 (ups (ups (ups w0 0 c0_0) 10 g14) 11 c0_11))) hg14 rfl rfl hin13 rfl dX8_image_82 (fun H locs hP hD hS => ?_)
        refine lv_aload_n hx hb dX8_image_83 rfl (lv_at hl 0 rfl) ?_
        refine zget hx hb hts hown hK hP hin_8 0 rfl rfl 32 (by decide) mw_622 (v := .ref (h0 10)) rfl dX8_image_84 ?_
        refine lv_bipush (v := (79 : Int32)) hx hb dX8_image_87 (by decide) ?_
        refine lv_iload_n hx hb dX8_image_89 rfl (lv_at hl 1 rfl) ?_
        refine lv_iadd hx hb dX8_image_90 ?_
        refine lv_aload_n hx hb dX8_image_91 rfl (lv_at hl 0 rfl) ?_
        refine zget hx hb hts hown hK hP hin_8 0 rfl rfl 8 (by decide) mw_598 (v := .ref (h0 5)) rfl dX8_image_92 ?_
        refine lv_iload_n hx hb dX8_image_95 rfl (lv_at hl 1 rfl) ?_
        obtain ⟨hin15, hf⟩ := gd_d hf
        refine va_iald hx hb hK hP 5 0 rfl rfl hin15 dX8_image_96 ?_
        obtain ⟨hin16, hf⟩ := gd_d hf
        obtain ⟨g17, hg17, hf⟩ := nm_d hf
        refine zast hx hb hK hP hD hS 10 (wn := (zW_8 cy h0 (ups (ups (ups w0 0 c0_0) 10 g17) 11 c0_11))) hg17 rfl rfl hin16 rfl dX8_image_97 (fun H locs hP hD hS => ?_)
        refine lv_aload_n hx hb dX8_image_98 rfl (lv_at hl 0 rfl) ?_
        refine zget hx hb hts hown hK hP hin_8 0 rfl rfl 32 (by decide) mw_622 (v := .ref (h0 10)) rfl dX8_image_99 ?_
        refine lv_bipush (v := (87 : Int32)) hx hb dX8_image_102 (by decide) ?_
        refine lv_iload_n hx hb dX8_image_104 rfl (lv_at hl 1 rfl) ?_
        refine lv_iadd hx hb dX8_image_105 ?_
        refine lv_aload_n hx hb dX8_image_106 rfl (lv_at hl 0 rfl) ?_
        refine zget hx hb hts hown hK hP hin_8 0 rfl rfl 10 (by decide) mw_600 (v := .ref (h0 6)) rfl dX8_image_107 ?_
        refine lv_iload_n hx hb dX8_image_110 rfl (lv_at hl 1 rfl) ?_
        obtain ⟨hin18, hf⟩ := gd_d hf
        refine va_iald hx hb hK hP 6 0 rfl rfl hin18 dX8_image_111 ?_
        obtain ⟨hin19, hf⟩ := gd_d hf
        obtain ⟨g20, hg20, hf⟩ := nm_d hf
        refine zast hx hb hK hP hD hS 10 (wn := (zW_8 cy h0 (ups (ups (ups w0 0 c0_0) 10 g20) 11 c0_11))) hg20 rfl rfl hin19 rfl dX8_image_112 (fun H locs hP hD hS => ?_)
        refine lv_aload_n hx hb dX8_image_113 rfl (lv_at hl 0 rfl) ?_
        refine zget hx hb hts hown hK hP hin_8 0 rfl rfl 32 (by decide) mw_622 (v := .ref (h0 10)) rfl dX8_image_114 ?_
        refine lv_bipush (v := (95 : Int32)) hx hb dX8_image_117 (by decide) ?_
        refine lv_iload_n hx hb dX8_image_119 rfl (lv_at hl 1 rfl) ?_
        refine lv_iadd hx hb dX8_image_120 ?_
        refine lv_aload_n hx hb dX8_image_121 rfl (lv_at hl 0 rfl) ?_
        refine zget hx hb hts hown hK hP hin_8 0 rfl rfl 11 (by decide) mw_601 (v := .ref (h0 7)) rfl dX8_image_122 ?_
        refine lv_iload_n hx hb dX8_image_125 rfl (lv_at hl 1 rfl) ?_
        obtain ⟨hin21, hf⟩ := gd_d hf
        refine va_iald hx hb hK hP 7 0 rfl rfl hin21 dX8_image_126 ?_
        obtain ⟨hin22, hf⟩ := gd_d hf
        obtain ⟨g23, hg23, hf⟩ := nm_d hf
        refine zast hx hb hK hP hD hS 10 (wn := (zW_8 cy h0 (ups (ups (ups w0 0 c0_0) 10 g23) 11 c0_11))) hg23 rfl rfl hin22 rfl dX8_image_127 (fun H locs hP hD hS => ?_)
        refine lv_zinc (lv' := [(1, .int (x1 + (1 : Int32))), (0, .ref (h0 0))]) hx hb dX8_image_128 hl (k := 1) rfl (v := (1 : Int32)) (by decide) (by decide) rfl (fun ls hl => ?_)
        refine lv_goto (tgt := 62) hx hb dX8_image_131 (by decide) ?_
        exact hs62 c0_0 g23 c0_11 (x1 + (1 : Int32)) H locs ls hP hD hS (lv_sub hl [1, 0] rfl) hf
  have k33 : ∀ n : Nat, ∀ (c0_0 : (Nat → Int32)) (c0_10 : (Nat → Int32)) (c0_11 : (Nat → Int32)) (x1 : Int32) (H : Heap) (locs : List Loc) (ls : Array Slot), va_P (dC, dI) vwCl (zW_8 cy h0 (ups (ups (ups w0 0 c0_0) 10 c0_10) 11 c0_11)) H → va_D A (zW_8 cy h0 (ups (ups (ups w0 0 c0_0) 10 c0_10) 11 c0_11)) → va_S A s.heap H locs → lv_has ls 2 [(0, .ref (h0 0)), (1, .int x1)] → (zl4 (fX8_image_33 w0) n) c0_0 c0_10 c0_11 x1 = some z → W p l e ({ frames := 1, cells := 0, slots := 0, locals := 20 } : Room) s m args below meth c H locs 0 0 (MQ below (va_Qi (fun (q : Int32) (v : (Nat → Int32) × (Nat → Int32) × (Nat → Int32)) => (q, v) = z) (fun v => aWR (dC, dI) vwCl [(cy, .int)] A (zW_8 cy h0 (ups (ups (ups w0 0 v.1) 10 v.2.1) 11 v.2.2))) A) args s 0 0 A) (F0 m 33 ls []) := by
    intro n
    induction n with
    | zero =>
      intro c0_0 c0_10 c0_11 x1 H locs ls hP hD hS hl hf
      exact z_no hf
    | succ n hs33 =>
      intro c0_0 c0_10 c0_11 x1 H locs ls hP hD hS hl hf
      have hf : fX8_image_33 w0 (zl4 (fX8_image_33 w0) n) c0_0 c0_10 c0_11 x1 = some z := hf
      generalize zl4 (fX8_image_33 w0) n = s33 at hs33 hf
      unfold fX8_image_33 at hf
      refine lv_iload_n hx hb dX8_image_33 rfl (lv_at hl 1 rfl) ?_
      refine lv_bipush (v := (7 : Int32)) hx hb dX8_image_34 (by decide) ?_
      refine lv_icmp_ge (tgt := 60) hx hb dX8_image_36 (by decide) (fun hc => ?_) (fun hc => ?_)
      · have hf := it_t hc hf
        refine lv_iconst (v := (0 : Int32)) hx hb dX8_image_60 (by decide) ?_
        refine lv_istore_n (lv' := [(1, .int (0 : Int32)), (0, .ref (h0 0))]) hx hb dX8_image_61 rfl hl (by decide) rfl (fun ls hl => ?_)
        exact k62 zFU c0_0 c0_10 c0_11 (0 : Int32) H locs ls hP hD hS (lv_sub hl [1, 0] rfl) hf
      · have hf := it_f hc hf
        refine lv_aload_n hx hb dX8_image_39 rfl (lv_at hl 0 rfl) ?_
        refine zget hx hb hts hown hK hP hin_8 0 rfl rfl 32 (by decide) mw_622 (v := .ref (h0 10)) rfl dX8_image_40 ?_
        refine lv_bipush (v := (64 : Int32)) hx hb dX8_image_43 (by decide) ?_
        refine lv_iload_n hx hb dX8_image_45 rfl (lv_at hl 1 rfl) ?_
        refine lv_iadd hx hb dX8_image_46 ?_
        refine lv_aload_n hx hb dX8_image_47 rfl (lv_at hl 0 rfl) ?_
        refine zget hx hb hts hown hK hP hin_8 0 rfl rfl 5 (by decide) mw_595 (v := .ref (h0 3)) rfl dX8_image_48 ?_
        refine lv_iload_n hx hb dX8_image_51 rfl (lv_at hl 1 rfl) ?_
        obtain ⟨hin24, hf⟩ := gd_d hf
        refine va_iald hx hb hK hP 3 0 rfl rfl hin24 dX8_image_52 ?_
        obtain ⟨hin25, hf⟩ := gd_d hf
        obtain ⟨g26, hg26, hf⟩ := nm_d hf
        refine zast hx hb hK hP hD hS 10 (wn := (zW_8 cy h0 (ups (ups (ups w0 0 c0_0) 10 g26) 11 c0_11))) hg26 rfl rfl hin25 rfl dX8_image_53 (fun H locs hP hD hS => ?_)
        refine lv_zinc (lv' := [(1, .int (x1 + (1 : Int32))), (0, .ref (h0 0))]) hx hb dX8_image_54 hl (k := 1) rfl (v := (1 : Int32)) (by decide) (by decide) rfl (fun ls hl => ?_)
        refine lv_goto (tgt := 33) hx hb dX8_image_57 (by decide) ?_
        exact hs33 c0_0 g26 c0_11 (x1 + (1 : Int32)) H locs ls hP hD hS (lv_sub hl [1, 0] rfl) hf
  have k7 : ∀ n : Nat, ∀ (c0_0 : (Nat → Int32)) (c0_10 : (Nat → Int32)) (c0_11 : (Nat → Int32)) (x1 : Int32) (H : Heap) (locs : List Loc) (ls : Array Slot), va_P (dC, dI) vwCl (zW_8 cy h0 (ups (ups (ups w0 0 c0_0) 10 c0_10) 11 c0_11)) H → va_D A (zW_8 cy h0 (ups (ups (ups w0 0 c0_0) 10 c0_10) 11 c0_11)) → va_S A s.heap H locs → lv_has ls 2 [(0, .ref (h0 0)), (1, .int x1)] → (zl4 (fX8_image_7 w0) n) c0_0 c0_10 c0_11 x1 = some z → W p l e ({ frames := 1, cells := 0, slots := 0, locals := 20 } : Room) s m args below meth c H locs 0 0 (MQ below (va_Qi (fun (q : Int32) (v : (Nat → Int32) × (Nat → Int32) × (Nat → Int32)) => (q, v) = z) (fun v => aWR (dC, dI) vwCl [(cy, .int)] A (zW_8 cy h0 (ups (ups (ups w0 0 v.1) 10 v.2.1) 11 v.2.2))) A) args s 0 0 A) (F0 m 7 ls []) := by
    intro n
    induction n with
    | zero =>
      intro c0_0 c0_10 c0_11 x1 H locs ls hP hD hS hl hf
      exact z_no hf
    | succ n hs7 =>
      intro c0_0 c0_10 c0_11 x1 H locs ls hP hD hS hl hf
      have hf : fX8_image_7 w0 (zl4 (fX8_image_7 w0) n) c0_0 c0_10 c0_11 x1 = some z := hf
      generalize zl4 (fX8_image_7 w0) n = s7 at hs7 hf
      unfold fX8_image_7 at hf
      refine lv_iload_n hx hb dX8_image_7 rfl (lv_at hl 1 rfl) ?_
      refine lv_bipush (v := (64 : Int32)) hx hb dX8_image_8 (by decide) ?_
      refine lv_icmp_ge (tgt := 31) hx hb dX8_image_10 (by decide) (fun hc => ?_) (fun hc => ?_)
      · have hf := it_t hc hf
        refine lv_iconst (v := (0 : Int32)) hx hb dX8_image_31 (by decide) ?_
        refine lv_istore_n (lv' := [(1, .int (0 : Int32)), (0, .ref (h0 0))]) hx hb dX8_image_32 rfl hl (by decide) rfl (fun ls hl => ?_)
        exact k33 zFU c0_0 c0_10 c0_11 (0 : Int32) H locs ls hP hD hS (lv_sub hl [1, 0] rfl) hf
      · have hf := it_f hc hf
        refine lv_aload_n hx hb dX8_image_13 rfl (lv_at hl 0 rfl) ?_
        refine zget hx hb hts hown hK hP hin_8 0 rfl rfl 32 (by decide) mw_622 (v := .ref (h0 10)) rfl dX8_image_14 ?_
        refine lv_iload_n hx hb dX8_image_17 rfl (lv_at hl 1 rfl) ?_
        refine lv_aload_n hx hb dX8_image_18 rfl (lv_at hl 0 rfl) ?_
        refine zget hx hb hts hown hK hP hin_8 0 rfl rfl 2 (by decide) mw_592 (v := .ref (h0 1)) rfl dX8_image_19 ?_
        refine lv_iload_n hx hb dX8_image_22 rfl (lv_at hl 1 rfl) ?_
        obtain ⟨hin27, hf⟩ := gd_d hf
        refine va_iald hx hb hK hP 1 0 rfl rfl hin27 dX8_image_23 ?_
        obtain ⟨hin28, hf⟩ := gd_d hf
        obtain ⟨g29, hg29, hf⟩ := nm_d hf
        refine zast hx hb hK hP hD hS 10 (wn := (zW_8 cy h0 (ups (ups (ups w0 0 c0_0) 10 g29) 11 c0_11))) hg29 rfl rfl hin28 rfl dX8_image_24 (fun H locs hP hD hS => ?_)
        refine lv_zinc (lv' := [(1, .int (x1 + (1 : Int32))), (0, .ref (h0 0))]) hx hb dX8_image_25 hl (k := 1) rfl (v := (1 : Int32)) (by decide) (by decide) rfl (fun ls hl => ?_)
        refine lv_goto (tgt := 7) hx hb dX8_image_28 (by decide) ?_
        exact hs7 c0_0 g29 c0_11 (x1 + (1 : Int32)) H locs ls hP hD hS (lv_sub hl [1, 0] rfl) hf
  obtain ⟨ls, hl, he⟩ := zent (m := m) (n := 2) (L := [(0, .ref (h0 0))]) ha (Nat.le_of_ble_eq_true rfl) rfl
  refine W.eq he ?_
  unfold fX8_image at hf
  have kE : ∀ (H : Heap) (locs : List Loc), va_P (dC, dI) vwCl (zW_8 cy h0 (ups (ups (ups w0 0 (w0 0)) 10 (w0 10)) 11 (w0 11))) H → va_D A (zW_8 cy h0 (ups (ups (ups w0 0 (w0 0)) 10 (w0 10)) 11 (w0 11))) → va_S A s.heap H locs → W p l e ({ frames := 1, cells := 0, slots := 0, locals := 20 } : Room) s m args below meth c H locs 0 0 (MQ below (va_Qi (fun (q : Int32) (v : (Nat → Int32) × (Nat → Int32) × (Nat → Int32)) => (q, v) = z) (fun v => aWR (dC, dI) vwCl [(cy, .int)] A (zW_8 cy h0 (ups (ups (ups w0 0 v.1) 10 v.2.1) 11 v.2.2))) A) args s 0 0 A) (F0 m 0 ls []) := by
    intro H locs hP hD hS
    refine lv_aload_n hx hb dX8_image_0 rfl (lv_at hl 0 rfl) ?_
    refine lv_iconst (v := (1 : Int32)) hx hb dX8_image_1 (by decide) ?_
    refine zput hx hb hts hown hK hP hD hS hin_8 tyX8 tyX8_ok nmX8 0 rfl rfl 31 (by decide) mw_621 rfl (v := .int (1 : Int32)) rfl rfl (Nat.le_of_ble_eq_true rfl) (wn := (zW_8 cy h0 (ups (ups (ups w0 0 (ups (w0 0) 31 (1 : Int32))) 10 (w0 10)) 11 (w0 11)))) rfl dX8_image_2 (fun H locs hP hD hS => ?_)
    refine lv_iconst (v := (0 : Int32)) hx hb dX8_image_5 (by decide) ?_
    refine lv_istore_n (lv' := [(1, .int (0 : Int32)), (0, .ref (h0 0))]) hx hb dX8_image_6 rfl hl (by decide) rfl (fun ls hl => ?_)
    exact k7 zFU (ups (w0 0) 31 (1 : Int32)) (w0 10) (w0 11) (0 : Int32) H locs ls hP hD hS (lv_sub hl [1, 0] rfl) hf
  exact kE s.heap [] hP hD hS
set_option maxHeartbeats 4000000 in
set_option maxRecDepth 100000 in
theorem kX8_on (l : Launch) (dC : Nat → ClassId) (dI : Nat → Nat → Nat) (cy : ClassId) (h0 : Nat → Nat) (w0 : Nat → Nat → Int32) (sz : Nat) (z : Int32 × (Nat → Int32) × (Nat → Int32) × (Nat → Int32) × (Nat → Int32) × (Nat → Int32) × (Nat → Int32) × (Nat → Int32) × (Nat → Int32) × (Nat → Int32)) (hf : fX8_on w0 = some z) : Met l yX8_on (wsM yX8_on cX8_on 2 (some .int)) ({ frames := 1, cells := 0, slots := 0, locals := 21 } : Room) (va_Pc [.ref (h0 0)] (pWR (dC, dI) vwCl [(cy, .int)] (zW_8 cy h0 w0) sz)) (va_Qi (fun (q : Int32) (v : (Nat → Int32) × (Nat → Int32) × (Nat → Int32) × (Nat → Int32) × (Nat → Int32) × (Nat → Int32) × (Nat → Int32) × (Nat → Int32) × (Nat → Int32)) => (q, v) = z) (fun v => aWR (dC, dI) vwCl [(cy, .int)] (va_A (zW_8 cy h0 w0) sz) (zW_8 cy h0 (ups (ups (ups (ups (ups (ups (ups (ups (ups w0 0 v.1) 1 v.2.1) 3 v.2.2.1) 4 v.2.2.2.1) 5 v.2.2.2.2.1) 6 v.2.2.2.2.2.1) 7 v.2.2.2.2.2.2.1) 9 v.2.2.2.2.2.2.2.1) 11 v.2.2.2.2.2.2.2.2))) (va_A (zW_8 cy h0 w0) sz)) 0 0 (va_A (zW_8 cy h0 w0) sz) := by
  refine Met.ofW (cc := cX8_on) (maxL := 2) (ret := (some .int)) (by decide) rfl ?_
  intro p e s m args below meth c s₁ B hml hv
  obtain ⟨ha, hsz, hP, hK, hD0, hG⟩ := hv
  have hx := B.exec
  have hb := B.bytes
  have hr := B.returns
  have hts : ∀ w ∈ wsA, w.before args s = true := fun w h => atoms_spec (ws := wsM yX8_on cX8_on 2 (some .int)) B.pre w (List.mem_cons_of_mem _ h)
  have hown : s.vm.findClass RX8 = some m.cls := findClass_of_methodNamed B.named
  have hlocks := B.notSynchronized
  subst hsz
  have hD := hD0.self (sz := s.heap.size)
  generalize hAe : va_A (zW_8 cy h0 w0) s.heap.size = A at hD hG ⊢
  have hA : ∀ q : Nat, s.heap.size ≤ q → A q := fun q h => by rw [← hAe]; exact Or.inr h
  have hS : va_S A s.heap s.heap [] := va_S.rf
  have hP : va_P (dC, dI) vwCl (zW_8 cy h0 (ups (ups (ups (ups (ups (ups (ups (ups (ups w0 0 (w0 0)) 1 (w0 1)) 3 (w0 3)) 4 (w0 4)) 5 (w0 5)) 6 (w0 6)) 7 (w0 7)) 9 (w0 9)) 11 (w0 11))) s.heap := hP
  have hD : va_D A (zW_8 cy h0 (ups (ups (ups (ups (ups (ups (ups (ups (ups w0 0 (w0 0)) 1 (w0 1)) 3 (w0 3)) 4 (w0 4)) 5 (w0 5)) 6 (w0 6)) 7 (w0 7)) 9 (w0 9)) 11 (w0 11))) := hD
  have k209 : ∀ n : Nat, ∀ (c0_0 : (Nat → Int32)) (c0_1 : (Nat → Int32)) (c0_3 : (Nat → Int32)) (c0_4 : (Nat → Int32)) (c0_5 : (Nat → Int32)) (c0_6 : (Nat → Int32)) (c0_7 : (Nat → Int32)) (c0_9 : (Nat → Int32)) (c0_11 : (Nat → Int32)) (x1 : Int32) (H : Heap) (locs : List Loc) (ls : Array Slot), va_P (dC, dI) vwCl (zW_8 cy h0 (ups (ups (ups (ups (ups (ups (ups (ups (ups w0 0 c0_0) 1 c0_1) 3 c0_3) 4 c0_4) 5 c0_5) 6 c0_6) 7 c0_7) 9 c0_9) 11 c0_11)) H → va_D A (zW_8 cy h0 (ups (ups (ups (ups (ups (ups (ups (ups (ups w0 0 c0_0) 1 c0_1) 3 c0_3) 4 c0_4) 5 c0_5) 6 c0_6) 7 c0_7) 9 c0_9) 11 c0_11)) → va_S A s.heap H locs → lv_has ls 2 [(0, .ref (h0 0)), (1, .int x1)] → (zl10 (fX8_on_209 w0) n) c0_0 c0_1 c0_3 c0_4 c0_5 c0_6 c0_7 c0_9 c0_11 x1 = some z → W p l e ({ frames := 1, cells := 0, slots := 0, locals := 21 } : Room) s m args below meth c H locs 0 0 (MQ below (va_Qi (fun (q : Int32) (v : (Nat → Int32) × (Nat → Int32) × (Nat → Int32) × (Nat → Int32) × (Nat → Int32) × (Nat → Int32) × (Nat → Int32) × (Nat → Int32) × (Nat → Int32)) => (q, v) = z) (fun v => aWR (dC, dI) vwCl [(cy, .int)] A (zW_8 cy h0 (ups (ups (ups (ups (ups (ups (ups (ups (ups w0 0 v.1) 1 v.2.1) 3 v.2.2.1) 4 v.2.2.2.1) 5 v.2.2.2.2.1) 6 v.2.2.2.2.2.1) 7 v.2.2.2.2.2.2.1) 9 v.2.2.2.2.2.2.2.1) 11 v.2.2.2.2.2.2.2.2))) A) args s 0 0 A) (F0 m 209 ls []) := by
    intro n
    induction n with
    | zero =>
      intro c0_0 c0_1 c0_3 c0_4 c0_5 c0_6 c0_7 c0_9 c0_11 x1 H locs ls hP hD hS hl hf
      exact z_no hf
    | succ n hs209 =>
      intro c0_0 c0_1 c0_3 c0_4 c0_5 c0_6 c0_7 c0_9 c0_11 x1 H locs ls hP hD hS hl hf
      have hf : fX8_on_209 w0 (zl10 (fX8_on_209 w0) n) c0_0 c0_1 c0_3 c0_4 c0_5 c0_6 c0_7 c0_9 c0_11 x1 = some z := hf
      generalize zl10 (fX8_on_209 w0) n = s209 at hs209 hf
      unfold fX8_on_209 at hf
      refine lv_iload_n hx hb dX8_on_209 rfl (lv_at hl 1 rfl) ?_
      refine lv_bipush (v := (12 : Int32)) hx hb dX8_on_210 (by decide) ?_
      refine lv_icmp_ge (tgt := 236) hx hb dX8_on_212 (by decide) (fun hc => ?_) (fun hc => ?_)
      · have hf := it_t hc hf
        refine lv_aload_n hx hb dX8_on_236 rfl (lv_at hl 0 rfl) ?_
        refine zget hx hb hts hown hK hP hin_8 0 rfl rfl 33 (by decide) mw_623 (v := .ref (h0 11)) rfl dX8_on_237 ?_
        refine lv_bipush (v := (12 : Int32)) hx hb dX8_on_240 (by decide) ?_
        refine lv_aload_n hx hb dX8_on_242 rfl (lv_at hl 0 rfl) ?_
        refine zget hx hb hts hown hK hP hin_8 0 rfl rfl 5 (by decide) mw_595 (v := .ref (h0 3)) rfl dX8_on_243 ?_
        refine lv_iconst (v := (5 : Int32)) hx hb dX8_on_246 (by decide) ?_
        refine va_iald hx hb hK hP 3 0 rfl rfl (vin_lit (by decide)) dX8_on_247 ?_
        obtain ⟨g2, hg2, hf⟩ := nm_d hf
        refine zast hx hb hK hP hD hS 11 (wn := (zW_8 cy h0 (ups (ups (ups (ups (ups (ups (ups (ups (ups w0 0 c0_0) 1 c0_1) 3 c0_3) 4 c0_4) 5 c0_5) 6 c0_6) 7 c0_7) 9 c0_9) 11 g2))) hg2 rfl rfl (vin_lit (by decide)) rfl dX8_on_248 (fun H locs hP hD hS => ?_)
        refine lv_aload_n hx hb dX8_on_249 rfl (lv_at hl 0 rfl) ?_
        obtain ⟨u4, u5, hq3, hf⟩ := ob2_d hf
        refine zwvV (q := (RX8, TX8, 37)) (As := []) (rest := []) (u := (u4, u5)) (wn := (zW_8 cy h0 (ups (ups (ups (ups (ups (ups (ups (ups (ups w0 0 u4) 1 c0_1) 3 u5) 4 c0_4) 5 c0_5) 6 c0_6) 7 c0_7) 9 c0_9) 11 g2))) ⟨hx, hb, hml, hown, hts⟩ (kX8_again l dC dI cy h0 (ups (ups (ups (ups (ups (ups (ups (ups (ups w0 0 c0_0) 1 c0_1) 3 c0_3) 4 c0_4) 5 c0_5) 6 c0_6) 7 c0_7) 9 c0_9) 11 g2) H.size (u4, u5) hq3) mw_815 mw_816 mw_918 mw_9 mw_817 hdX8_again rfl rfl ⟨Nat.le_of_ble_eq_true rfl, Nat.le_of_ble_eq_true rfl⟩ hP hK hG hS 0 rfl rfl hD hA [0, 1, 2, 3, 4, 5, 6, 7, 8, 9, 10, 11, 12, 13] [] [0, 1, 2, 3, 4, 5, 6, 7, 8, 9, 10, 11, 12, 13] rfl rfl rfl rfl (by decide) rfl rfl rfl hl.1 rfl (Nat.le_of_ble_eq_true rfl) dX8_on_250 ⟨Nat.zero_le _, Nat.zero_le _⟩ (fun H locs hP hD hS => ?_)
        refine lv_aload_n hx hb dX8_on_253 rfl (lv_at hl 0 rfl) ?_
        refine zget hx hb hts hown hK hP hin_8 0 rfl rfl 0 (by decide) mw_590 (v := .int (u4 0)) rfl dX8_on_254 ?_
        refine lv_aload_n hx hb dX8_on_257 rfl (lv_at hl 0 rfl) ?_
        refine zget hx hb hts hown hK hP hin_8 0 rfl rfl 1 (by decide) mw_591 (v := .int (u4 1)) rfl dX8_on_258 ?_
        refine lv_imul hx hb dX8_on_261 ?_
        exact zretI hx hb hr hlocks hP hK hD hS hf rfl dX8_on_262
      · have hf := it_f hc hf
        refine lv_aload_n hx hb dX8_on_215 rfl (lv_at hl 0 rfl) ?_
        refine zget hx hb hts hown hK hP hin_8 0 rfl rfl 33 (by decide) mw_623 (v := .ref (h0 11)) rfl dX8_on_216 ?_
        refine lv_iload_n hx hb dX8_on_219 rfl (lv_at hl 1 rfl) ?_
        refine lv_aload_n hx hb dX8_on_220 rfl (lv_at hl 0 rfl) ?_
        refine zget hx hb hts hown hK hP hin_8 0 rfl rfl 32 (by decide) mw_622 (v := .ref (h0 10)) rfl dX8_on_221 ?_
        refine lv_bipush (v := (108 : Int32)) hx hb dX8_on_224 (by decide) ?_
        refine lv_iload_n hx hb dX8_on_226 rfl (lv_at hl 1 rfl) ?_
        refine lv_iadd hx hb dX8_on_227 ?_
        obtain ⟨hin6, hf⟩ := gd_d hf
        refine va_iald hx hb hK hP 10 0 rfl rfl hin6 dX8_on_228 ?_
        obtain ⟨hin7, hf⟩ := gd_d hf
        obtain ⟨g8, hg8, hf⟩ := nm_d hf
        refine zast hx hb hK hP hD hS 11 (wn := (zW_8 cy h0 (ups (ups (ups (ups (ups (ups (ups (ups (ups w0 0 c0_0) 1 c0_1) 3 c0_3) 4 c0_4) 5 c0_5) 6 c0_6) 7 c0_7) 9 c0_9) 11 g8))) hg8 rfl rfl hin7 rfl dX8_on_229 (fun H locs hP hD hS => ?_)
        refine lv_zinc (lv' := [(1, .int (x1 + (1 : Int32))), (0, .ref (h0 0))]) hx hb dX8_on_230 hl (k := 1) rfl (v := (1 : Int32)) (by decide) (by decide) rfl (fun ls hl => ?_)
        refine lv_goto (tgt := 209) hx hb dX8_on_233 (by decide) ?_
        exact hs209 c0_0 c0_1 c0_3 c0_4 c0_5 c0_6 c0_7 c0_9 g8 (x1 + (1 : Int32)) H locs ls hP hD hS (lv_sub hl [1, 0] rfl) hf
  have k204 : ∀ (c0_0 : (Nat → Int32)) (c0_1 : (Nat → Int32)) (c0_3 : (Nat → Int32)) (c0_4 : (Nat → Int32)) (c0_5 : (Nat → Int32)) (c0_6 : (Nat → Int32)) (c0_7 : (Nat → Int32)) (c0_9 : (Nat → Int32)) (c0_11 : (Nat → Int32)) (t1 : Int32) (H : Heap) (locs : List Loc) (ls : Array Slot), va_P (dC, dI) vwCl (zW_8 cy h0 (ups (ups (ups (ups (ups (ups (ups (ups (ups w0 0 c0_0) 1 c0_1) 3 c0_3) 4 c0_4) 5 c0_5) 6 c0_6) 7 c0_7) 9 c0_9) 11 c0_11)) H → va_D A (zW_8 cy h0 (ups (ups (ups (ups (ups (ups (ups (ups (ups w0 0 c0_0) 1 c0_1) 3 c0_3) 4 c0_4) 5 c0_5) 6 c0_6) 7 c0_7) 9 c0_9) 11 c0_11)) → va_S A s.heap H locs → lv_has ls 2 [(0, .ref (h0 0))] → (fX8_on_204 w0) c0_0 c0_1 c0_3 c0_4 c0_5 c0_6 c0_7 c0_9 c0_11 t1 = some z → W p l e ({ frames := 1, cells := 0, slots := 0, locals := 21 } : Room) s m args below meth c H locs 0 0 (MQ below (va_Qi (fun (q : Int32) (v : (Nat → Int32) × (Nat → Int32) × (Nat → Int32) × (Nat → Int32) × (Nat → Int32) × (Nat → Int32) × (Nat → Int32) × (Nat → Int32) × (Nat → Int32)) => (q, v) = z) (fun v => aWR (dC, dI) vwCl [(cy, .int)] A (zW_8 cy h0 (ups (ups (ups (ups (ups (ups (ups (ups (ups w0 0 v.1) 1 v.2.1) 3 v.2.2.1) 4 v.2.2.2.1) 5 v.2.2.2.2.1) 6 v.2.2.2.2.2.1) 7 v.2.2.2.2.2.2.1) 9 v.2.2.2.2.2.2.2.1) 11 v.2.2.2.2.2.2.2.2))) A) args s 0 0 A) (F0 m 204 ls [.int t1, .ref (h0 0)]) := by
    intro c0_0 c0_1 c0_3 c0_4 c0_5 c0_6 c0_7 c0_9 c0_11 t1 H locs ls hP hD hS hl hf
    unfold fX8_on_204 at hf
    obtain ⟨hz1, hf⟩ := gz_d hf
    refine zput hx hb hts hown hK hP hD hS hin_8 tyX8 tyX8_ok nmX8 0 rfl rfl 12 (by decide) mw_602 rfl (v := .int t1) (gz_n hz1) (gz_f hz1) (Nat.le_of_ble_eq_true rfl) (wn := (zW_8 cy h0 (ups (ups (ups (ups (ups (ups (ups (ups (ups w0 0 (ups c0_0 12 t1)) 1 c0_1) 3 c0_3) 4 c0_4) 5 c0_5) 6 c0_6) 7 c0_7) 9 c0_9) 11 c0_11))) rfl dX8_on_204 (fun H locs hP hD hS => ?_)
    refine lv_iconst (v := (0 : Int32)) hx hb dX8_on_207 (by decide) ?_
    refine lv_istore_n (lv' := [(1, .int (0 : Int32)), (0, .ref (h0 0))]) hx hb dX8_on_208 rfl hl (by decide) rfl (fun ls hl => ?_)
    exact k209 zFU (ups c0_0 12 t1) c0_1 c0_3 c0_4 c0_5 c0_6 c0_7 c0_9 c0_11 (0 : Int32) H locs ls hP hD hS (lv_sub hl [1, 0] rfl) hf
  have k71 : ∀ n : Nat, ∀ (c0_0 : (Nat → Int32)) (c0_1 : (Nat → Int32)) (c0_3 : (Nat → Int32)) (c0_4 : (Nat → Int32)) (c0_5 : (Nat → Int32)) (c0_6 : (Nat → Int32)) (c0_7 : (Nat → Int32)) (c0_9 : (Nat → Int32)) (c0_11 : (Nat → Int32)) (x1 : Int32) (H : Heap) (locs : List Loc) (ls : Array Slot), va_P (dC, dI) vwCl (zW_8 cy h0 (ups (ups (ups (ups (ups (ups (ups (ups (ups w0 0 c0_0) 1 c0_1) 3 c0_3) 4 c0_4) 5 c0_5) 6 c0_6) 7 c0_7) 9 c0_9) 11 c0_11)) H → va_D A (zW_8 cy h0 (ups (ups (ups (ups (ups (ups (ups (ups (ups w0 0 c0_0) 1 c0_1) 3 c0_3) 4 c0_4) 5 c0_5) 6 c0_6) 7 c0_7) 9 c0_9) 11 c0_11)) → va_S A s.heap H locs → lv_has ls 2 [(0, .ref (h0 0)), (1, .int x1)] → (zl10 (fX8_on_71 w0) n) c0_0 c0_1 c0_3 c0_4 c0_5 c0_6 c0_7 c0_9 c0_11 x1 = some z → W p l e ({ frames := 1, cells := 0, slots := 0, locals := 21 } : Room) s m args below meth c H locs 0 0 (MQ below (va_Qi (fun (q : Int32) (v : (Nat → Int32) × (Nat → Int32) × (Nat → Int32) × (Nat → Int32) × (Nat → Int32) × (Nat → Int32) × (Nat → Int32) × (Nat → Int32) × (Nat → Int32)) => (q, v) = z) (fun v => aWR (dC, dI) vwCl [(cy, .int)] A (zW_8 cy h0 (ups (ups (ups (ups (ups (ups (ups (ups (ups w0 0 v.1) 1 v.2.1) 3 v.2.2.1) 4 v.2.2.2.1) 5 v.2.2.2.2.1) 6 v.2.2.2.2.2.1) 7 v.2.2.2.2.2.2.1) 9 v.2.2.2.2.2.2.2.1) 11 v.2.2.2.2.2.2.2.2))) A) args s 0 0 A) (F0 m 71 ls []) := by
    intro n
    induction n with
    | zero =>
      intro c0_0 c0_1 c0_3 c0_4 c0_5 c0_6 c0_7 c0_9 c0_11 x1 H locs ls hP hD hS hl hf
      exact z_no hf
    | succ n hs71 =>
      intro c0_0 c0_1 c0_3 c0_4 c0_5 c0_6 c0_7 c0_9 c0_11 x1 H locs ls hP hD hS hl hf
      have hf : fX8_on_71 w0 (zl10 (fX8_on_71 w0) n) c0_0 c0_1 c0_3 c0_4 c0_5 c0_6 c0_7 c0_9 c0_11 x1 = some z := hf
      generalize zl10 (fX8_on_71 w0) n = s71 at hs71 hf
      unfold fX8_on_71 at hf
      refine lv_iload_n hx hb dX8_on_71 rfl (lv_at hl 1 rfl) ?_
      refine lv_bipush (v := (8 : Int32)) hx hb dX8_on_72 (by decide) ?_
      refine lv_icmp_ge (tgt := 143) hx hb dX8_on_74 (by decide) (fun hc => ?_) (fun hc => ?_)
      · have hf := it_t hc hf
        refine lv_aload_n hx hb dX8_on_143 rfl (lv_at hl 0 rfl) ?_
        refine lv_aload_n hx hb dX8_on_144 rfl (lv_at hl 0 rfl) ?_
        refine zget hx hb hts hown hK hP hin_8 0 rfl rfl 32 (by decide) mw_622 (v := .ref (h0 10)) rfl dX8_on_145 ?_
        refine lv_bipush (v := (103 : Int32)) hx hb dX8_on_148 (by decide) ?_
        refine va_iald hx hb hK hP 10 0 rfl rfl (vin_lit (by decide)) dX8_on_150 ?_
        refine zput hx hb hts hown hK hP hD hS hin_8 tyX8 tyX8_ok nmX8 0 rfl rfl 0 (by decide) mw_590 rfl (v := .int ((w0 10) ((103 : Int32)).toNatClampNeg)) rfl rfl (Nat.le_of_ble_eq_true rfl) (wn := (zW_8 cy h0 (ups (ups (ups (ups (ups (ups (ups (ups (ups w0 0 (ups c0_0 0 ((w0 10) ((103 : Int32)).toNatClampNeg))) 1 c0_1) 3 c0_3) 4 c0_4) 5 c0_5) 6 c0_6) 7 c0_7) 9 c0_9) 11 c0_11))) rfl dX8_on_151 (fun H locs hP hD hS => ?_)
        refine lv_aload_n hx hb dX8_on_154 rfl (lv_at hl 0 rfl) ?_
        refine lv_aload_n hx hb dX8_on_155 rfl (lv_at hl 0 rfl) ?_
        refine zget hx hb hts hown hK hP hin_8 0 rfl rfl 32 (by decide) mw_622 (v := .ref (h0 10)) rfl dX8_on_156 ?_
        refine lv_bipush (v := (104 : Int32)) hx hb dX8_on_159 (by decide) ?_
        refine va_iald hx hb hK hP 10 0 rfl rfl (vin_lit (by decide)) dX8_on_161 ?_
        refine zput hx hb hts hown hK hP hD hS hin_8 tyX8 tyX8_ok nmX8 0 rfl rfl 1 (by decide) mw_591 rfl (v := .int ((w0 10) ((104 : Int32)).toNatClampNeg)) rfl rfl (Nat.le_of_ble_eq_true rfl) (wn := (zW_8 cy h0 (ups (ups (ups (ups (ups (ups (ups (ups (ups w0 0 (ups (ups c0_0 0 ((w0 10) ((103 : Int32)).toNatClampNeg)) 1 ((w0 10) ((104 : Int32)).toNatClampNeg))) 1 c0_1) 3 c0_3) 4 c0_4) 5 c0_5) 6 c0_6) 7 c0_7) 9 c0_9) 11 c0_11))) rfl dX8_on_162 (fun H locs hP hD hS => ?_)
        refine lv_aload_n hx hb dX8_on_165 rfl (lv_at hl 0 rfl) ?_
        refine lv_aload_n hx hb dX8_on_166 rfl (lv_at hl 0 rfl) ?_
        refine zget hx hb hts hown hK hP hin_8 0 rfl rfl 32 (by decide) mw_622 (v := .ref (h0 10)) rfl dX8_on_167 ?_
        refine lv_bipush (v := (105 : Int32)) hx hb dX8_on_170 (by decide) ?_
        refine va_iald hx hb hK hP 10 0 rfl rfl (vin_lit (by decide)) dX8_on_172 ?_
        refine zput hx hb hts hown hK hP hD hS hin_8 tyX8 tyX8_ok nmX8 0 rfl rfl 6 (by decide) mw_596 rfl (v := .int ((w0 10) ((105 : Int32)).toNatClampNeg)) rfl rfl (Nat.le_of_ble_eq_true rfl) (wn := (zW_8 cy h0 (ups (ups (ups (ups (ups (ups (ups (ups (ups w0 0 (ups (ups (ups c0_0 0 ((w0 10) ((103 : Int32)).toNatClampNeg)) 1 ((w0 10) ((104 : Int32)).toNatClampNeg)) 6 ((w0 10) ((105 : Int32)).toNatClampNeg))) 1 c0_1) 3 c0_3) 4 c0_4) 5 c0_5) 6 c0_6) 7 c0_7) 9 c0_9) 11 c0_11))) rfl dX8_on_173 (fun H locs hP hD hS => ?_)
        refine lv_aload_n hx hb dX8_on_176 rfl (lv_at hl 0 rfl) ?_
        refine lv_aload_n hx hb dX8_on_177 rfl (lv_at hl 0 rfl) ?_
        refine zget hx hb hts hown hK hP hin_8 0 rfl rfl 32 (by decide) mw_622 (v := .ref (h0 10)) rfl dX8_on_178 ?_
        refine lv_bipush (v := (106 : Int32)) hx hb dX8_on_181 (by decide) ?_
        refine va_iald hx hb hK hP 10 0 rfl rfl (vin_lit (by decide)) dX8_on_183 ?_
        refine zput hx hb hts hown hK hP hD hS hin_8 tyX8 tyX8_ok nmX8 0 rfl rfl 9 (by decide) mw_599 rfl (v := .int ((w0 10) ((106 : Int32)).toNatClampNeg)) rfl rfl (Nat.le_of_ble_eq_true rfl) (wn := (zW_8 cy h0 (ups (ups (ups (ups (ups (ups (ups (ups (ups w0 0 (ups (ups (ups (ups c0_0 0 ((w0 10) ((103 : Int32)).toNatClampNeg)) 1 ((w0 10) ((104 : Int32)).toNatClampNeg)) 6 ((w0 10) ((105 : Int32)).toNatClampNeg)) 9 ((w0 10) ((106 : Int32)).toNatClampNeg))) 1 c0_1) 3 c0_3) 4 c0_4) 5 c0_5) 6 c0_6) 7 c0_7) 9 c0_9) 11 c0_11))) rfl dX8_on_184 (fun H locs hP hD hS => ?_)
        refine lv_aload_n hx hb dX8_on_187 rfl (lv_at hl 0 rfl) ?_
        refine lv_aload_n hx hb dX8_on_188 rfl (lv_at hl 0 rfl) ?_
        refine zget hx hb hts hown hK hP hin_8 0 rfl rfl 32 (by decide) mw_622 (v := .ref (h0 10)) rfl dX8_on_189 ?_
        refine lv_bipush (v := (107 : Int32)) hx hb dX8_on_192 (by decide) ?_
        refine va_iald hx hb hK hP 10 0 rfl rfl (vin_lit (by decide)) dX8_on_194 ?_
        refine lv_iconst (v := (1 : Int32)) hx hb dX8_on_195 (by decide) ?_
        refine lv_icmp_ne (tgt := 203) hx hb dX8_on_196 (by decide) (fun hc => ?_) (fun hc => ?_)
        · have hf := it_f hc hf
          refine lv_iconst (v := (0 : Int32)) hx hb dX8_on_203 (by decide) ?_
          exact k204 (ups (ups (ups (ups c0_0 0 ((w0 10) ((103 : Int32)).toNatClampNeg)) 1 ((w0 10) ((104 : Int32)).toNatClampNeg)) 6 ((w0 10) ((105 : Int32)).toNatClampNeg)) 9 ((w0 10) ((106 : Int32)).toNatClampNeg)) c0_1 c0_3 c0_4 c0_5 c0_6 c0_7 c0_9 c0_11 (0 : Int32) H locs ls hP hD hS (lv_sub hl [0] rfl) hf
        · have hf := it_t hc hf
          refine lv_iconst (v := (1 : Int32)) hx hb dX8_on_199 (by decide) ?_
          refine lv_goto (tgt := 204) hx hb dX8_on_200 (by decide) ?_
          exact k204 (ups (ups (ups (ups c0_0 0 ((w0 10) ((103 : Int32)).toNatClampNeg)) 1 ((w0 10) ((104 : Int32)).toNatClampNeg)) 6 ((w0 10) ((105 : Int32)).toNatClampNeg)) 9 ((w0 10) ((106 : Int32)).toNatClampNeg)) c0_1 c0_3 c0_4 c0_5 c0_6 c0_7 c0_9 c0_11 (1 : Int32) H locs ls hP hD hS (lv_sub hl [0] rfl) hf
      · have hf := it_f hc hf
        refine lv_aload_n hx hb dX8_on_77 rfl (lv_at hl 0 rfl) ?_
        refine zget hx hb hts hown hK hP hin_8 0 rfl rfl 7 (by decide) mw_597 (v := .ref (h0 4)) rfl dX8_on_78 ?_
        refine lv_iload_n hx hb dX8_on_81 rfl (lv_at hl 1 rfl) ?_
        refine lv_aload_n hx hb dX8_on_82 rfl (lv_at hl 0 rfl) ?_
        refine zget hx hb hts hown hK hP hin_8 0 rfl rfl 32 (by decide) mw_622 (v := .ref (h0 10)) rfl dX8_on_83 ?_
        refine lv_bipush (v := (71 : Int32)) hx hb dX8_on_86 (by decide) ?_
        refine lv_iload_n hx hb dX8_on_88 rfl (lv_at hl 1 rfl) ?_
        refine lv_iadd hx hb dX8_on_89 ?_
        obtain ⟨hin9, hf⟩ := gd_d hf
        refine va_iald hx hb hK hP 10 0 rfl rfl hin9 dX8_on_90 ?_
        obtain ⟨hin10, hf⟩ := gd_d hf
        obtain ⟨g11, hg11, hf⟩ := nm_d hf
        refine zast hx hb hK hP hD hS 4 (wn := (zW_8 cy h0 (ups (ups (ups (ups (ups (ups (ups (ups (ups w0 0 c0_0) 1 c0_1) 3 c0_3) 4 g11) 5 c0_5) 6 c0_6) 7 c0_7) 9 c0_9) 11 c0_11))) hg11 rfl rfl hin10 rfl dX8_on_91 (fun H locs hP hD hS => ?_)
        refine lv_aload_n hx hb dX8_on_92 rfl (lv_at hl 0 rfl) ?_
        refine zget hx hb hts hown hK hP hin_8 0 rfl rfl 8 (by decide) mw_598 (v := .ref (h0 5)) rfl dX8_on_93 ?_
        refine lv_iload_n hx hb dX8_on_96 rfl (lv_at hl 1 rfl) ?_
        refine lv_aload_n hx hb dX8_on_97 rfl (lv_at hl 0 rfl) ?_
        refine zget hx hb hts hown hK hP hin_8 0 rfl rfl 32 (by decide) mw_622 (v := .ref (h0 10)) rfl dX8_on_98 ?_
        refine lv_bipush (v := (79 : Int32)) hx hb dX8_on_101 (by decide) ?_
        refine lv_iload_n hx hb dX8_on_103 rfl (lv_at hl 1 rfl) ?_
        refine lv_iadd hx hb dX8_on_104 ?_
        obtain ⟨hin12, hf⟩ := gd_d hf
        refine va_iald hx hb hK hP 10 0 rfl rfl hin12 dX8_on_105 ?_
        obtain ⟨hin13, hf⟩ := gd_d hf
        obtain ⟨g14, hg14, hf⟩ := nm_d hf
        refine zast hx hb hK hP hD hS 5 (wn := (zW_8 cy h0 (ups (ups (ups (ups (ups (ups (ups (ups (ups w0 0 c0_0) 1 c0_1) 3 c0_3) 4 g11) 5 g14) 6 c0_6) 7 c0_7) 9 c0_9) 11 c0_11))) hg14 rfl rfl hin13 rfl dX8_on_106 (fun H locs hP hD hS => ?_)
        refine lv_aload_n hx hb dX8_on_107 rfl (lv_at hl 0 rfl) ?_
        refine zget hx hb hts hown hK hP hin_8 0 rfl rfl 10 (by decide) mw_600 (v := .ref (h0 6)) rfl dX8_on_108 ?_
        refine lv_iload_n hx hb dX8_on_111 rfl (lv_at hl 1 rfl) ?_
        refine lv_aload_n hx hb dX8_on_112 rfl (lv_at hl 0 rfl) ?_
        refine zget hx hb hts hown hK hP hin_8 0 rfl rfl 32 (by decide) mw_622 (v := .ref (h0 10)) rfl dX8_on_113 ?_
        refine lv_bipush (v := (87 : Int32)) hx hb dX8_on_116 (by decide) ?_
        refine lv_iload_n hx hb dX8_on_118 rfl (lv_at hl 1 rfl) ?_
        refine lv_iadd hx hb dX8_on_119 ?_
        obtain ⟨hin15, hf⟩ := gd_d hf
        refine va_iald hx hb hK hP 10 0 rfl rfl hin15 dX8_on_120 ?_
        obtain ⟨hin16, hf⟩ := gd_d hf
        obtain ⟨g17, hg17, hf⟩ := nm_d hf
        refine zast hx hb hK hP hD hS 6 (wn := (zW_8 cy h0 (ups (ups (ups (ups (ups (ups (ups (ups (ups w0 0 c0_0) 1 c0_1) 3 c0_3) 4 g11) 5 g14) 6 g17) 7 c0_7) 9 c0_9) 11 c0_11))) hg17 rfl rfl hin16 rfl dX8_on_121 (fun H locs hP hD hS => ?_)
        refine lv_aload_n hx hb dX8_on_122 rfl (lv_at hl 0 rfl) ?_
        refine zget hx hb hts hown hK hP hin_8 0 rfl rfl 11 (by decide) mw_601 (v := .ref (h0 7)) rfl dX8_on_123 ?_
        refine lv_iload_n hx hb dX8_on_126 rfl (lv_at hl 1 rfl) ?_
        refine lv_aload_n hx hb dX8_on_127 rfl (lv_at hl 0 rfl) ?_
        refine zget hx hb hts hown hK hP hin_8 0 rfl rfl 32 (by decide) mw_622 (v := .ref (h0 10)) rfl dX8_on_128 ?_
        refine lv_bipush (v := (95 : Int32)) hx hb dX8_on_131 (by decide) ?_
        refine lv_iload_n hx hb dX8_on_133 rfl (lv_at hl 1 rfl) ?_
        refine lv_iadd hx hb dX8_on_134 ?_
        obtain ⟨hin18, hf⟩ := gd_d hf
        refine va_iald hx hb hK hP 10 0 rfl rfl hin18 dX8_on_135 ?_
        obtain ⟨hin19, hf⟩ := gd_d hf
        obtain ⟨g20, hg20, hf⟩ := nm_d hf
        refine zast hx hb hK hP hD hS 7 (wn := (zW_8 cy h0 (ups (ups (ups (ups (ups (ups (ups (ups (ups w0 0 c0_0) 1 c0_1) 3 c0_3) 4 g11) 5 g14) 6 g17) 7 g20) 9 c0_9) 11 c0_11))) hg20 rfl rfl hin19 rfl dX8_on_136 (fun H locs hP hD hS => ?_)
        refine lv_zinc (lv' := [(1, .int (x1 + (1 : Int32))), (0, .ref (h0 0))]) hx hb dX8_on_137 hl (k := 1) rfl (v := (1 : Int32)) (by decide) (by decide) rfl (fun ls hl => ?_)
        refine lv_goto (tgt := 71) hx hb dX8_on_140 (by decide) ?_
        exact hs71 c0_0 c0_1 c0_3 g11 g14 g17 g20 c0_9 c0_11 (x1 + (1 : Int32)) H locs ls hP hD hS (lv_sub hl [1, 0] rfl) hf
  have k42 : ∀ n : Nat, ∀ (c0_0 : (Nat → Int32)) (c0_1 : (Nat → Int32)) (c0_3 : (Nat → Int32)) (c0_4 : (Nat → Int32)) (c0_5 : (Nat → Int32)) (c0_6 : (Nat → Int32)) (c0_7 : (Nat → Int32)) (c0_9 : (Nat → Int32)) (c0_11 : (Nat → Int32)) (x1 : Int32) (H : Heap) (locs : List Loc) (ls : Array Slot), va_P (dC, dI) vwCl (zW_8 cy h0 (ups (ups (ups (ups (ups (ups (ups (ups (ups w0 0 c0_0) 1 c0_1) 3 c0_3) 4 c0_4) 5 c0_5) 6 c0_6) 7 c0_7) 9 c0_9) 11 c0_11)) H → va_D A (zW_8 cy h0 (ups (ups (ups (ups (ups (ups (ups (ups (ups w0 0 c0_0) 1 c0_1) 3 c0_3) 4 c0_4) 5 c0_5) 6 c0_6) 7 c0_7) 9 c0_9) 11 c0_11)) → va_S A s.heap H locs → lv_has ls 2 [(0, .ref (h0 0)), (1, .int x1)] → (zl10 (fX8_on_42 w0) n) c0_0 c0_1 c0_3 c0_4 c0_5 c0_6 c0_7 c0_9 c0_11 x1 = some z → W p l e ({ frames := 1, cells := 0, slots := 0, locals := 21 } : Room) s m args below meth c H locs 0 0 (MQ below (va_Qi (fun (q : Int32) (v : (Nat → Int32) × (Nat → Int32) × (Nat → Int32) × (Nat → Int32) × (Nat → Int32) × (Nat → Int32) × (Nat → Int32) × (Nat → Int32) × (Nat → Int32)) => (q, v) = z) (fun v => aWR (dC, dI) vwCl [(cy, .int)] A (zW_8 cy h0 (ups (ups (ups (ups (ups (ups (ups (ups (ups w0 0 v.1) 1 v.2.1) 3 v.2.2.1) 4 v.2.2.2.1) 5 v.2.2.2.2.1) 6 v.2.2.2.2.2.1) 7 v.2.2.2.2.2.2.1) 9 v.2.2.2.2.2.2.2.1) 11 v.2.2.2.2.2.2.2.2))) A) args s 0 0 A) (F0 m 42 ls []) := by
    intro n
    induction n with
    | zero =>
      intro c0_0 c0_1 c0_3 c0_4 c0_5 c0_6 c0_7 c0_9 c0_11 x1 H locs ls hP hD hS hl hf
      exact z_no hf
    | succ n hs42 =>
      intro c0_0 c0_1 c0_3 c0_4 c0_5 c0_6 c0_7 c0_9 c0_11 x1 H locs ls hP hD hS hl hf
      have hf : fX8_on_42 w0 (zl10 (fX8_on_42 w0) n) c0_0 c0_1 c0_3 c0_4 c0_5 c0_6 c0_7 c0_9 c0_11 x1 = some z := hf
      generalize zl10 (fX8_on_42 w0) n = s42 at hs42 hf
      unfold fX8_on_42 at hf
      refine lv_iload_n hx hb dX8_on_42 rfl (lv_at hl 1 rfl) ?_
      refine lv_bipush (v := (7 : Int32)) hx hb dX8_on_43 (by decide) ?_
      refine lv_icmp_ge (tgt := 69) hx hb dX8_on_45 (by decide) (fun hc => ?_) (fun hc => ?_)
      · have hf := it_t hc hf
        refine lv_iconst (v := (0 : Int32)) hx hb dX8_on_69 (by decide) ?_
        refine lv_istore_n (lv' := [(1, .int (0 : Int32)), (0, .ref (h0 0))]) hx hb dX8_on_70 rfl hl (by decide) rfl (fun ls hl => ?_)
        exact k71 zFU c0_0 c0_1 c0_3 c0_4 c0_5 c0_6 c0_7 c0_9 c0_11 (0 : Int32) H locs ls hP hD hS (lv_sub hl [1, 0] rfl) hf
      · have hf := it_f hc hf
        refine lv_aload_n hx hb dX8_on_48 rfl (lv_at hl 0 rfl) ?_
        refine zget hx hb hts hown hK hP hin_8 0 rfl rfl 5 (by decide) mw_595 (v := .ref (h0 3)) rfl dX8_on_49 ?_
        refine lv_iload_n hx hb dX8_on_52 rfl (lv_at hl 1 rfl) ?_
        refine lv_aload_n hx hb dX8_on_53 rfl (lv_at hl 0 rfl) ?_
        refine zget hx hb hts hown hK hP hin_8 0 rfl rfl 32 (by decide) mw_622 (v := .ref (h0 10)) rfl dX8_on_54 ?_
        refine lv_bipush (v := (64 : Int32)) hx hb dX8_on_57 (by decide) ?_
        refine lv_iload_n hx hb dX8_on_59 rfl (lv_at hl 1 rfl) ?_
        refine lv_iadd hx hb dX8_on_60 ?_
        obtain ⟨hin21, hf⟩ := gd_d hf
        refine va_iald hx hb hK hP 10 0 rfl rfl hin21 dX8_on_61 ?_
        obtain ⟨hin22, hf⟩ := gd_d hf
        obtain ⟨g23, hg23, hf⟩ := nm_d hf
        refine zast hx hb hK hP hD hS 3 (wn := (zW_8 cy h0 (ups (ups (ups (ups (ups (ups (ups (ups (ups w0 0 c0_0) 1 c0_1) 3 g23) 4 c0_4) 5 c0_5) 6 c0_6) 7 c0_7) 9 c0_9) 11 c0_11))) hg23 rfl rfl hin22 rfl dX8_on_62 (fun H locs hP hD hS => ?_)
        refine lv_zinc (lv' := [(1, .int (x1 + (1 : Int32))), (0, .ref (h0 0))]) hx hb dX8_on_63 hl (k := 1) rfl (v := (1 : Int32)) (by decide) (by decide) rfl (fun ls hl => ?_)
        refine lv_goto (tgt := 42) hx hb dX8_on_66 (by decide) ?_
        exact hs42 c0_0 c0_1 g23 c0_4 c0_5 c0_6 c0_7 c0_9 c0_11 (x1 + (1 : Int32)) H locs ls hP hD hS (lv_sub hl [1, 0] rfl) hf
  have k16 : ∀ n : Nat, ∀ (c0_0 : (Nat → Int32)) (c0_1 : (Nat → Int32)) (c0_3 : (Nat → Int32)) (c0_4 : (Nat → Int32)) (c0_5 : (Nat → Int32)) (c0_6 : (Nat → Int32)) (c0_7 : (Nat → Int32)) (c0_9 : (Nat → Int32)) (c0_11 : (Nat → Int32)) (x1 : Int32) (H : Heap) (locs : List Loc) (ls : Array Slot), va_P (dC, dI) vwCl (zW_8 cy h0 (ups (ups (ups (ups (ups (ups (ups (ups (ups w0 0 c0_0) 1 c0_1) 3 c0_3) 4 c0_4) 5 c0_5) 6 c0_6) 7 c0_7) 9 c0_9) 11 c0_11)) H → va_D A (zW_8 cy h0 (ups (ups (ups (ups (ups (ups (ups (ups (ups w0 0 c0_0) 1 c0_1) 3 c0_3) 4 c0_4) 5 c0_5) 6 c0_6) 7 c0_7) 9 c0_9) 11 c0_11)) → va_S A s.heap H locs → lv_has ls 2 [(0, .ref (h0 0)), (1, .int x1)] → (zl10 (fX8_on_16 w0) n) c0_0 c0_1 c0_3 c0_4 c0_5 c0_6 c0_7 c0_9 c0_11 x1 = some z → W p l e ({ frames := 1, cells := 0, slots := 0, locals := 21 } : Room) s m args below meth c H locs 0 0 (MQ below (va_Qi (fun (q : Int32) (v : (Nat → Int32) × (Nat → Int32) × (Nat → Int32) × (Nat → Int32) × (Nat → Int32) × (Nat → Int32) × (Nat → Int32) × (Nat → Int32) × (Nat → Int32)) => (q, v) = z) (fun v => aWR (dC, dI) vwCl [(cy, .int)] A (zW_8 cy h0 (ups (ups (ups (ups (ups (ups (ups (ups (ups w0 0 v.1) 1 v.2.1) 3 v.2.2.1) 4 v.2.2.2.1) 5 v.2.2.2.2.1) 6 v.2.2.2.2.2.1) 7 v.2.2.2.2.2.2.1) 9 v.2.2.2.2.2.2.2.1) 11 v.2.2.2.2.2.2.2.2))) A) args s 0 0 A) (F0 m 16 ls []) := by
    intro n
    induction n with
    | zero =>
      intro c0_0 c0_1 c0_3 c0_4 c0_5 c0_6 c0_7 c0_9 c0_11 x1 H locs ls hP hD hS hl hf
      exact z_no hf
    | succ n hs16 =>
      intro c0_0 c0_1 c0_3 c0_4 c0_5 c0_6 c0_7 c0_9 c0_11 x1 H locs ls hP hD hS hl hf
      have hf : fX8_on_16 w0 (zl10 (fX8_on_16 w0) n) c0_0 c0_1 c0_3 c0_4 c0_5 c0_6 c0_7 c0_9 c0_11 x1 = some z := hf
      generalize zl10 (fX8_on_16 w0) n = s16 at hs16 hf
      unfold fX8_on_16 at hf
      refine lv_iload_n hx hb dX8_on_16 rfl (lv_at hl 1 rfl) ?_
      refine lv_bipush (v := (64 : Int32)) hx hb dX8_on_17 (by decide) ?_
      refine lv_icmp_ge (tgt := 40) hx hb dX8_on_19 (by decide) (fun hc => ?_) (fun hc => ?_)
      · have hf := it_t hc hf
        refine lv_iconst (v := (0 : Int32)) hx hb dX8_on_40 (by decide) ?_
        refine lv_istore_n (lv' := [(1, .int (0 : Int32)), (0, .ref (h0 0))]) hx hb dX8_on_41 rfl hl (by decide) rfl (fun ls hl => ?_)
        exact k42 zFU c0_0 c0_1 c0_3 c0_4 c0_5 c0_6 c0_7 c0_9 c0_11 (0 : Int32) H locs ls hP hD hS (lv_sub hl [1, 0] rfl) hf
      · have hf := it_f hc hf
        refine lv_aload_n hx hb dX8_on_22 rfl (lv_at hl 0 rfl) ?_
        refine zget hx hb hts hown hK hP hin_8 0 rfl rfl 2 (by decide) mw_592 (v := .ref (h0 1)) rfl dX8_on_23 ?_
        refine lv_iload_n hx hb dX8_on_26 rfl (lv_at hl 1 rfl) ?_
        refine lv_aload_n hx hb dX8_on_27 rfl (lv_at hl 0 rfl) ?_
        refine zget hx hb hts hown hK hP hin_8 0 rfl rfl 32 (by decide) mw_622 (v := .ref (h0 10)) rfl dX8_on_28 ?_
        refine lv_iload_n hx hb dX8_on_31 rfl (lv_at hl 1 rfl) ?_
        obtain ⟨hin24, hf⟩ := gd_d hf
        refine va_iald hx hb hK hP 10 0 rfl rfl hin24 dX8_on_32 ?_
        obtain ⟨hin25, hf⟩ := gd_d hf
        obtain ⟨g26, hg26, hf⟩ := nm_d hf
        refine zast hx hb hK hP hD hS 1 (wn := (zW_8 cy h0 (ups (ups (ups (ups (ups (ups (ups (ups (ups w0 0 c0_0) 1 g26) 3 c0_3) 4 c0_4) 5 c0_5) 6 c0_6) 7 c0_7) 9 c0_9) 11 c0_11))) hg26 rfl rfl hin25 rfl dX8_on_33 (fun H locs hP hD hS => ?_)
        refine lv_zinc (lv' := [(1, .int (x1 + (1 : Int32))), (0, .ref (h0 0))]) hx hb dX8_on_34 hl (k := 1) rfl (v := (1 : Int32)) (by decide) (by decide) rfl (fun ls hl => ?_)
        refine lv_goto (tgt := 16) hx hb dX8_on_37 (by decide) ?_
        exact hs16 c0_0 g26 c0_3 c0_4 c0_5 c0_6 c0_7 c0_9 c0_11 (x1 + (1 : Int32)) H locs ls hP hD hS (lv_sub hl [1, 0] rfl) hf
  obtain ⟨ls, hl, he⟩ := zent (m := m) (n := 2) (L := [(0, .ref (h0 0))]) ha (Nat.le_of_ble_eq_true rfl) rfl
  refine W.eq he ?_
  unfold fX8_on at hf
  have kE : ∀ (H : Heap) (locs : List Loc), va_P (dC, dI) vwCl (zW_8 cy h0 (ups (ups (ups (ups (ups (ups (ups (ups (ups w0 0 (w0 0)) 1 (w0 1)) 3 (w0 3)) 4 (w0 4)) 5 (w0 5)) 6 (w0 6)) 7 (w0 7)) 9 (w0 9)) 11 (w0 11))) H → va_D A (zW_8 cy h0 (ups (ups (ups (ups (ups (ups (ups (ups (ups w0 0 (w0 0)) 1 (w0 1)) 3 (w0 3)) 4 (w0 4)) 5 (w0 5)) 6 (w0 6)) 7 (w0 7)) 9 (w0 9)) 11 (w0 11))) → va_S A s.heap H locs → W p l e ({ frames := 1, cells := 0, slots := 0, locals := 21 } : Room) s m args below meth c H locs 0 0 (MQ below (va_Qi (fun (q : Int32) (v : (Nat → Int32) × (Nat → Int32) × (Nat → Int32) × (Nat → Int32) × (Nat → Int32) × (Nat → Int32) × (Nat → Int32) × (Nat → Int32) × (Nat → Int32)) => (q, v) = z) (fun v => aWR (dC, dI) vwCl [(cy, .int)] A (zW_8 cy h0 (ups (ups (ups (ups (ups (ups (ups (ups (ups w0 0 v.1) 1 v.2.1) 3 v.2.2.1) 4 v.2.2.2.1) 5 v.2.2.2.2.1) 6 v.2.2.2.2.2.1) 7 v.2.2.2.2.2.2.1) 9 v.2.2.2.2.2.2.2.1) 11 v.2.2.2.2.2.2.2.2))) A) args s 0 0 A) (F0 m 0 ls []) := by
    intro H locs hP hD hS
    refine lv_aload_n hx hb dX8_on_0 rfl (lv_at hl 0 rfl) ?_
    refine zget hx hb hts hown hK hP hin_8 0 rfl rfl 31 (by decide) mw_621 (v := .int (w0 0 31)) rfl dX8_on_1 ?_
    refine lv_if_ne (tgt := 14) hx hb dX8_on_4 (by decide) (fun hc => ?_) (fun hc => ?_)
    · have hf := it_f hc hf
      refine lv_iconst (v := (0 : Int32)) hx hb dX8_on_14 (by decide) ?_
      refine lv_istore_n (lv' := [(1, .int (0 : Int32)), (0, .ref (h0 0))]) hx hb dX8_on_15 rfl hl (by decide) rfl (fun ls hl => ?_)
      exact k16 zFU (w0 0) (w0 1) (w0 3) (w0 4) (w0 5) (w0 6) (w0 7) (w0 9) (w0 11) (0 : Int32) H locs ls hP hD hS (lv_sub hl [1, 0] rfl) hf
    · have hf := it_t hc hf
      refine lv_aload_n hx hb dX8_on_7 rfl (lv_at hl 0 rfl) ?_
      refine lv_bipush (v := (-3 : Int32)) hx hb dX8_on_8 (by decide) ?_
      obtain ⟨r28, u29, hq27, hf⟩ := ob2_d hf
      refine zwiV (q := (RX8, TX8, 37)) (As := [.int (-3 : Int32)]) (rest := []) (r := r28) (u := u29) (wn := (zW_8 cy h0 (ups (ups (ups (ups (ups (ups (ups (ups (ups w0 0 (w0 0)) 1 (w0 1)) 3 (w0 3)) 4 (w0 4)) 5 (w0 5)) 6 (w0 6)) 7 (w0 7)) 9 u29) 11 (w0 11)))) ⟨hx, hb, hml, hown, hts⟩ (kX8_no l dC dI cy h0 (ups (ups (ups (ups (ups (ups (ups (ups (ups w0 0 (w0 0)) 1 (w0 1)) 3 (w0 3)) 4 (w0 4)) 5 (w0 5)) 6 (w0 6)) 7 (w0 7)) 9 (w0 9)) 11 (w0 11)) (-3 : Int32) H.size (r28, u29) hq27) mw_668 mw_669 mw_898 mw_9 mw_670 hdX8_no rfl rfl ⟨Nat.le_of_ble_eq_true rfl, Nat.le_of_ble_eq_true rfl⟩ hP hK hG hS 0 rfl rfl hD hA [0, 1, 2, 3, 4, 5, 6, 7, 8, 9, 10, 11, 12, 13] [] [0, 1, 2, 3, 4, 5, 6, 7, 8, 9, 10, 11, 12, 13] rfl rfl rfl rfl (by decide) rfl rfl rfl hl.1 rfl (Nat.le_of_ble_eq_true rfl) dX8_on_10 ⟨Nat.zero_le _, Nat.zero_le _⟩ (fun H locs hP hD hS => ?_)
      exact zretI hx hb hr hlocks hP hK hD hS hf rfl dX8_on_13
  exact kE s.heap [] hP hD hS
set_option maxHeartbeats 4000000 in
set_option maxRecDepth 100000 in
theorem kX8_count (l : Launch) (dC : Nat → ClassId) (dI : Nat → Nat → Nat) (cy : ClassId) (h0 : Nat → Nat) (w0 : Nat → Nat → Int32) (x1 : Int32) (z : Int32) (hf : fX8_count w0 x1 = some z) : Met l yX8_count (wsM yX8_count cX8_count 2 (some .int)) ({ frames := 0, cells := 0, slots := 0, locals := 0 } : Room) (va_Pc [.ref (h0 0), .int x1] (pRO (dC, dI) vwCl [(cy, .int)] (zW_8 cy h0 w0))) (vp_Si (fun q => q = z)) 0 0 (fun _ => False) := by
  refine Met.ofW (cc := cX8_count) (maxL := 2) (ret := (some .int)) (by decide) rfl ?_
  intro p e s m args below meth c s₁ B hml hv
  obtain ⟨ha, hP, hK, hG⟩ := hv
  have hx := B.exec
  have hb := B.bytes
  have hr := B.returns
  have hts : ∀ w ∈ wsA, w.before args s = true := fun w h => atoms_spec (ws := wsM yX8_count cX8_count 2 (some .int)) B.pre w (List.mem_cons_of_mem _ h)
  have hown : s.vm.findClass RX8 = some m.cls := findClass_of_methodNamed B.named
  have hlocks := B.notSynchronized
  have hS : va_S (fun _ => False) s.heap s.heap [] := va_S.rf
  obtain ⟨ls, hl, he⟩ := zent (m := m) (n := 2) (L := [(0, .ref (h0 0)), (1, .int x1)]) ha (Nat.le_of_ble_eq_true rfl) rfl
  refine W.eq he ?_
  unfold fX8_count at hf
  have kE : W p l e ({ frames := 0, cells := 0, slots := 0, locals := 0 } : Room) s m args below meth c s.heap [] 0 0 (MQ below (vp_Si (fun q => q = z)) args s 0 0 (fun _ => False)) (F0 m 0 ls []) := by
    refine lv_iload_n hx hb dX8_count_0 rfl (lv_at hl 1 rfl) ?_
    by_cases hsw0 : x1 = (0 : Int32)
    · have hf := it_t hsw0 hf
      refine lv_tableIn (tgt := 44) (off := 43) hx hb dX8_count_1 (by rw [hsw0]; decide) (by rw [hsw0]; decide) (by rw [hsw0]; rfl) (by decide) ?_
      refine lv_aload_n hx hb dX8_count_44 rfl (lv_at hl 0 rfl) ?_
      refine zget hx hb hts hown hK hP hin_8 0 rfl rfl 0 (by decide) mw_590 (v := .int (w0 0 0)) rfl dX8_count_45 ?_
      exact zretR hx hb hr hlocks hf dX8_count_48
    · have hf := it_f hsw0 hf
      by_cases hsw1 : x1 = (1 : Int32)
      · have hf := it_t hsw1 hf
        refine lv_tableIn (tgt := 49) (off := 48) hx hb dX8_count_1 (by rw [hsw1]; decide) (by rw [hsw1]; decide) (by rw [hsw1]; rfl) (by decide) ?_
        refine lv_aload_n hx hb dX8_count_49 rfl (lv_at hl 0 rfl) ?_
        refine zget hx hb hts hown hK hP hin_8 0 rfl rfl 1 (by decide) mw_591 (v := .int (w0 0 1)) rfl dX8_count_50 ?_
        exact zretR hx hb hr hlocks hf dX8_count_53
      · have hf := it_f hsw1 hf
        by_cases hsw2 : x1 = (2 : Int32)
        · have hf := it_t hsw2 hf
          refine lv_tableIn (tgt := 54) (off := 53) hx hb dX8_count_1 (by rw [hsw2]; decide) (by rw [hsw2]; decide) (by rw [hsw2]; rfl) (by decide) ?_
          refine lv_aload_n hx hb dX8_count_54 rfl (lv_at hl 0 rfl) ?_
          refine zget hx hb hts hown hK hP hin_8 0 rfl rfl 6 (by decide) mw_596 (v := .int (w0 0 6)) rfl dX8_count_55 ?_
          exact zretR hx hb hr hlocks hf dX8_count_58
        · have hf := it_f hsw2 hf
          by_cases hsw3 : x1 = (3 : Int32)
          · have hf := it_t hsw3 hf
            refine lv_tableIn (tgt := 59) (off := 58) hx hb dX8_count_1 (by rw [hsw3]; decide) (by rw [hsw3]; decide) (by rw [hsw3]; rfl) (by decide) ?_
            refine lv_aload_n hx hb dX8_count_59 rfl (lv_at hl 0 rfl) ?_
            refine zget hx hb hts hown hK hP hin_8 0 rfl rfl 9 (by decide) mw_599 (v := .int (w0 0 9)) rfl dX8_count_60 ?_
            exact zretR hx hb hr hlocks hf dX8_count_63
          · have hf := it_f hsw3 hf
            by_cases hsw4 : x1 = (4 : Int32)
            · have hf := it_t hsw4 hf
              refine lv_tableIn (tgt := 64) (off := 63) hx hb dX8_count_1 (by rw [hsw4]; decide) (by rw [hsw4]; decide) (by rw [hsw4]; rfl) (by decide) ?_
              refine lv_aload_n hx hb dX8_count_64 rfl (lv_at hl 0 rfl) ?_
              refine zget hx hb hts hown hK hP hin_8 0 rfl rfl 28 (by decide) mw_618 (v := .int (w0 0 28)) rfl dX8_count_65 ?_
              exact zretR hx hb hr hlocks hf dX8_count_68
            · have hf := it_f hsw4 hf
              by_cases hsw5 : x1 = (5 : Int32)
              · have hf := it_t hsw5 hf
                refine lv_tableIn (tgt := 69) (off := 68) hx hb dX8_count_1 (by rw [hsw5]; decide) (by rw [hsw5]; decide) (by rw [hsw5]; rfl) (by decide) ?_
                refine lv_aload_n hx hb dX8_count_69 rfl (lv_at hl 0 rfl) ?_
                refine zget hx hb hts hown hK hP hin_8 0 rfl rfl 3 (by decide) mw_593 (v := .int (w0 0 3)) rfl dX8_count_70 ?_
                exact zretR hx hb hr hlocks hf dX8_count_73
              · have hf := it_f hsw5 hf
                by_cases hsw6 : x1 = (6 : Int32)
                · have hf := it_t hsw6 hf
                  refine lv_tableIn (tgt := 74) (off := 73) hx hb dX8_count_1 (by rw [hsw6]; decide) (by rw [hsw6]; decide) (by rw [hsw6]; rfl) (by decide) ?_
                  refine lv_aload_n hx hb dX8_count_74 rfl (lv_at hl 0 rfl) ?_
                  refine zget hx hb hts hown hK hP hin_8 0 rfl rfl 12 (by decide) mw_602 (v := .int (w0 0 12)) rfl dX8_count_75 ?_
                  refine lv_if_eq (tgt := 85) hx hb dX8_count_78 (by decide) (fun hc => ?_) (fun hc => ?_)
                  · have hf := it_t hc hf
                    refine lv_iconst (v := (0 : Int32)) hx hb dX8_count_85 (by decide) ?_
                    exact zretR hx hb hr hlocks hf dX8_count_86
                  · have hf := it_f hc hf
                    refine lv_iconst (v := (1 : Int32)) hx hb dX8_count_81 (by decide) ?_
                    refine lv_goto (tgt := 86) hx hb dX8_count_82 (by decide) ?_
                    exact zretR hx hb hr hlocks hf dX8_count_86
                · have hf := it_f hsw6 hf
                  refine lv_tableOut (tgt := 87) hx hb dX8_count_1 (tsw_out (fun n h1 h2 => ?_)) (by decide) ?_
                  · rcases (show n = 0 ∨ n = 1 ∨ n = 2 ∨ n = 3 ∨ n = 4 ∨ n = 5 ∨ n = 6 by omega) with rfl | rfl | rfl | rfl | rfl | rfl | rfl
                    · exact ti_ne hsw0 rfl
                    · exact ti_ne hsw1 rfl
                    · exact ti_ne hsw2 rfl
                    · exact ti_ne hsw3 rfl
                    · exact ti_ne hsw4 rfl
                    · exact ti_ne hsw5 rfl
                    · exact ti_ne hsw6 rfl
                  · refine lv_iload_n hx hb dX8_count_87 rfl (lv_at hl 1 rfl) ?_
                    refine lv_bipush (v := (10 : Int32)) hx hb dX8_count_88 (by decide) ?_
                    refine lv_icmp_le (tgt := 111) hx hb dX8_count_90 (by decide) (fun hc => ?_) (fun hc => ?_)
                    · have hf := it_t hc hf
                      refine lv_bipush (v := (-9 : Int32)) hx hb dX8_count_111 (by decide) ?_
                      exact zretR hx hb hr hlocks hf dX8_count_113
                    · have hf := it_f hc hf
                      refine lv_iload_n hx hb dX8_count_93 rfl (lv_at hl 1 rfl) ?_
                      refine lv_bipush (v := (17 : Int32)) hx hb dX8_count_94 (by decide) ?_
                      refine lv_icmp_ge (tgt := 111) hx hb dX8_count_96 (by decide) (fun hc => ?_) (fun hc => ?_)
                      · have hf := it_t hc hf
                        refine lv_bipush (v := (-9 : Int32)) hx hb dX8_count_111 (by decide) ?_
                        exact zretR hx hb hr hlocks hf dX8_count_113
                      · have hf := it_f hc hf
                        refine lv_aload_n hx hb dX8_count_99 rfl (lv_at hl 0 rfl) ?_
                        refine zget hx hb hts hown hK hP hin_8 0 rfl rfl 30 (by decide) mw_620 (v := .ref (h0 9)) rfl dX8_count_100 ?_
                        refine lv_iload_n hx hb dX8_count_103 rfl (lv_at hl 1 rfl) ?_
                        refine lv_bipush (v := (10 : Int32)) hx hb dX8_count_104 (by decide) ?_
                        refine lv_isub hx hb dX8_count_106 ?_
                        obtain ⟨hin1, hf⟩ := gd_d hf
                        refine va_iald hx hb hK hP 9 0 rfl rfl hin1 dX8_count_107 ?_
                        refine lv_goto (tgt := 113) hx hb dX8_count_108 (by decide) ?_
                        exact zretR hx hb hr hlocks hf dX8_count_113
  exact kE
