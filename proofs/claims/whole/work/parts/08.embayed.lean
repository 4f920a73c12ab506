set_option maxHeartbeats 4000000 in
set_option maxRecDepth 100000 in
theorem kX7_refuse (l : Launch) (dC : Nat → ClassId) (dI : Nat → Nat → Nat) (cy : ClassId) (h0 : Nat → Nat) (w0 : Nat → Nat → Int32) (x1 : Int32) (sz : Nat) (z : Int32 × (Nat → Int32)) (hf : fX7_refuse w0 x1 = some z) : Met l yX7_refuse (wsM yX7_refuse cX7_refuse 3 (some .int)) ({ frames := 0, cells := 0, slots := 0, locals := 0 } : Room) (va_Pc [.ref (h0 0), .int x1] (pWR (dC, dI) vwCl [(cy, .int)] (zW_7 cy h0 w0) sz)) (va_Qi (fun (q : Int32) (v : (Nat → Int32)) => (q, v) = z) (fun v => aWR (dC, dI) vwCl [(cy, .int)] (va_A (zW_7 cy h0 w0) sz) (zW_7 cy h0 (ups w0 28 v))) (va_A (zW_7 cy h0 w0) sz)) 0 0 (va_A (zW_7 cy h0 w0) sz) := by
  refine Met.ofW (cc := cX7_refuse) (maxL := 3) (ret := (some .int)) (by decide) rfl ?_
  intro p e s m args below meth c s₁ B hml hv
  obtain ⟨ha, hsz, hP, hK, hD0, hG⟩ := hv
  have hx := B.exec
  have hb := B.bytes
  have hr := B.returns
  have hts : ∀ w ∈ wsA, w.before args s = true := fun w h => atoms_spec (ws := wsM yX7_refuse cX7_refuse 3 (some .int)) B.pre w (List.mem_cons_of_mem _ h)
  have hown : s.vm.findClass RX7 = some m.cls := findClass_of_methodNamed B.named
  have hlocks := B.notSynchronized
  subst hsz
  have hD := hD0.self (sz := s.heap.size)
  generalize hAe : va_A (zW_7 cy h0 w0) s.heap.size = A at hD hG ⊢
  have hA : ∀ q : Nat, s.heap.size ≤ q → A q := fun q h => by rw [← hAe]; exact Or.inr h
  have hS : va_S A s.heap s.heap [] := va_S.rf
  have hP : va_P (dC, dI) vwCl (zW_7 cy h0 (ups w0 28 (w0 28))) s.heap := hP
  have hD : va_D A (zW_7 cy h0 (ups w0 28 (w0 28))) := hD
  obtain ⟨ls, hl, he⟩ := zent (m := m) (n := 3) (L := [(0, .ref (h0 0)), (1, .int x1)]) ha (Nat.le_of_ble_eq_true rfl) rfl
  refine W.eq he ?_
  unfold fX7_refuse at hf
  have kE : ∀ (H : Heap) (locs : List Loc), va_P (dC, dI) vwCl (zW_7 cy h0 (ups w0 28 (w0 28))) H → va_D A (zW_7 cy h0 (ups w0 28 (w0 28))) → va_S A s.heap H locs → W p l e ({ frames := 0, cells := 0, slots := 0, locals := 0 } : Room) s m args below meth c H locs 0 0 (MQ below (va_Qi (fun (q : Int32) (v : (Nat → Int32)) => (q, v) = z) (fun v => aWR (dC, dI) vwCl [(cy, .int)] A (zW_7 cy h0 (ups w0 28 v))) A) args s 0 0 A) (F0 m 0 ls []) := by
    intro H locs hP hD hS
    refine lv_iload_n hx hb dX7_refuse_0 rfl (lv_at hl 1 rfl) ?_
    refine lv_ineg hx hb dX7_refuse_1 ?_
    refine lv_istore_n (lv' := [(2, .int (-x1)), (0, .ref (h0 0)), (1, .int x1)]) hx hb dX7_refuse_2 rfl hl (by decide) rfl (fun ls hl => ?_)
    refine lv_iload_n hx hb dX7_refuse_3 rfl (lv_at hl 0 rfl) ?_
    refine lv_if_lt (tgt := 26) hx hb dX7_refuse_4 (by decide) (fun hc => ?_) (fun hc => ?_)
    · have hf := it_t hc hf
      refine lv_iload_n hx hb dX7_refuse_26 rfl (lv_at hl 2 rfl) ?_
      exact zretI hx hb hr hlocks hP hK hD hS hf rfl dX7_refuse_27
    · have hf := it_f hc hf
      refine lv_iload_n hx hb dX7_refuse_7 rfl (lv_at hl 0 rfl) ?_
      refine lv_aload_n hx hb dX7_refuse_8 rfl (lv_at hl 1 rfl) ?_
      refine zget hx hb hts hown hK hP hin_7 0 rfl rfl 8 (by decide) mw_149 (v := .ref (h0 28)) rfl dX7_refuse_9 ?_
      refine va_alen hx hb hK hP 28 0 rfl rfl (v := (7 : Int32)) (show Int32.ofNat 7 = (7 : Int32) from by decide) dX7_refuse_12 ?_
      refine lv_icmp_ge (tgt := 26) hx hb dX7_refuse_13 (by decide) (fun hc => ?_) (fun hc => ?_)
      · have hf := it_t hc hf
        refine lv_iload_n hx hb dX7_refuse_26 rfl (lv_at hl 2 rfl) ?_
        exact zretI hx hb hr hlocks hP hK hD hS hf rfl dX7_refuse_27
      · have hf := it_f hc hf
        refine lv_aload_n hx hb dX7_refuse_16 rfl (lv_at hl 1 rfl) ?_
        refine zget hx hb hts hown hK hP hin_7 0 rfl rfl 8 (by decide) mw_149 (v := .ref (h0 28)) rfl dX7_refuse_17 ?_
        refine lv_iload_n hx hb dX7_refuse_20 rfl (lv_at hl 0 rfl) ?_
        refine lv_dup2_11 hx hb dX7_refuse_21 rfl rfl ?_
        obtain ⟨hin1, hf⟩ := gd_d hf
        refine va_iald hx hb hK hP 28 0 rfl rfl hin1 dX7_refuse_22 ?_
        refine lv_iconst (v := (1 : Int32)) hx hb dX7_refuse_23 (by decide) ?_
        refine lv_iadd hx hb dX7_refuse_24 ?_
        obtain ⟨hin2, hf⟩ := gd_d hf
        obtain ⟨g3, hg3, hf⟩ := nm_d hf
        refine zast hx hb hK hP hD hS 28 (wn := (zW_7 cy h0 (ups w0 28 g3))) hg3 rfl rfl hin2 rfl dX7_refuse_25 (fun H locs hP hD hS => ?_)
        refine lv_iload_n hx hb dX7_refuse_26 rfl (lv_at hl 2 rfl) ?_
        exact zretI hx hb hr hlocks hP hK hD hS hf rfl dX7_refuse_27
  exact kE s.heap [] hP hD hS
set_option maxHeartbeats 4000000 in
set_option maxRecDepth 100000 in
theorem kX7_letter (l : Launch) (dC : Nat → ClassId) (dI : Nat → Nat → Nat) (cy : ClassId) (h0 : Nat → Nat) (w0 : Nat → Nat → Int32) (x1 : Int32) (sz : Nat) (z : Int32 × (Nat → Int32) × (Nat → Int32) × (Nat → Int32)) (hf : fX7_letter w0 x1 = some z) : Met l yX7_letter (wsM yX7_letter cX7_letter 2 (some .int)) ({ frames := 1, cells := 0, slots := 0, locals := 22 } : Room) (va_Pc [.ref (h0 0), .int x1] (pWR (dC, dI) vwCl [(cy, .int)] (zW_7 cy h0 w0) sz)) (va_Qi (fun (q : Int32) (v : (Nat → Int32) × (Nat → Int32) × (Nat → Int32)) => (q, v) = z) (fun v => aWR (dC, dI) vwCl [(cy, .int)] (va_A (zW_7 cy h0 w0) sz) (zW_7 cy h0 (ups (ups (ups w0 1 v.1) 2 v.2.1) 28 v.2.2))) (va_A (zW_7 cy h0 w0) sz)) 0 0 (va_A (zW_7 cy h0 w0) sz) := by
  refine Met.ofW (cc := cX7_letter) (maxL := 2) (ret := (some .int)) (by decide) rfl ?_
  intro p e s m args below meth c s₁ B hml hv
  obtain ⟨ha, hsz, hP, hK, hD0, hG⟩ := hv
  have hx := B.exec
  have hb := B.bytes
  have hr := B.returns
  have hts : ∀ w ∈ wsA, w.before args s = true := fun w h => atoms_spec (ws := wsM yX7_letter cX7_letter 2 (some .int)) B.pre w (List.mem_cons_of_mem _ h)
  have hown : s.vm.findClass RX7 = some m.cls := findClass_of_methodNamed B.named
  have hlocks := B.notSynchronized
  subst hsz
  have hD := hD0.self (sz := s.heap.size)
  generalize hAe : va_A (zW_7 cy h0 w0) s.heap.size = A at hD hG ⊢
  have hA : ∀ q : Nat, s.heap.size ≤ q → A q := fun q h => by rw [← hAe]; exact Or.inr h
  have hS : va_S A s.heap s.heap [] := va_S.rf
  have hP : va_P (dC, dI) vwCl (zW_7 cy h0 (ups (ups (ups w0 1 (w0 1)) 2 (w0 2)) 28 (w0 28))) s.heap := hP
  have hD : va_D A (zW_7 cy h0 (ups (ups (ups w0 1 (w0 1)) 2 (w0 2)) 28 (w0 28))) := hD
  have k30 : ∀ (c0_1 : (Nat → Int32)) (c0_2 : (Nat → Int32)) (c0_28 : (Nat → Int32)) (H : Heap) (locs : List Loc) (ls : Array Slot), va_P (dC, dI) vwCl (zW_7 cy h0 (ups (ups (ups w0 1 c0_1) 2 c0_2) 28 c0_28)) H → va_D A (zW_7 cy h0 (ups (ups (ups w0 1 c0_1) 2 c0_2) 28 c0_28)) → va_S A s.heap H locs → lv_has ls 2 [(0, .ref (h0 0))] → (fX7_letter_30 w0) c0_1 c0_2 c0_28 = some z → W p l e ({ frames := 1, cells := 0, slots := 0, locals := 22 } : Room) s m args below meth c H locs 0 0 (MQ below (va_Qi (fun (q : Int32) (v : (Nat → Int32) × (Nat → Int32) × (Nat → Int32)) => (q, v) = z) (fun v => aWR (dC, dI) vwCl [(cy, .int)] A (zW_7 cy h0 (ups (ups (ups w0 1 v.1) 2 v.2.1) 28 v.2.2))) A) args s 0 0 A) (F0 m 30 ls []) := by
    intro c0_1 c0_2 c0_28 H locs ls hP hD hS hl hf
    unfold fX7_letter_30 at hf
    refine lv_aload_n hx hb dX7_letter_30 rfl (lv_at hl 0 rfl) ?_
    refine lv_bipush (v := (-6 : Int32)) hx hb dX7_letter_31 (by decide) ?_
    obtain ⟨r2, u3, hq1, hf⟩ := ob2_d hf
    refine zwiV (q := (RX7, TX7, 10)) (As := [.int (-6 : Int32)]) (rest := []) (r := r2) (u := u3) (wn := (zW_7 cy h0 (ups (ups (ups w0 1 c0_1) 2 c0_2) 28 u3))) ⟨hx, hb, hml, hown, hts⟩ (kX7_refuse l dC dI cy h0 (ups (ups (ups w0 1 c0_1) 2 c0_2) 28 c0_28) (-6 : Int32) H.size (r2, u3) hq1) mw_165 mw_166 mw_883 mw_1 mw_167 hdX7_refuse rfl rfl ⟨Nat.le_of_ble_eq_true rfl, Nat.le_of_ble_eq_true rfl⟩ hP hK hG hS 0 rfl rfl hD hA [0, 1, 2, 3, 4, 5, 6, 7, 8, 9, 10, 11, 12, 13, 14, 15, 16, 17, 18, 19, 20, 21, 22, 23, 24, 25, 26, 27, 28] [] [0, 1, 2, 3, 4, 5, 6, 7, 8, 9, 10, 11, 12, 13, 14, 15, 16, 17, 18, 19, 20, 21, 22, 23, 24, 25, 26, 27, 28] rfl rfl rfl rfl (by decide) rfl rfl rfl hl.1 rfl (Nat.le_of_ble_eq_true rfl) dX7_letter_33 ⟨Nat.zero_le _, Nat.zero_le _⟩ (fun H locs hP hD hS => ?_)
    exact zretI hx hb hr hlocks hP hK hD hS hf rfl dX7_letter_36
  obtain ⟨ls, hl, he⟩ := zent (m := m) (n := 2) (L := [(0, .ref (h0 0)), (1, .int x1)]) ha (Nat.le_of_ble_eq_true rfl) rfl
  refine W.eq he ?_
  unfold fX7_letter at hf
  have kE : ∀ (H : Heap) (locs : List Loc), va_P (dC, dI) vwCl (zW_7 cy h0 (ups (ups (ups w0 1 (w0 1)) 2 (w0 2)) 28 (w0 28))) H → va_D A (zW_7 cy h0 (ups (ups (ups w0 1 (w0 1)) 2 (w0 2)) 28 (w0 28))) → va_S A s.heap H locs → W p l e ({ frames := 1, cells := 0, slots := 0, locals := 22 } : Room) s m args below meth c H locs 0 0 (MQ below (va_Qi (fun (q : Int32) (v : (Nat → Int32) × (Nat → Int32) × (Nat → Int32)) => (q, v) = z) (fun v => aWR (dC, dI) vwCl [(cy, .int)] A (zW_7 cy h0 (ups (ups (ups w0 1 v.1) 2 v.2.1) 28 v.2.2))) A) args s 0 0 A) (F0 m 0 ls []) := by
    intro H locs hP hD hS
    refine lv_iload_n hx hb dX7_letter_0 rfl (lv_at hl 1 rfl) ?_
    refine lv_if_ge (tgt := 11) hx hb dX7_letter_1 (by decide) (fun hc => ?_) (fun hc => ?_)
    · have hf := it_t hc hf
      refine lv_iload_n hx hb dX7_letter_11 rfl (lv_at hl 1 rfl) ?_
      refine lv_sipush (v := (255 : Int32)) hx hb dX7_letter_12 (by decide) ?_
      refine lv_icmp_gt (tgt := 30) hx hb dX7_letter_15 (by decide) (fun hc => ?_) (fun hc => ?_)
      · have hf := it_t hc hf
        exact k30 (w0 1) (w0 2) (w0 28) H locs ls hP hD hS (lv_sub hl [0] rfl) hf
      · have hf := it_f hc hf
        refine lv_aload_n hx hb dX7_letter_18 rfl (lv_at hl 0 rfl) ?_
        refine zget hx hb hts hown hK hP hin_7 0 rfl rfl 0 (by decide) mw_141 (v := .ref (h0 1)) rfl dX7_letter_19 ?_
        refine zgetN hx hb hts hG hown hK hP hin_3 1 rfl rfl 1 (by decide) (host := "Embayed") (List.mem_of_getElem? (i := 22) rfl) (v := .int (w0 1 1)) rfl dX7_letter_22 ?_
        refine lv_bipush (v := (80 : Int32)) hx hb dX7_letter_25 (by decide) ?_
        refine lv_icmp_lt (tgt := 37) hx hb dX7_letter_27 (by decide) (fun hc => ?_) (fun hc => ?_)
        · have hf := it_t hc hf
          refine lv_aload_n hx hb dX7_letter_37 rfl (lv_at hl 0 rfl) ?_
          refine zget hx hb hts hown hK hP hin_7 0 rfl rfl 0 (by decide) mw_141 (v := .ref (h0 1)) rfl dX7_letter_38 ?_
          refine lv_iload_n hx hb dX7_letter_41 rfl (lv_at hl 1 rfl) ?_
          obtain ⟨r5, u6, u7, hq4, hf⟩ := ob3_d hf
          refine zwiV (q := (RX3, TX3, 2)) (As := [.int x1]) (rest := []) (r := r5) (u := (u6, u7)) (wn := (zW_7 cy h0 (ups (ups (ups w0 1 u6) 2 u7) 28 (w0 28)))) ⟨hx, hb, hml, hown, hts⟩ (kX3_tell l dC dI cy (sh 1 h0) (sh 1 (ups (ups w0 1 (w0 1)) 2 (w0 2))) x1 H.size (r5, u6, u7) hq4) mw_168 mw_169 mw_170 mw_2 mw_171 hdX3_tell rfl rfl ⟨Nat.le_of_ble_eq_true rfl, Nat.le_of_ble_eq_true rfl⟩ hP hK hG hS 1 rfl rfl hD hA [1, 2] [0, 3, 4, 5, 6, 7, 8, 9, 10, 11, 12, 13, 14, 15, 16, 17, 18, 19, 20, 21, 22, 23, 24, 25, 26, 27, 28] [0, 27, 28, 1, 2, 3, 4, 5, 6, 7, 8, 9, 10, 11, 12, 13, 14, 15, 16, 17, 18, 19, 20, 21, 22, 23, 24, 25, 26] rfl rfl rfl rfl (by decide) rfl rfl rfl hl.1 rfl (Nat.le_of_ble_eq_true rfl) dX7_letter_42 ⟨Nat.zero_le _, Nat.zero_le _⟩ (fun H locs hP hD hS => ?_)
          exact zretI hx hb hr hlocks hP hK hD hS hf rfl dX7_letter_45
        · have hf := it_f hc hf
          exact k30 (w0 1) (w0 2) (w0 28) H locs ls hP hD hS (lv_sub hl [0] rfl) hf
    · have hf := it_f hc hf
      refine lv_aload_n hx hb dX7_letter_4 rfl (lv_at hl 0 rfl) ?_
      refine lv_bipush (v := (-4 : Int32)) hx hb dX7_letter_5 (by decide) ?_
      obtain ⟨r9, u10, hq8, hf⟩ := ob2_d hf
      refine zwiV (q := (RX7, TX7, 10)) (As := [.int (-4 : Int32)]) (rest := []) (r := r9) (u := u10) (wn := (zW_7 cy h0 (ups (ups (ups w0 1 (w0 1)) 2 (w0 2)) 28 u10))) ⟨hx, hb, hml, hown, hts⟩ (kX7_refuse l dC dI cy h0 (ups (ups (ups w0 1 (w0 1)) 2 (w0 2)) 28 (w0 28)) (-4 : Int32) H.size (r9, u10) hq8) mw_165 mw_166 mw_883 mw_1 mw_167 hdX7_refuse rfl rfl ⟨Nat.le_of_ble_eq_true rfl, Nat.le_of_ble_eq_true rfl⟩ hP hK hG hS 0 rfl rfl hD hA [0, 1, 2, 3, 4, 5, 6, 7, 8, 9, 10, 11, 12, 13, 14, 15, 16, 17, 18, 19, 20, 21, 22, 23, 24, 25, 26, 27, 28] [] [0, 1, 2, 3, 4, 5, 6, 7, 8, 9, 10, 11, 12, 13, 14, 15, 16, 17, 18, 19, 20, 21, 22, 23, 24, 25, 26, 27, 28] rfl rfl rfl rfl (by decide) rfl rfl rfl hl.1 rfl (Nat.le_of_ble_eq_true rfl) dX7_letter_7 ⟨Nat.zero_le _, Nat.zero_le _⟩ (fun H locs hP hD hS => ?_)
      exact zretI hx hb hr hlocks hP hK hD hS hf rfl dX7_letter_10
  exact kE s.heap [] hP hD hS
set_option maxHeartbeats 4000000 in
set_option maxRecDepth 100000 in
theorem kX7_bay (l : Launch) (dC : Nat → ClassId) (dI : Nat → Nat → Nat) (cy : ClassId) (h0 : Nat → Nat) (w0 : Nat → Nat → Int32) (sz : Nat) (z : Int32 × (Nat → Int32) × (Nat → Int32) × (Nat → Int32) × (Nat → Int32)) (hf : fX7_bay w0 = some z) : Met l yX7_bay (wsM yX7_bay cX7_bay 2 (some .int)) ({ frames := 3, cells := 0, slots := 0, locals := 68 } : Room) (va_Pc [.ref (h0 0)] (pWR (dC, dI) vwCl [(cy, .int)] (zW_7 cy h0 w0) sz)) (va_Qi (fun (q : Int32) (v : (Nat → Int32) × (Nat → Int32) × (Nat → Int32) × (Nat → Int32)) => (q, v) = z) (fun v => aWR (dC, dI) vwCl [(cy, .int)] (va_A (zW_7 cy h0 w0) sz) (zW_7 cy h0 (ups (ups (ups (ups w0 1 v.1) 4 v.2.1) 5 v.2.2.1) 12 v.2.2.2))) (va_A (zW_7 cy h0 w0) sz)) 0 0 (va_A (zW_7 cy h0 w0) sz) := by
  refine Met.ofW (cc := cX7_bay) (maxL := 2) (ret := (some .int)) (by decide) rfl ?_
  intro p e s m args below meth c s₁ B hml hv
  obtain ⟨ha, hsz, hP, hK, hD0, hG⟩ := hv
  have hx := B.exec
  have hb := B.bytes
  have hr := B.returns
  have hts : ∀ w ∈ wsA, w.before args s = true := fun w h => atoms_spec (ws := wsM yX7_bay cX7_bay 2 (some .int)) B.pre w (List.mem_cons_of_mem _ h)
  have hown : s.vm.findClass RX7 = some m.cls := findClass_of_methodNamed B.named
  have hlocks := B.notSynchronized
  subst hsz
  have hD := hD0.self (sz := s.heap.size)
  generalize hAe : va_A (zW_7 cy h0 w0) s.heap.size = A at hD hG ⊢
  have hA : ∀ q : Nat, s.heap.size ≤ q → A q := fun q h => by rw [← hAe]; exact Or.inr h
  have hS : va_S A s.heap s.heap [] := va_S.rf
  have hP : va_P (dC, dI) vwCl (zW_7 cy h0 (ups (ups (ups (ups w0 1 (w0 1)) 4 (w0 4)) 5 (w0 5)) 12 (w0 12))) s.heap := hP
  have hD : va_D A (zW_7 cy h0 (ups (ups (ups (ups w0 1 (w0 1)) 4 (w0 4)) 5 (w0 5)) 12 (w0 12))) := hD
  obtain ⟨ls, hl, he⟩ := zent (m := m) (n := 2) (L := [(0, .ref (h0 0))]) ha (Nat.le_of_ble_eq_true rfl) rfl
  refine W.eq he ?_
  unfold fX7_bay at hf
  have kE : ∀ (H : Heap) (locs : List Loc), va_P (dC, dI) vwCl (zW_7 cy h0 (ups (ups (ups (ups w0 1 (w0 1)) 4 (w0 4)) 5 (w0 5)) 12 (w0 12))) H → va_D A (zW_7 cy h0 (ups (ups (ups (ups w0 1 (w0 1)) 4 (w0 4)) 5 (w0 5)) 12 (w0 12))) → va_S A s.heap H locs → W p l e ({ frames := 3, cells := 0, slots := 0, locals := 68 } : Room) s m args below meth c H locs 0 0 (MQ below (va_Qi (fun (q : Int32) (v : (Nat → Int32) × (Nat → Int32) × (Nat → Int32) × (Nat → Int32)) => (q, v) = z) (fun v => aWR (dC, dI) vwCl [(cy, .int)] A (zW_7 cy h0 (ups (ups (ups (ups w0 1 v.1) 4 v.2.1) 5 v.2.2.1) 12 v.2.2.2))) A) args s 0 0 A) (F0 m 0 ls []) := by
    intro H locs hP hD hS
    refine lv_aload_n hx hb dX7_bay_0 rfl (lv_at hl 0 rfl) ?_
    refine zget hx hb hts hown hK hP hin_7 0 rfl rfl 0 (by decide) mw_141 (v := .ref (h0 1)) rfl dX7_bay_1 ?_
    obtain ⟨r2, hq1, hf⟩ := ob1_d hf
    refine zroV (q := (RX3, TX3, 2)) (As := []) (rest := []) (r := r2) ⟨hx, hb, hml, hown, hts⟩ (kX3_faultPlace l dC dI cy (sh 1 h0) (sh 1 (ups w0 1 (w0 1))) r2 hq1) mw_176 mw_177 mw_178 mw_2 mw_179 hdX3_faultPlace rfl rfl ⟨Nat.le_of_ble_eq_true rfl, Nat.le_of_ble_eq_true rfl⟩ hP hK hG hS 1 rfl rfl [1, 2] rfl rfl hl.1 rfl (Nat.le_of_ble_eq_true rfl) dX7_bay_4 ⟨Nat.zero_le _, Nat.zero_le _⟩ ?_
    refine lv_istore_n (lv' := [(1, .int r2), (0, .ref (h0 0))]) hx hb dX7_bay_7 rfl hl (by decide) rfl (fun ls hl => ?_)
    refine lv_iload_n hx hb dX7_bay_8 rfl (lv_at hl 0 rfl) ?_
    refine lv_if_lt (tgt := 25) hx hb dX7_bay_9 (by decide) (fun hc => ?_) (fun hc => ?_)
    · have hf := it_t hc hf
      refine lv_aload_n hx hb dX7_bay_25 rfl (lv_at hl 1 rfl) ?_
      refine zget hx hb hts hown hK hP hin_7 0 rfl rfl 1 (by decide) mw_142 (v := .ref (h0 3)) rfl dX7_bay_26 ?_
      refine zgetN hx hb hts hG hown hK hP hin_6 3 rfl rfl 0 (by decide) (host := "Embayed") (List.mem_of_getElem? (i := 26) rfl) (v := .ref (h0 4)) rfl dX7_bay_29 ?_
      refine lv_aload_n hx hb dX7_bay_32 rfl (lv_at hl 1 rfl) ?_
      refine zget hx hb hts hown hK hP hin_7 0 rfl rfl 0 (by decide) mw_141 (v := .ref (h0 1)) rfl dX7_bay_33 ?_
      obtain ⟨u4, u5, hq3, hf⟩ := ob2_d hf
      refine zwvV (q := (RX1, TX1, 3)) (As := [.ref (h0 1)]) (rest := []) (u := (u4, u5)) (wn := (zW_7 cy h0 (ups (ups (ups (ups w0 1 (w0 1)) 4 u4) 5 u5) 12 (w0 12)))) ⟨hx, hb, hml, hown, hts⟩ (kX1_draw l dC dI cy (sh 4 h0) (sh 4 (ups (ups w0 4 (w0 4)) 5 (w0 5))) (sh 1 h0) (sh 1 (ups w0 1 (w0 1))) H.size (u4, u5) hq3) mw_193 mw_194 mw_195 mw_4 mw_196 hdX1_draw rfl rfl ⟨Nat.le_of_ble_eq_true rfl, Nat.le_of_ble_eq_true rfl⟩ hP hK hG hS 4 rfl rfl hD hA [4, 5, 1, 2] [0, 3, 6, 7, 8, 9, 10, 11, 12, 13, 14, 15, 16, 17, 18, 19, 20, 21, 22, 23, 24, 25, 26, 27, 28] [0, 27, 28, 1, 25, 26, 2, 3, 4, 5, 6, 7, 8, 9, 10, 11, 12, 13, 14, 15, 16, 17, 18, 19, 20, 21, 22, 23, 24] rfl rfl rfl rfl (by decide) rfl rfl rfl hl.1 rfl (Nat.le_of_ble_eq_true rfl) dX7_bay_36 ⟨Nat.zero_le _, Nat.zero_le _⟩ (fun H locs hP hD hS => ?_)
      refine lv_aload_n hx hb dX7_bay_39 rfl (lv_at hl 1 rfl) ?_
      refine zget hx hb hts hown hK hP hin_7 0 rfl rfl 0 (by decide) mw_141 (v := .ref (h0 1)) rfl dX7_bay_40 ?_
      obtain ⟨u7, hq6, hf⟩ := ob1_d hf
      refine zwvV (q := (RX3, TX3, 2)) (As := []) (rest := []) (u := u7) (wn := (zW_7 cy h0 (ups (ups (ups (ups w0 1 u7) 4 u4) 5 u5) 12 (w0 12)))) ⟨hx, hb, hml, hown, hts⟩ (kX3_forget l dC dI cy (sh 1 h0) (sh 1 (ups w0 1 (w0 1))) H.size u7 hq6) mw_189 mw_190 mw_191 mw_2 mw_192 hdX3_forget rfl rfl ⟨Nat.le_of_ble_eq_true rfl, Nat.le_of_ble_eq_true rfl⟩ hP hK hG hS 1 rfl rfl hD hA [1, 2] [0, 3, 4, 5, 6, 7, 8, 9, 10, 11, 12, 13, 14, 15, 16, 17, 18, 19, 20, 21, 22, 23, 24, 25, 26, 27, 28] [0, 27, 28, 1, 2, 3, 4, 5, 6, 7, 8, 9, 10, 11, 12, 13, 14, 15, 16, 17, 18, 19, 20, 21, 22, 23, 24, 25, 26] rfl rfl rfl rfl (by decide) rfl rfl rfl hl.1 rfl (Nat.le_of_ble_eq_true rfl) dX7_bay_43 ⟨Nat.zero_le _, Nat.zero_le _⟩ (fun H locs hP hD hS => ?_)
      refine lv_aload_n hx hb dX7_bay_46 rfl (lv_at hl 1 rfl) ?_
      refine zget hx hb hts hown hK hP hin_7 0 rfl rfl 2 (by decide) mw_143 (v := .ref (h0 12)) rfl dX7_bay_47 ?_
      obtain ⟨u9, hq8, hf⟩ := ob1_d hf
      refine zwvV (q := (RX5, TX5, 17)) (As := []) (rest := []) (u := u9) (wn := (zW_7 cy h0 (ups (ups (ups (ups w0 1 u7) 4 u4) 5 u5) 12 u9))) ⟨hx, hb, hml, hown, hts⟩ (kX5_leaveBay l dC dI cy (h0 12) (w0 12) H.size u9 hq8) mw_199 mw_83 mw_84 mw_6 mw_85 hdX5_leaveBay rfl rfl ⟨Nat.le_of_ble_eq_true rfl, Nat.le_of_ble_eq_true rfl⟩ hP hK hG hS 12 rfl rfl hD hA [12] [0, 1, 2, 3, 4, 5, 6, 7, 8, 9, 10, 11, 13, 14, 15, 16, 17, 18, 19, 20, 21, 22, 23, 24, 25, 26, 27, 28] [0, 1, 2, 3, 4, 5, 6, 7, 8, 9, 10, 11, 28, 12, 13, 14, 15, 16, 17, 18, 19, 20, 21, 22, 23, 24, 25, 26, 27] rfl rfl rfl rfl (by decide) rfl rfl rfl hl.1 rfl (Nat.le_of_ble_eq_true rfl) dX7_bay_50 ⟨Nat.zero_le _, Nat.zero_le _⟩ (fun H locs hP hD hS => ?_)
      refine lv_aload_n hx hb dX7_bay_53 rfl (lv_at hl 1 rfl) ?_
      refine zget hx hb hts hown hK hP hin_7 0 rfl rfl 1 (by decide) mw_142 (v := .ref (h0 3)) rfl dX7_bay_54 ?_
      refine zgetN hx hb hts hG hown hK hP hin_6 3 rfl rfl 0 (by decide) (host := "Embayed") (List.mem_of_getElem? (i := 26) rfl) (v := .ref (h0 4)) rfl dX7_bay_57 ?_
      obtain ⟨r11, hq10, hf⟩ := ob1_d hf
      refine zroV (q := (RX1, TX1, 3)) (As := []) (rest := []) (r := r11) ⟨hx, hb, hml, hown, hts⟩ (kX1_cells l dC dI cy (sh 4 h0) (sh 4 (ups (ups w0 4 u4) 5 u5)) r11 hq10) mw_200 mw_201 mw_202 mw_4 mw_203 hdX1_cells rfl rfl ⟨Nat.le_of_ble_eq_true rfl, Nat.le_of_ble_eq_true rfl⟩ hP hK hG hS 4 rfl rfl [4, 5] rfl rfl hl.1 rfl (Nat.le_of_ble_eq_true rfl) dX7_bay_60 ⟨Nat.zero_le _, Nat.zero_le _⟩ ?_
      exact zretI hx hb hr hlocks hP hK hD hS hf rfl dX7_bay_63
    · have hf := it_f hc hf
      refine lv_aload_n hx hb dX7_bay_12 rfl (lv_at hl 1 rfl) ?_
      refine zget hx hb hts hown hK hP hin_7 0 rfl rfl 0 (by decide) mw_141 (v := .ref (h0 1)) rfl dX7_bay_13 ?_
      obtain ⟨u13, hq12, hf⟩ := ob1_d hf
      refine zwvV (q := (RX3, TX3, 2)) (As := []) (rest := []) (u := u13) (wn := (zW_7 cy h0 (ups (ups (ups (ups w0 1 u13) 4 (w0 4)) 5 (w0 5)) 12 (w0 12)))) ⟨hx, hb, hml, hown, hts⟩ (kX3_forget l dC dI cy (sh 1 h0) (sh 1 (ups w0 1 (w0 1))) H.size u13 hq12) mw_189 mw_190 mw_191 mw_2 mw_192 hdX3_forget rfl rfl ⟨Nat.le_of_ble_eq_true rfl, Nat.le_of_ble_eq_true rfl⟩ hP hK hG hS 1 rfl rfl hD hA [1, 2] [0, 3, 4, 5, 6, 7, 8, 9, 10, 11, 12, 13, 14, 15, 16, 17, 18, 19, 20, 21, 22, 23, 24, 25, 26, 27, 28] [0, 27, 28, 1, 2, 3, 4, 5, 6, 7, 8, 9, 10, 11, 12, 13, 14, 15, 16, 17, 18, 19, 20, 21, 22, 23, 24, 25, 26] rfl rfl rfl rfl (by decide) rfl rfl rfl hl.1 rfl (Nat.le_of_ble_eq_true rfl) dX7_bay_16 ⟨Nat.zero_le _, Nat.zero_le _⟩ (fun H locs hP hD hS => ?_)
      refine lv_sipush (v := (-1000 : Int32)) hx hb dX7_bay_19 (by decide) ?_
      refine lv_iload_n hx hb dX7_bay_22 rfl (lv_at hl 0 rfl) ?_
      refine lv_isub hx hb dX7_bay_23 ?_
      exact zretI hx hb hr hlocks hP hK hD hS hf rfl dX7_bay_24
  exact kE s.heap [] hP hD hS
set_option maxHeartbeats 4000000 in
set_option maxRecDepth 100000 in
theorem kX7_cell (l : Launch) (dC : Nat → ClassId) (dI : Nat → Nat → Nat) (cy : ClassId) (h0 : Nat → Nat) (w0 : Nat → Nat → Int32) (x1 : Int32) (sz : Nat) (z : Int32 × (Nat → Int32)) (hf : fX7_cell w0 x1 = some z) : Met l yX7_cell (wsM yX7_cell cX7_cell 2 (some .int)) ({ frames := 1, cells := 0, slots := 0, locals := 22 } : Room) (va_Pc [.ref (h0 0), .int x1] (pWR (dC, dI) vwCl [(cy, .int)] (zW_7 cy h0 w0) sz)) (va_Qi (fun (q : Int32) (v : (Nat → Int32)) => (q, v) = z) (fun v => aWR (dC, dI) vwCl [(cy, .int)] (va_A (zW_7 cy h0 w0) sz) (zW_7 cy h0 (ups w0 28 v))) (va_A (zW_7 cy h0 w0) sz)) 0 0 (va_A (zW_7 cy h0 w0) sz) := by
  refine Met.ofW (cc := cX7_cell) (maxL := 2) (ret := (some .int)) (by decide) rfl ?_
  intro p e s m args below meth c s₁ B hml hv
  obtain ⟨ha, hsz, hP, hK, hD0, hG⟩ := hv
  have hx := B.exec
  have hb := B.bytes
  have hr := B.returns
  have hts : ∀ w ∈ wsA, w.before args s = true := fun w h => atoms_spec (ws := wsM yX7_cell cX7_cell 2 (some .int)) B.pre w (List.mem_cons_of_mem _ h)
  have hown : s.vm.findClass RX7 = some m.cls := findClass_of_methodNamed B.named
  have hlocks := B.notSynchronized
  subst hsz
  have hD := hD0.self (sz := s.heap.size)
  generalize hAe : va_A (zW_7 cy h0 w0) s.heap.size = A at hD hG ⊢
  have hA : ∀ q : Nat, s.heap.size ≤ q → A q := fun q h => by rw [← hAe]; exact Or.inr h
  have hS : va_S A s.heap s.heap [] := va_S.rf
  have hP : va_P (dC, dI) vwCl (zW_7 cy h0 (ups w0 28 (w0 28))) s.heap := hP
  have hD : va_D A (zW_7 cy h0 (ups w0 28 (w0 28))) := hD
  obtain ⟨ls, hl, he⟩ := zent (m := m) (n := 2) (L := [(0, .ref (h0 0)), (1, .int x1)]) ha (Nat.le_of_ble_eq_true rfl) rfl
  refine W.eq he ?_
  unfold fX7_cell at hf
  have kE : ∀ (H : Heap) (locs : List Loc), va_P (dC, dI) vwCl (zW_7 cy h0 (ups w0 28 (w0 28))) H → va_D A (zW_7 cy h0 (ups w0 28 (w0 28))) → va_S A s.heap H locs → W p l e ({ frames := 1, cells := 0, slots := 0, locals := 22 } : Room) s m args below meth c H locs 0 0 (MQ below (va_Qi (fun (q : Int32) (v : (Nat → Int32)) => (q, v) = z) (fun v => aWR (dC, dI) vwCl [(cy, .int)] A (zW_7 cy h0 (ups w0 28 v))) A) args s 0 0 A) (F0 m 0 ls []) := by
    intro H locs hP hD hS
    refine lv_aload_n hx hb dX7_cell_0 rfl (lv_at hl 0 rfl) ?_
    refine zget hx hb hts hown hK hP hin_7 0 rfl rfl 1 (by decide) mw_142 (v := .ref (h0 3)) rfl dX7_cell_1 ?_
    refine zgetN hx hb hts hG hown hK hP hin_6 3 rfl rfl 0 (by decide) (host := "Embayed") (List.mem_of_getElem? (i := 26) rfl) (v := .ref (h0 4)) rfl dX7_cell_4 ?_
    refine lv_iload_n hx hb dX7_cell_7 rfl (lv_at hl 1 rfl) ?_
    obtain ⟨r2, hq1, hf⟩ := ob1_d hf
    refine zroV (q := (RX1, TX1, 3)) (As := [.int x1]) (rest := []) (r := r2) ⟨hx, hb, hml, hown, hts⟩ (kX1_has l dC dI cy (sh 4 h0) (sh 4 w0) x1 r2 hq1) mw_208 mw_209 mw_210 mw_4 mw_211 hdX1_has rfl rfl ⟨Nat.le_of_ble_eq_true rfl, Nat.le_of_ble_eq_true rfl⟩ hP hK hG hS 4 rfl rfl [4, 5] rfl rfl hl.1 rfl (Nat.le_of_ble_eq_true rfl) dX7_cell_8 ⟨Nat.zero_le _, Nat.zero_le _⟩ ?_
    refine lv_if_ne (tgt := 20) hx hb dX7_cell_11 (by decide) (fun hc => ?_) (fun hc => ?_)
    · have hf := it_f hc hf
      refine lv_aload_n hx hb dX7_cell_20 rfl (lv_at hl 0 rfl) ?_
      refine zget hx hb hts hown hK hP hin_7 0 rfl rfl 1 (by decide) mw_142 (v := .ref (h0 3)) rfl dX7_cell_21 ?_
      refine zgetN hx hb hts hG hown hK hP hin_6 3 rfl rfl 0 (by decide) (host := "Embayed") (List.mem_of_getElem? (i := 26) rfl) (v := .ref (h0 4)) rfl dX7_cell_24 ?_
      refine lv_iload_n hx hb dX7_cell_27 rfl (lv_at hl 1 rfl) ?_
      obtain ⟨r4, hq3, hf⟩ := ob1_d hf
      refine zroV (q := (RX1, TX1, 3)) (As := [.int x1]) (rest := []) (r := r4) ⟨hx, hb, hml, hown, hts⟩ (kX1_groundAt l dC dI cy (sh 4 h0) (sh 4 w0) x1 r4 hq3) mw_212 mw_213 mw_214 mw_4 mw_215 hdX1_groundAt rfl rfl ⟨Nat.le_of_ble_eq_true rfl, Nat.le_of_ble_eq_true rfl⟩ hP hK hG hS 4 rfl rfl [4, 5] rfl rfl hl.1 rfl (Nat.le_of_ble_eq_true rfl) dX7_cell_28 ⟨Nat.zero_le _, Nat.zero_le _⟩ ?_
      exact zretI hx hb hr hlocks hP hK hD hS hf rfl dX7_cell_31
    · have hf := it_t hc hf
      refine lv_aload_n hx hb dX7_cell_14 rfl (lv_at hl 0 rfl) ?_
      refine lv_iconst (v := (-1 : Int32)) hx hb dX7_cell_15 (by decide) ?_
      obtain ⟨r6, u7, hq5, hf⟩ := ob2_d hf
      refine zwiV (q := (RX7, TX7, 10)) (As := [.int (-1 : Int32)]) (rest := []) (r := r6) (u := u7) (wn := (zW_7 cy h0 (ups w0 28 u7))) ⟨hx, hb, hml, hown, hts⟩ (kX7_refuse l dC dI cy h0 (ups w0 28 (w0 28)) (-1 : Int32) H.size (r6, u7) hq5) mw_165 mw_166 mw_883 mw_1 mw_167 hdX7_refuse rfl rfl ⟨Nat.le_of_ble_eq_true rfl, Nat.le_of_ble_eq_true rfl⟩ hP hK hG hS 0 rfl rfl hD hA [0, 1, 2, 3, 4, 5, 6, 7, 8, 9, 10, 11, 12, 13, 14, 15, 16, 17, 18, 19, 20, 21, 22, 23, 24, 25, 26, 27, 28] [] [0, 1, 2, 3, 4, 5, 6, 7, 8, 9, 10, 11, 12, 13, 14, 15, 16, 17, 18, 19, 20, 21, 22, 23, 24, 25, 26, 27, 28] rfl rfl rfl rfl (by decide) rfl rfl rfl hl.1 rfl (Nat.le_of_ble_eq_true rfl) dX7_cell_16 ⟨Nat.zero_le _, Nat.zero_le _⟩ (fun H locs hP hD hS => ?_)
      exact zretI hx hb hr hlocks hP hK hD hS hf rfl dX7_cell_19
  exact kE s.heap [] hP hD hS
set_option maxHeartbeats 4000000 in
set_option maxRecDepth 100000 in
theorem kX7_set (l : Launch) (dC : Nat → ClassId) (dI : Nat → Nat → Nat) (cy : ClassId) (h0 : Nat → Nat) (w0 : Nat → Nat → Int32) (x1 : Int32) (x2 : Int32) (sz : Nat) (z : Int32 × (Nat → Int32) × (Nat → Int32)) (hf : fX7_set w0 x1 x2 = some z) : Met l yX7_set (wsM yX7_set cX7_set 4 (some .int)) ({ frames := 1, cells := 0, slots := 0, locals := 22 } : Room) (va_Pc [.ref (h0 0), .int x1, .int x2] (pWR (dC, dI) vwCl [(cy, .int)] (zW_7 cy h0 w0) sz)) (va_Qi (fun (q : Int32) (v : (Nat → Int32) × (Nat → Int32)) => (q, v) = z) (fun v => aWR (dC, dI) vwCl [(cy, .int)] (va_A (zW_7 cy h0 w0) sz) (zW_7 cy h0 (ups (ups w0 3 v.1) 28 v.2))) (va_A (zW_7 cy h0 w0) sz)) 0 0 (va_A (zW_7 cy h0 w0) sz) := by
  refine Met.ofW (cc := cX7_set) (maxL := 4) (ret := (some .int)) (by decide) rfl ?_
  intro p e s m args below meth c s₁ B hml hv
  obtain ⟨ha, hsz, hP, hK, hD0, hG⟩ := hv
  have hx := B.exec
  have hb := B.bytes
  have hr := B.returns
  have hts : ∀ w ∈ wsA, w.before args s = true := fun w h => atoms_spec (ws := wsM yX7_set cX7_set 4 (some .int)) B.pre w (List.mem_cons_of_mem _ h)
  have hown : s.vm.findClass RX7 = some m.cls := findClass_of_methodNamed B.named
  have hlocks := B.notSynchronized
  subst hsz
  have hD := hD0.self (sz := s.heap.size)
  generalize hAe : va_A (zW_7 cy h0 w0) s.heap.size = A at hD hG ⊢
  have hA : ∀ q : Nat, s.heap.size ≤ q → A q := fun q h => by rw [← hAe]; exact Or.inr h
  have hS : va_S A s.heap s.heap [] := va_S.rf
  have hP : va_P (dC, dI) vwCl (zW_7 cy h0 (ups (ups w0 3 (w0 3)) 28 (w0 28))) s.heap := hP
  have hD : va_D A (zW_7 cy h0 (ups (ups w0 3 (w0 3)) 28 (w0 28))) := hD
  have k10 : ∀ (c0_3 : (Nat → Int32)) (c0_28 : (Nat → Int32)) (H : Heap) (locs : List Loc) (ls : Array Slot), va_P (dC, dI) vwCl (zW_7 cy h0 (ups (ups w0 3 c0_3) 28 c0_28)) H → va_D A (zW_7 cy h0 (ups (ups w0 3 c0_3) 28 c0_28)) → va_S A s.heap H locs → lv_has ls 4 [(0, .ref (h0 0))] → (fX7_set_10 w0) c0_3 c0_28 = some z → W p l e ({ frames := 1, cells := 0, slots := 0, locals := 22 } : Room) s m args below meth c H locs 0 0 (MQ below (va_Qi (fun (q : Int32) (v : (Nat → Int32) × (Nat → Int32)) => (q, v) = z) (fun v => aWR (dC, dI) vwCl [(cy, .int)] A (zW_7 cy h0 (ups (ups w0 3 v.1) 28 v.2))) A) args s 0 0 A) (F0 m 10 ls []) := by
    intro c0_3 c0_28 H locs ls hP hD hS hl hf
    unfold fX7_set_10 at hf
    refine lv_aload_n hx hb dX7_set_10 rfl (lv_at hl 0 rfl) ?_
    refine lv_bipush (v := (-2 : Int32)) hx hb dX7_set_11 (by decide) ?_
    obtain ⟨r2, u3, hq1, hf⟩ := ob2_d hf
    refine zwiV (q := (RX7, TX7, 10)) (As := [.int (-2 : Int32)]) (rest := []) (r := r2) (u := u3) (wn := (zW_7 cy h0 (ups (ups w0 3 c0_3) 28 u3))) ⟨hx, hb, hml, hown, hts⟩ (kX7_refuse l dC dI cy h0 (ups (ups w0 3 c0_3) 28 c0_28) (-2 : Int32) H.size (r2, u3) hq1) mw_165 mw_166 mw_883 mw_1 mw_167 hdX7_refuse rfl rfl ⟨Nat.le_of_ble_eq_true rfl, Nat.le_of_ble_eq_true rfl⟩ hP hK hG hS 0 rfl rfl hD hA [0, 1, 2, 3, 4, 5, 6, 7, 8, 9, 10, 11, 12, 13, 14, 15, 16, 17, 18, 19, 20, 21, 22, 23, 24, 25, 26, 27, 28] [] [0, 1, 2, 3, 4, 5, 6, 7, 8, 9, 10, 11, 12, 13, 14, 15, 16, 17, 18, 19, 20, 21, 22, 23, 24, 25, 26, 27, 28] rfl rfl rfl rfl (by decide) rfl rfl rfl hl.1 rfl (Nat.le_of_ble_eq_true rfl) dX7_set_13 ⟨Nat.zero_le _, Nat.zero_le _⟩ (fun H locs hP hD hS => ?_)
    exact zretI hx hb hr hlocks hP hK hD hS hf rfl dX7_set_16
  obtain ⟨ls, hl, he⟩ := zent (m := m) (n := 4) (L := [(0, .ref (h0 0)), (1, .int x1), (2, .int x2)]) ha (Nat.le_of_ble_eq_true rfl) rfl
  refine W.eq he ?_
  unfold fX7_set at hf
  have kE : ∀ (H : Heap) (locs : List Loc), va_P (dC, dI) vwCl (zW_7 cy h0 (ups (ups w0 3 (w0 3)) 28 (w0 28))) H → va_D A (zW_7 cy h0 (ups (ups w0 3 (w0 3)) 28 (w0 28))) → va_S A s.heap H locs → W p l e ({ frames := 1, cells := 0, slots := 0, locals := 22 } : Room) s m args below meth c H locs 0 0 (MQ below (va_Qi (fun (q : Int32) (v : (Nat → Int32) × (Nat → Int32)) => (q, v) = z) (fun v => aWR (dC, dI) vwCl [(cy, .int)] A (zW_7 cy h0 (ups (ups w0 3 v.1) 28 v.2))) A) args s 0 0 A) (F0 m 0 ls []) := by
    intro H locs hP hD hS
    refine lv_iload_n hx hb dX7_set_0 rfl (lv_at hl 1 rfl) ?_
    refine lv_if_lt (tgt := 10) hx hb dX7_set_1 (by decide) (fun hc => ?_) (fun hc => ?_)
    · have hf := it_t hc hf
      exact k10 (w0 3) (w0 28) H locs ls hP hD hS (lv_sub hl [0] rfl) hf
    · have hf := it_f hc hf
      refine lv_iload_n hx hb dX7_set_4 rfl (lv_at hl 1 rfl) ?_
      refine lv_bipush (v := (7 : Int32)) hx hb dX7_set_5 (by decide) ?_
      refine lv_icmp_lt (tgt := 17) hx hb dX7_set_7 (by decide) (fun hc => ?_) (fun hc => ?_)
      · have hf := it_t hc hf
        refine lv_iload_n hx hb dX7_set_17 rfl (lv_at hl 2 rfl) ?_
        obtain ⟨t4, hZ4, hT4⟩ := hG.2.2.1
        refine va_gets hx hb hZ4 hS hown (hts _ mw_220) (fun _ h => h) dX7_set_18 ?_
        refine lv_iload_n hx hb dX7_set_21 rfl (lv_at hl 1 rfl) ?_
        obtain ⟨r6, hq5, hf⟩ := ob1_d hf
        refine zroTS (As := [.ref t4, .int x1]) (rest := [.int x2]) (r := r6) ⟨hx, hb, hml, hown, hts⟩ (kX7_valueAt_s l t4 7 sLEAST_SETTING x1 r6 hq5) mw_221 mw_184 mw_1 mw_185 hdX7_valueAt rfl rfl ⟨Nat.le_of_ble_eq_true rfl, Nat.le_of_ble_eq_true rfl⟩ hT4 hS rfl hl.1 rfl (Nat.le_of_ble_eq_true rfl) dX7_set_22 ⟨Nat.zero_le _, Nat.zero_le _⟩ ?_
        refine lv_icmp_ge (tgt := 35) hx hb dX7_set_25 (by decide) (fun hc => ?_) (fun hc => ?_)
        · have hf := it_t hc hf
          refine lv_iload_n hx hb dX7_set_35 rfl (lv_at hl 2 rfl) ?_
          obtain ⟨t7, hZ7, hT7⟩ := hG.2.2.2.1
          refine va_gets hx hb hZ7 hS hown (hts _ mw_222) (fun _ h => h) dX7_set_36 ?_
          refine lv_iload_n hx hb dX7_set_39 rfl (lv_at hl 1 rfl) ?_
          obtain ⟨r9, hq8, hf⟩ := ob1_d hf
          refine zroTS (As := [.ref t7, .int x1]) (rest := [.int x2]) (r := r9) ⟨hx, hb, hml, hown, hts⟩ (kX7_valueAt_s l t7 7 sGREATEST_SETTING x1 r9 hq8) mw_221 mw_184 mw_1 mw_185 hdX7_valueAt rfl rfl ⟨Nat.le_of_ble_eq_true rfl, Nat.le_of_ble_eq_true rfl⟩ hT7 hS rfl hl.1 rfl (Nat.le_of_ble_eq_true rfl) dX7_set_40 ⟨Nat.zero_le _, Nat.zero_le _⟩ ?_
          refine lv_icmp_le (tgt := 53) hx hb dX7_set_43 (by decide) (fun hc => ?_) (fun hc => ?_)
          · have hf := it_t hc hf
            refine lv_aload_n hx hb dX7_set_53 rfl (lv_at hl 0 rfl) ?_
            refine zget hx hb hts hown hK hP hin_7 0 rfl rfl 1 (by decide) mw_142 (v := .ref (h0 3)) rfl dX7_set_54 ?_
            refine lv_iload_n hx hb dX7_set_57 rfl (lv_at hl 1 rfl) ?_
            obtain ⟨r11, hq10, hf⟩ := ob1_d hf
            refine zroV (q := (RX6, TX6, 10)) (As := [.int x1]) (rest := []) (r := r11) ⟨hx, hb, hml, hown, hts⟩ (kX6_setting l dC dI cy (sh 3 h0) (sh 3 (ups w0 3 (w0 3))) x1 r11 hq10) mw_223 mw_224 mw_225 mw_3 mw_226 hdX6_setting rfl rfl ⟨Nat.le_of_ble_eq_true rfl, Nat.le_of_ble_eq_true rfl⟩ hP hK hG hS 3 rfl rfl [3, 4, 5, 6, 7, 8, 9, 10, 11] rfl rfl hl.1 rfl (Nat.le_of_ble_eq_true rfl) dX7_set_58 ⟨Nat.zero_le _, Nat.zero_le _⟩ ?_
            refine lv_istore_n (lv' := [(3, .int r11), (0, .ref (h0 0)), (1, .int x1), (2, .int x2)]) hx hb dX7_set_61 rfl hl (by decide) rfl (fun ls hl => ?_)
            refine lv_aload_n hx hb dX7_set_62 rfl (lv_at hl 1 rfl) ?_
            refine zget hx hb hts hown hK hP hin_7 0 rfl rfl 1 (by decide) mw_142 (v := .ref (h0 3)) rfl dX7_set_63 ?_
            refine lv_iload_n hx hb dX7_set_66 rfl (lv_at hl 2 rfl) ?_
            refine lv_iload_n hx hb dX7_set_67 rfl (lv_at hl 3 rfl) ?_
            obtain ⟨u13, hq12, hf⟩ := ob1_d hf
            refine zwvV (q := (RX6, TX6, 10)) (As := [.int x1, .int x2]) (rest := []) (u := u13) (wn := (zW_7 cy h0 (ups (ups w0 3 u13) 28 (w0 28)))) ⟨hx, hb, hml, hown, hts⟩ (kX6_change l dC dI cy (sh 3 h0) (sh 3 (ups w0 3 (w0 3))) x1 x2 H.size u13 hq12) mw_227 mw_228 mw_229 mw_3 mw_230 hdX6_change rfl rfl ⟨Nat.le_of_ble_eq_true rfl, Nat.le_of_ble_eq_true rfl⟩ hP hK hG hS 3 rfl rfl hD hA [3, 4, 5, 6, 7, 8, 9, 10, 11] [0, 1, 2, 12, 13, 14, 15, 16, 17, 18, 19, 20, 21, 22, 23, 24, 25, 26, 27, 28] [0, 1, 2, 20, 21, 22, 23, 24, 25, 26, 27, 28, 3, 4, 5, 6, 7, 8, 9, 10, 11, 12, 13, 14, 15, 16, 17, 18, 19] rfl rfl rfl rfl (by decide) rfl rfl rfl hl.1 rfl (Nat.le_of_ble_eq_true rfl) dX7_set_68 ⟨Nat.zero_le _, Nat.zero_le _⟩ (fun H locs hP hD hS => ?_)
            refine lv_iload_n hx hb dX7_set_71 rfl (lv_at hl 0 rfl) ?_
            exact zretI hx hb hr hlocks hP hK hD hS hf rfl dX7_set_72
          · have hf := it_f hc hf
            refine lv_aload_n hx hb dX7_set_46 rfl (lv_at hl 0 rfl) ?_
            refine lv_bipush (v := (-6 : Int32)) hx hb dX7_set_47 (by decide) ?_
            obtain ⟨r15, u16, hq14, hf⟩ := ob2_d hf
            refine zwiV (q := (RX7, TX7, 10)) (As := [.int (-6 : Int32)]) (rest := []) (r := r15) (u := u16) (wn := (zW_7 cy h0 (ups (ups w0 3 (w0 3)) 28 u16))) ⟨hx, hb, hml, hown, hts⟩ (kX7_refuse l dC dI cy h0 (ups (ups w0 3 (w0 3)) 28 (w0 28)) (-6 : Int32) H.size (r15, u16) hq14) mw_165 mw_166 mw_883 mw_1 mw_167 hdX7_refuse rfl rfl ⟨Nat.le_of_ble_eq_true rfl, Nat.le_of_ble_eq_true rfl⟩ hP hK hG hS 0 rfl rfl hD hA [0, 1, 2, 3, 4, 5, 6, 7, 8, 9, 10, 11, 12, 13, 14, 15, 16, 17, 18, 19, 20, 21, 22, 23, 24, 25, 26, 27, 28] [] [0, 1, 2, 3, 4, 5, 6, 7, 8, 9, 10, 11, 12, 13, 14, 15, 16, 17, 18, 19, 20, 21, 22, 23, 24, 25, 26, 27, 28] rfl rfl rfl rfl (by decide) rfl rfl rfl hl.1 rfl (Nat.le_of_ble_eq_true rfl) dX7_set_49 ⟨Nat.zero_le _, Nat.zero_le _⟩ (fun H locs hP hD hS => ?_)
            exact zretI hx hb hr hlocks hP hK hD hS hf rfl dX7_set_52
        · have hf := it_f hc hf
          refine lv_aload_n hx hb dX7_set_28 rfl (lv_at hl 0 rfl) ?_
          refine lv_bipush (v := (-4 : Int32)) hx hb dX7_set_29 (by decide) ?_
          obtain ⟨r18, u19, hq17, hf⟩ := ob2_d hf
          refine zwiV (q := (RX7, TX7, 10)) (As := [.int (-4 : Int32)]) (rest := []) (r := r18) (u := u19) (wn := (zW_7 cy h0 (ups (ups w0 3 (w0 3)) 28 u19))) ⟨hx, hb, hml, hown, hts⟩ (kX7_refuse l dC dI cy h0 (ups (ups w0 3 (w0 3)) 28 (w0 28)) (-4 : Int32) H.size (r18, u19) hq17) mw_165 mw_166 mw_883 mw_1 mw_167 hdX7_refuse rfl rfl ⟨Nat.le_of_ble_eq_true rfl, Nat.le_of_ble_eq_true rfl⟩ hP hK hG hS 0 rfl rfl hD hA [0, 1, 2, 3, 4, 5, 6, 7, 8, 9, 10, 11, 12, 13, 14, 15, 16, 17, 18, 19, 20, 21, 22, 23, 24, 25, 26, 27, 28] [] [0, 1, 2, 3, 4, 5, 6, 7, 8, 9, 10, 11, 12, 13, 14, 15, 16, 17, 18, 19, 20, 21, 22, 23, 24, 25, 26, 27, 28] rfl rfl rfl rfl (by decide) rfl rfl rfl hl.1 rfl (Nat.le_of_ble_eq_true rfl) dX7_set_31 ⟨Nat.zero_le _, Nat.zero_le _⟩ (fun H locs hP hD hS => ?_)
          exact zretI hx hb hr hlocks hP hK hD hS hf rfl dX7_set_34
      · have hf := it_f hc hf
        exact k10 (w0 3) (w0 28) H locs ls hP hD hS (lv_sub hl [0] rfl) hf
  exact kE s.heap [] hP hD hS
set_option maxHeartbeats 4000000 in
set_option maxRecDepth 100000 in
theorem kX7_wind (l : Launch) (dC : Nat → ClassId) (dI : Nat → Nat → Nat) (cy : ClassId) (h0 : Nat → Nat) (w0 : Nat → Nat → Int32) (x1 : Int32) (x2 : Int32) (sz : Nat) (z : Int32 × (Nat → Int32) × (Nat → Int32) × (Nat → Int32) × (Nat → Int32)) (hf : fX7_wind w0 x1 x2 = some z) : Met l yX7_wind (wsM yX7_wind cX7_wind 3 (some .int)) ({ frames := 1, cells := 0, slots := 0, locals := 22 } : Room) (va_Pc [.ref (h0 0), .int x1, .int x2] (pWR (dC, dI) vwCl [(cy, .int)] (zW_7 cy h0 w0) sz)) (va_Qi (fun (q : Int32) (v : (Nat → Int32) × (Nat → Int32) × (Nat → Int32) × (Nat → Int32)) => (q, v) = z) (fun v => aWR (dC, dI) vwCl [(cy, .int)] (va_A (zW_7 cy h0 w0) sz) (zW_7 cy h0 (ups (ups (ups (ups w0 6 v.1) 7 v.2.1) 8 v.2.2.1) 28 v.2.2.2))) (va_A (zW_7 cy h0 w0) sz)) 0 0 (va_A (zW_7 cy h0 w0) sz) := by
  refine Met.ofW (cc := cX7_wind) (maxL := 3) (ret := (some .int)) (by decide) rfl ?_
  intro p e s m args below meth c s₁ B hml hv
  obtain ⟨ha, hsz, hP, hK, hD0, hG⟩ := hv
  have hx := B.exec
  have hb := B.bytes
  have hr := B.returns
  have hts : ∀ w ∈ wsA, w.before args s = true := fun w h => atoms_spec (ws := wsM yX7_wind cX7_wind 3 (some .int)) B.pre w (List.mem_cons_of_mem _ h)
  have hown : s.vm.findClass RX7 = some m.cls := findClass_of_methodNamed B.named
  have hlocks := B.notSynchronized
  subst hsz
  have hD := hD0.self (sz := s.heap.size)
  generalize hAe : va_A (zW_7 cy h0 w0) s.heap.size = A at hD hG ⊢
  have hA : ∀ q : Nat, s.heap.size ≤ q → A q := fun q h => by rw [← hAe]; exact Or.inr h
  have hS : va_S A s.heap s.heap [] := va_S.rf
  have hP : va_P (dC, dI) vwCl (zW_7 cy h0 (ups (ups (ups (ups w0 6 (w0 6)) 7 (w0 7)) 8 (w0 8)) 28 (w0 28))) s.heap := hP
  have hD : va_D A (zW_7 cy h0 (ups (ups (ups (ups w0 6 (w0 6)) 7 (w0 7)) 8 (w0 8)) 28 (w0 28))) := hD
  have k44 : ∀ (c0_6 : (Nat → Int32)) (c0_7 : (Nat → Int32)) (c0_8 : (Nat → Int32)) (c0_28 : (Nat → Int32)) (H : Heap) (locs : List Loc) (ls : Array Slot), va_P (dC, dI) vwCl (zW_7 cy h0 (ups (ups (ups (ups w0 6 c0_6) 7 c0_7) 8 c0_8) 28 c0_28)) H → va_D A (zW_7 cy h0 (ups (ups (ups (ups w0 6 c0_6) 7 c0_7) 8 c0_8) 28 c0_28)) → va_S A s.heap H locs → lv_has ls 3 [(0, .ref (h0 0))] → (fX7_wind_44 w0) c0_6 c0_7 c0_8 c0_28 = some z → W p l e ({ frames := 1, cells := 0, slots := 0, locals := 22 } : Room) s m args below meth c H locs 0 0 (MQ below (va_Qi (fun (q : Int32) (v : (Nat → Int32) × (Nat → Int32) × (Nat → Int32) × (Nat → Int32)) => (q, v) = z) (fun v => aWR (dC, dI) vwCl [(cy, .int)] A (zW_7 cy h0 (ups (ups (ups (ups w0 6 v.1) 7 v.2.1) 8 v.2.2.1) 28 v.2.2.2))) A) args s 0 0 A) (F0 m 44 ls []) := by
    intro c0_6 c0_7 c0_8 c0_28 H locs ls hP hD hS hl hf
    unfold fX7_wind_44 at hf
    refine lv_aload_n hx hb dX7_wind_44 rfl (lv_at hl 0 rfl) ?_
    refine lv_bipush (v := (-6 : Int32)) hx hb dX7_wind_45 (by decide) ?_
    obtain ⟨r4, u5, hq3, hf⟩ := ob2_d hf
    refine zwiV (q := (RX7, TX7, 10)) (As := [.int (-6 : Int32)]) (rest := []) (r := r4) (u := u5) (wn := (zW_7 cy h0 (ups (ups (ups (ups w0 6 c0_6) 7 c0_7) 8 c0_8) 28 u5))) ⟨hx, hb, hml, hown, hts⟩ (kX7_refuse l dC dI cy h0 (ups (ups (ups (ups w0 6 c0_6) 7 c0_7) 8 c0_8) 28 c0_28) (-6 : Int32) H.size (r4, u5) hq3) mw_165 mw_166 mw_883 mw_1 mw_167 hdX7_refuse rfl rfl ⟨Nat.le_of_ble_eq_true rfl, Nat.le_of_ble_eq_true rfl⟩ hP hK hG hS 0 rfl rfl hD hA [0, 1, 2, 3, 4, 5, 6, 7, 8, 9, 10, 11, 12, 13, 14, 15, 16, 17, 18, 19, 20, 21, 22, 23, 24, 25, 26, 27, 28] [] [0, 1, 2, 3, 4, 5, 6, 7, 8, 9, 10, 11, 12, 13, 14, 15, 16, 17, 18, 19, 20, 21, 22, 23, 24, 25, 26, 27, 28] rfl rfl rfl rfl (by decide) rfl rfl rfl hl.1 rfl (Nat.le_of_ble_eq_true rfl) dX7_wind_47 ⟨Nat.zero_le _, Nat.zero_le _⟩ (fun H locs hP hD hS => ?_)
    exact zretI hx hb hr hlocks hP hK hD hS hf rfl dX7_wind_50
  obtain ⟨ls, hl, he⟩ := zent (m := m) (n := 3) (L := [(0, .ref (h0 0)), (1, .int x1), (2, .int x2)]) ha (Nat.le_of_ble_eq_true rfl) rfl
  refine W.eq he ?_
  unfold fX7_wind at hf
  have kE : ∀ (H : Heap) (locs : List Loc), va_P (dC, dI) vwCl (zW_7 cy h0 (ups (ups (ups (ups w0 6 (w0 6)) 7 (w0 7)) 8 (w0 8)) 28 (w0 28))) H → va_D A (zW_7 cy h0 (ups (ups (ups (ups w0 6 (w0 6)) 7 (w0 7)) 8 (w0 8)) 28 (w0 28))) → va_S A s.heap H locs → W p l e ({ frames := 1, cells := 0, slots := 0, locals := 22 } : Room) s m args below meth c H locs 0 0 (MQ below (va_Qi (fun (q : Int32) (v : (Nat → Int32) × (Nat → Int32) × (Nat → Int32) × (Nat → Int32)) => (q, v) = z) (fun v => aWR (dC, dI) vwCl [(cy, .int)] A (zW_7 cy h0 (ups (ups (ups (ups w0 6 v.1) 7 v.2.1) 8 v.2.2.1) 28 v.2.2.2))) A) args s 0 0 A) (F0 m 0 ls []) := by
    intro H locs hP hD hS
    refine lv_iload_n hx hb dX7_wind_0 rfl (lv_at hl 2 rfl) ?_
    obtain ⟨r2, hq1, hf⟩ := ob1_d hf
    refine zroS (As := [.int x2]) (rest := []) (r := r2) ⟨hx, hb, hml, hown, hts⟩ (kX7_isDirection l dC dI cy x2 r2 hq1) mw_235 mw_236 mw_1 mw_237 hdX7_isDirection rfl rfl ⟨Nat.le_of_ble_eq_true rfl, Nat.le_of_ble_eq_true rfl⟩ hP hK hG hS [] rfl rfl hl.1 rfl (Nat.le_of_ble_eq_true rfl) dX7_wind_1 ⟨Nat.zero_le _, Nat.zero_le _⟩ ?_
    refine lv_if_ne (tgt := 13) hx hb dX7_wind_4 (by decide) (fun hc => ?_) (fun hc => ?_)
    · have hf := it_f hc hf
      refine lv_iload_n hx hb dX7_wind_13 rfl (lv_at hl 1 rfl) ?_
      refine lv_if_ge (tgt := 24) hx hb dX7_wind_14 (by decide) (fun hc => ?_) (fun hc => ?_)
      · have hf := it_t hc hf
        refine lv_iload_n hx hb dX7_wind_24 rfl (lv_at hl 1 rfl) ?_
        refine lv_sipush (v := (999 : Int32)) hx hb dX7_wind_25 (by decide) ?_
        refine lv_icmp_gt (tgt := 44) hx hb dX7_wind_28 (by decide) (fun hc => ?_) (fun hc => ?_)
        · have hf := it_t hc hf
          exact k44 (w0 6) (w0 7) (w0 8) (w0 28) H locs ls hP hD hS (lv_sub hl [0] rfl) hf
        · have hf := it_f hc hf
          refine lv_aload_n hx hb dX7_wind_31 rfl (lv_at hl 0 rfl) ?_
          refine zget hx hb hts hown hK hP hin_7 0 rfl rfl 1 (by decide) mw_142 (v := .ref (h0 3)) rfl dX7_wind_32 ?_
          refine zgetN hx hb hts hG hown hK hP hin_6 3 rfl rfl 1 (by decide) (host := "Embayed") (List.mem_of_getElem? (i := 29) rfl) (v := .ref (h0 6)) rfl dX7_wind_35 ?_
          obtain ⟨r7, hq6, hf⟩ := ob1_d hf
          refine zroV (q := (RX0, TX0, 3)) (As := []) (rest := []) (r := r7) ⟨hx, hb, hml, hown, hts⟩ (kX0_isFull l dC dI cy (sh 6 h0) (sh 6 (ups (ups (ups w0 6 (w0 6)) 7 (w0 7)) 8 (w0 8))) r7 hq6) mw_238 mw_239 mw_240 mw_5 mw_241 hdX0_isFull rfl rfl ⟨Nat.le_of_ble_eq_true rfl, Nat.le_of_ble_eq_true rfl⟩ hP hK hG hS 6 rfl rfl [6, 7, 8] rfl rfl hl.1 rfl (Nat.le_of_ble_eq_true rfl) dX7_wind_38 ⟨Nat.zero_le _, Nat.zero_le _⟩ ?_
          refine lv_if_eq (tgt := 51) hx hb dX7_wind_41 (by decide) (fun hc => ?_) (fun hc => ?_)
          · have hf := it_t hc hf
            refine lv_aload_n hx hb dX7_wind_51 rfl (lv_at hl 0 rfl) ?_
            refine zget hx hb hts hown hK hP hin_7 0 rfl rfl 1 (by decide) mw_142 (v := .ref (h0 3)) rfl dX7_wind_52 ?_
            refine zgetN hx hb hts hG hown hK hP hin_6 3 rfl rfl 1 (by decide) (host := "Embayed") (List.mem_of_getElem? (i := 29) rfl) (v := .ref (h0 6)) rfl dX7_wind_55 ?_
            refine lv_iload_n hx hb dX7_wind_58 rfl (lv_at hl 1 rfl) ?_
            refine lv_iload_n hx hb dX7_wind_59 rfl (lv_at hl 2 rfl) ?_
            obtain ⟨r9, u10, u11, u12, hq8, hf⟩ := ob4_d hf
            refine zwiV (q := (RX0, TX0, 3)) (As := [.int x1, .int x2]) (rest := []) (r := r9) (u := (u10, u11, u12)) (wn := (zW_7 cy h0 (ups (ups (ups (ups w0 6 u10) 7 u11) 8 u12) 28 (w0 28)))) ⟨hx, hb, hml, hown, hts⟩ (kX0_tell l dC dI cy (sh 6 h0) (sh 6 (ups (ups (ups w0 6 (w0 6)) 7 (w0 7)) 8 (w0 8))) x1 x2 H.size (r9, u10, u11, u12) hq8) mw_242 mw_243 mw_244 mw_5 mw_245 hdX0_tell rfl rfl ⟨Nat.le_of_ble_eq_true rfl, Nat.le_of_ble_eq_true rfl⟩ hP hK hG hS 6 rfl rfl hD hA [6, 7, 8] [0, 1, 2, 3, 4, 5, 9, 10, 11, 12, 13, 14, 15, 16, 17, 18, 19, 20, 21, 22, 23, 24, 25, 26, 27, 28] [0, 1, 2, 3, 4, 5, 26, 27, 28, 6, 7, 8, 9, 10, 11, 12, 13, 14, 15, 16, 17, 18, 19, 20, 21, 22, 23, 24, 25] rfl rfl rfl rfl (by decide) rfl rfl rfl hl.1 rfl (Nat.le_of_ble_eq_true rfl) dX7_wind_60 ⟨Nat.zero_le _, Nat.zero_le _⟩ (fun H locs hP hD hS => ?_)
            exact zretI hx hb hr hlocks hP hK hD hS hf rfl dX7_wind_63
          · have hf := it_f hc hf
            exact k44 (w0 6) (w0 7) (w0 8) (w0 28) H locs ls hP hD hS (lv_sub hl [0] rfl) hf
      · have hf := it_f hc hf
        refine lv_aload_n hx hb dX7_wind_17 rfl (lv_at hl 0 rfl) ?_
        refine lv_bipush (v := (-4 : Int32)) hx hb dX7_wind_18 (by decide) ?_
        obtain ⟨r14, u15, hq13, hf⟩ := ob2_d hf
        refine zwiV (q := (RX7, TX7, 10)) (As := [.int (-4 : Int32)]) (rest := []) (r := r14) (u := u15) (wn := (zW_7 cy h0 (ups (ups (ups (ups w0 6 (w0 6)) 7 (w0 7)) 8 (w0 8)) 28 u15))) ⟨hx, hb, hml, hown, hts⟩ (kX7_refuse l dC dI cy h0 (ups (ups (ups (ups w0 6 (w0 6)) 7 (w0 7)) 8 (w0 8)) 28 (w0 28)) (-4 : Int32) H.size (r14, u15) hq13) mw_165 mw_166 mw_883 mw_1 mw_167 hdX7_refuse rfl rfl ⟨Nat.le_of_ble_eq_true rfl, Nat.le_of_ble_eq_true rfl⟩ hP hK hG hS 0 rfl rfl hD hA [0, 1, 2, 3, 4, 5, 6, 7, 8, 9, 10, 11, 12, 13, 14, 15, 16, 17, 18, 19, 20, 21, 22, 23, 24, 25, 26, 27, 28] [] [0, 1, 2, 3, 4, 5, 6, 7, 8, 9, 10, 11, 12, 13, 14, 15, 16, 17, 18, 19, 20, 21, 22, 23, 24, 25, 26, 27, 28] rfl rfl rfl rfl (by decide) rfl rfl rfl hl.1 rfl (Nat.le_of_ble_eq_true rfl) dX7_wind_20 ⟨Nat.zero_le _, Nat.zero_le _⟩ (fun H locs hP hD hS => ?_)
        exact zretI hx hb hr hlocks hP hK hD hS hf rfl dX7_wind_23
    · have hf := it_t hc hf
      refine lv_aload_n hx hb dX7_wind_7 rfl (lv_at hl 0 rfl) ?_
      refine lv_iconst (v := (-1 : Int32)) hx hb dX7_wind_8 (by decide) ?_
      obtain ⟨r17, u18, hq16, hf⟩ := ob2_d hf
      refine zwiV (q := (RX7, TX7, 10)) (As := [.int (-1 : Int32)]) (rest := []) (r := r17) (u := u18) (wn := (zW_7 cy h0 (ups (ups (ups (ups w0 6 (w0 6)) 7 (w0 7)) 8 (w0 8)) 28 u18))) ⟨hx, hb, hml, hown, hts⟩ (kX7_refuse l dC dI cy h0 (ups (ups (ups (ups w0 6 (w0 6)) 7 (w0 7)) 8 (w0 8)) 28 (w0 28)) (-1 : Int32) H.size (r17, u18) hq16) mw_165 mw_166 mw_883 mw_1 mw_167 hdX7_refuse rfl rfl ⟨Nat.le_of_ble_eq_true rfl, Nat.le_of_ble_eq_true rfl⟩ hP hK hG hS 0 rfl rfl hD hA [0, 1, 2, 3, 4, 5, 6, 7, 8, 9, 10, 11, 12, 13, 14, 15, 16, 17, 18, 19, 20, 21, 22, 23, 24, 25, 26, 27, 28] [] [0, 1, 2, 3, 4, 5, 6, 7, 8, 9, 10, 11, 12, 13, 14, 15, 16, 17, 18, 19, 20, 21, 22, 23, 24, 25, 26, 27, 28] rfl rfl rfl rfl (by decide) rfl rfl rfl hl.1 rfl (Nat.le_of_ble_eq_true rfl) dX7_wind_9 ⟨Nat.zero_le _, Nat.zero_le _⟩ (fun H locs hP hD hS => ?_)
      exact zretI hx hb hr hlocks hP hK hD hS hf rfl dX7_wind_12
  exact kE s.heap [] hP hD hS
set_option maxHeartbeats 4000000 in
set_option maxRecDepth 100000 in
theorem kX7_tide (l : Launch) (dC : Nat → ClassId) (dI : Nat → Nat → Nat) (cy : ClassId) (h0 : Nat → Nat) (w0 : Nat → Nat → Int32) (x1 : Int32) (x2 : Int32) (sz : Nat) (z : Int32 × (Nat → Int32) × (Nat → Int32) × (Nat → Int32) × (Nat → Int32)) (hf : fX7_tide w0 x1 x2 = some z) : Met l yX7_tide (wsM yX7_tide cX7_tide 3 (some .int)) ({ frames := 1, cells := 0, slots := 0, locals := 22 } : Room) (va_Pc [.ref (h0 0), .int x1, .int x2] (pWR (dC, dI) vwCl [(cy, .int)] (zW_7 cy h0 w0) sz)) (va_Qi (fun (q : Int32) (v : (Nat → Int32) × (Nat → Int32) × (Nat → Int32) × (Nat → Int32)) => (q, v) = z) (fun v => aWR (dC, dI) vwCl [(cy, .int)] (va_A (zW_7 cy h0 w0) sz) (zW_7 cy h0 (ups (ups (ups (ups w0 9 v.1) 10 v.2.1) 11 v.2.2.1) 28 v.2.2.2))) (va_A (zW_7 cy h0 w0) sz)) 0 0 (va_A (zW_7 cy h0 w0) sz) := by
  refine Met.ofW (cc := cX7_tide) (maxL := 3) (ret := (some .int)) (by decide) rfl ?_
  intro p e s m args below meth c s₁ B hml hv
  obtain ⟨ha, hsz, hP, hK, hD0, hG⟩ := hv
  have hx := B.exec
  have hb := B.bytes
  have hr := B.returns
  have hts : ∀ w ∈ wsA, w.before args s = true := fun w h => atoms_spec (ws := wsM yX7_tide cX7_tide 3 (some .int)) B.pre w (List.mem_cons_of_mem _ h)
  have hown : s.vm.findClass RX7 = some m.cls := findClass_of_methodNamed B.named
  have hlocks := B.notSynchronized
  subst hsz
  have hD := hD0.self (sz := s.heap.size)
  generalize hAe : va_A (zW_7 cy h0 w0) s.heap.size = A at hD hG ⊢
  have hA : ∀ q : Nat, s.heap.size ≤ q → A q := fun q h => by rw [← hAe]; exact Or.inr h
  have hS : va_S A s.heap s.heap [] := va_S.rf
  have hP : va_P (dC, dI) vwCl (zW_7 cy h0 (ups (ups (ups (ups w0 9 (w0 9)) 10 (w0 10)) 11 (w0 11)) 28 (w0 28))) s.heap := hP
  have hD : va_D A (zW_7 cy h0 (ups (ups (ups (ups w0 9 (w0 9)) 10 (w0 10)) 11 (w0 11)) 28 (w0 28))) := hD
  have k8 : ∀ (c0_9 : (Nat → Int32)) (c0_10 : (Nat → Int32)) (c0_11 : (Nat → Int32)) (c0_28 : (Nat → Int32)) (H : Heap) (locs : List Loc) (ls : Array Slot), va_P (dC, dI) vwCl (zW_7 cy h0 (ups (ups (ups (ups w0 9 c0_9) 10 c0_10) 11 c0_11) 28 c0_28)) H → va_D A (zW_7 cy h0 (ups (ups (ups (ups w0 9 c0_9) 10 c0_10) 11 c0_11) 28 c0_28)) → va_S A s.heap H locs → lv_has ls 3 [(0, .ref (h0 0))] → (fX7_tide_8 w0) c0_9 c0_10 c0_11 c0_28 = some z → W p l e ({ frames := 1, cells := 0, slots := 0, locals := 22 } : Room) s m args below meth c H locs 0 0 (MQ below (va_Qi (fun (q : Int32) (v : (Nat → Int32) × (Nat → Int32) × (Nat → Int32) × (Nat → Int32)) => (q, v) = z) (fun v => aWR (dC, dI) vwCl [(cy, .int)] A (zW_7 cy h0 (ups (ups (ups (ups w0 9 v.1) 10 v.2.1) 11 v.2.2.1) 28 v.2.2.2))) A) args s 0 0 A) (F0 m 8 ls []) := by
    intro c0_9 c0_10 c0_11 c0_28 H locs ls hP hD hS hl hf
    unfold fX7_tide_8 at hf
    refine lv_aload_n hx hb dX7_tide_8 rfl (lv_at hl 0 rfl) ?_
    refine lv_bipush (v := (-4 : Int32)) hx hb dX7_tide_9 (by decide) ?_
    obtain ⟨r2, u3, hq1, hf⟩ := ob2_d hf
    refine zwiV (q := (RX7, TX7, 10)) (As := [.int (-4 : Int32)]) (rest := []) (r := r2) (u := u3) (wn := (zW_7 cy h0 (ups (ups (ups (ups w0 9 c0_9) 10 c0_10) 11 c0_11) 28 u3))) ⟨hx, hb, hml, hown, hts⟩ (kX7_refuse l dC dI cy h0 (ups (ups (ups (ups w0 9 c0_9) 10 c0_10) 11 c0_11) 28 c0_28) (-4 : Int32) H.size (r2, u3) hq1) mw_165 mw_166 mw_883 mw_1 mw_167 hdX7_refuse rfl rfl ⟨Nat.le_of_ble_eq_true rfl, Nat.le_of_ble_eq_true rfl⟩ hP hK hG hS 0 rfl rfl hD hA [0, 1, 2, 3, 4, 5, 6, 7, 8, 9, 10, 11, 12, 13, 14, 15, 16, 17, 18, 19, 20, 21, 22, 23, 24, 25, 26, 27, 28] [] [0, 1, 2, 3, 4, 5, 6, 7, 8, 9, 10, 11, 12, 13, 14, 15, 16, 17, 18, 19, 20, 21, 22, 23, 24, 25, 26, 27, 28] rfl rfl rfl rfl (by decide) rfl rfl rfl hl.1 rfl (Nat.le_of_ble_eq_true rfl) dX7_tide_11 ⟨Nat.zero_le _, Nat.zero_le _⟩ (fun H locs hP hD hS => ?_)
    exact zretI hx hb hr hlocks hP hK hD hS hf rfl dX7_tide_14
  have k40 : ∀ (c0_9 : (Nat → Int32)) (c0_10 : (Nat → Int32)) (c0_11 : (Nat → Int32)) (c0_28 : (Nat → Int32)) (H : Heap) (locs : List Loc) (ls : Array Slot), va_P (dC, dI) vwCl (zW_7 cy h0 (ups (ups (ups (ups w0 9 c0_9) 10 c0_10) 11 c0_11) 28 c0_28)) H → va_D A (zW_7 cy h0 (ups (ups (ups (ups w0 9 c0_9) 10 c0_10) 11 c0_11) 28 c0_28)) → va_S A s.heap H locs → lv_has ls 3 [(0, .ref (h0 0))] → (fX7_tide_40 w0) c0_9 c0_10 c0_11 c0_28 = some z → W p l e ({ frames := 1, cells := 0, slots := 0, locals := 22 } : Room) s m args below meth c H locs 0 0 (MQ below (va_Qi (fun (q : Int32) (v : (Nat → Int32) × (Nat → Int32) × (Nat → Int32) × (Nat → Int32)) => (q, v) = z) (fun v => aWR (dC, dI) vwCl [(cy, .int)] A (zW_7 cy h0 (ups (ups (ups (ups w0 9 v.1) 10 v.2.1) 11 v.2.2.1) 28 v.2.2.2))) A) args s 0 0 A) (F0 m 40 ls []) := by
    intro c0_9 c0_10 c0_11 c0_28 H locs ls hP hD hS hl hf
    unfold fX7_tide_40 at hf
    refine lv_aload_n hx hb dX7_tide_40 rfl (lv_at hl 0 rfl) ?_
    refine lv_bipush (v := (-6 : Int32)) hx hb dX7_tide_41 (by decide) ?_
    obtain ⟨r5, u6, hq4, hf⟩ := ob2_d hf
    refine zwiV (q := (RX7, TX7, 10)) (As := [.int (-6 : Int32)]) (rest := []) (r := r5) (u := u6) (wn := (zW_7 cy h0 (ups (ups (ups (ups w0 9 c0_9) 10 c0_10) 11 c0_11) 28 u6))) ⟨hx, hb, hml, hown, hts⟩ (kX7_refuse l dC dI cy h0 (ups (ups (ups (ups w0 9 c0_9) 10 c0_10) 11 c0_11) 28 c0_28) (-6 : Int32) H.size (r5, u6) hq4) mw_165 mw_166 mw_883 mw_1 mw_167 hdX7_refuse rfl rfl ⟨Nat.le_of_ble_eq_true rfl, Nat.le_of_ble_eq_true rfl⟩ hP hK hG hS 0 rfl rfl hD hA [0, 1, 2, 3, 4, 5, 6, 7, 8, 9, 10, 11, 12, 13, 14, 15, 16, 17, 18, 19, 20, 21, 22, 23, 24, 25, 26, 27, 28] [] [0, 1, 2, 3, 4, 5, 6, 7, 8, 9, 10, 11, 12, 13, 14, 15, 16, 17, 18, 19, 20, 21, 22, 23, 24, 25, 26, 27, 28] rfl rfl rfl rfl (by decide) rfl rfl rfl hl.1 rfl (Nat.le_of_ble_eq_true rfl) dX7_tide_43 ⟨Nat.zero_le _, Nat.zero_le _⟩ (fun H locs hP hD hS => ?_)
    exact zretI hx hb hr hlocks hP hK hD hS hf rfl dX7_tide_46
  obtain ⟨ls, hl, he⟩ := zent (m := m) (n := 3) (L := [(0, .ref (h0 0)), (1, .int x1), (2, .int x2)]) ha (Nat.le_of_ble_eq_true rfl) rfl
  refine W.eq he ?_
  unfold fX7_tide at hf
  have kE : ∀ (H : Heap) (locs : List Loc), va_P (dC, dI) vwCl (zW_7 cy h0 (ups (ups (ups (ups w0 9 (w0 9)) 10 (w0 10)) 11 (w0 11)) 28 (w0 28))) H → va_D A (zW_7 cy h0 (ups (ups (ups (ups w0 9 (w0 9)) 10 (w0 10)) 11 (w0 11)) 28 (w0 28))) → va_S A s.heap H locs → W p l e ({ frames := 1, cells := 0, slots := 0, locals := 22 } : Room) s m args below meth c H locs 0 0 (MQ below (va_Qi (fun (q : Int32) (v : (Nat → Int32) × (Nat → Int32) × (Nat → Int32) × (Nat → Int32)) => (q, v) = z) (fun v => aWR (dC, dI) vwCl [(cy, .int)] A (zW_7 cy h0 (ups (ups (ups (ups w0 9 v.1) 10 v.2.1) 11 v.2.2.1) 28 v.2.2.2))) A) args s 0 0 A) (F0 m 0 ls []) := by
    intro H locs hP hD hS
    refine lv_iload_n hx hb dX7_tide_0 rfl (lv_at hl 1 rfl) ?_
    refine lv_if_lt (tgt := 8) hx hb dX7_tide_1 (by decide) (fun hc => ?_) (fun hc => ?_)
    · have hf := it_t hc hf
      exact k8 (w0 9) (w0 10) (w0 11) (w0 28) H locs ls hP hD hS (lv_sub hl [0] rfl) hf
    · have hf := it_f hc hf
      refine lv_iload_n hx hb dX7_tide_4 rfl (lv_at hl 2 rfl) ?_
      refine lv_if_ge (tgt := 15) hx hb dX7_tide_5 (by decide) (fun hc => ?_) (fun hc => ?_)
      · have hf := it_t hc hf
        refine lv_iload_n hx hb dX7_tide_15 rfl (lv_at hl 1 rfl) ?_
        refine lv_sipush (v := (999 : Int32)) hx hb dX7_tide_16 (by decide) ?_
        refine lv_icmp_gt (tgt := 40) hx hb dX7_tide_19 (by decide) (fun hc => ?_) (fun hc => ?_)
        · have hf := it_t hc hf
          exact k40 (w0 9) (w0 10) (w0 11) (w0 28) H locs ls hP hD hS (lv_sub hl [0] rfl) hf
        · have hf := it_f hc hf
          refine lv_iload_n hx hb dX7_tide_22 rfl (lv_at hl 2 rfl) ?_
          refine lv_iconst (v := (5 : Int32)) hx hb dX7_tide_23 (by decide) ?_
          refine lv_icmp_gt (tgt := 40) hx hb dX7_tide_24 (by decide) (fun hc => ?_) (fun hc => ?_)
          · have hf := it_t hc hf
            exact k40 (w0 9) (w0 10) (w0 11) (w0 28) H locs ls hP hD hS (lv_sub hl [0] rfl) hf
          · have hf := it_f hc hf
            refine lv_aload_n hx hb dX7_tide_27 rfl (lv_at hl 0 rfl) ?_
            refine zget hx hb hts hown hK hP hin_7 0 rfl rfl 1 (by decide) mw_142 (v := .ref (h0 3)) rfl dX7_tide_28 ?_
            refine zgetN hx hb hts hG hown hK hP hin_6 3 rfl rfl 2 (by decide) (host := "Embayed") (List.mem_of_getElem? (i := 31) rfl) (v := .ref (h0 9)) rfl dX7_tide_31 ?_
            obtain ⟨r8, hq7, hf⟩ := ob1_d hf
            refine zroV (q := (RX0, TX0, 3)) (As := []) (rest := []) (r := r8) ⟨hx, hb, hml, hown, hts⟩ (kX0_isFull l dC dI cy (sh 9 h0) (sh 9 (ups (ups (ups w0 9 (w0 9)) 10 (w0 10)) 11 (w0 11))) r8 hq7) mw_238 mw_239 mw_240 mw_5 mw_241 hdX0_isFull rfl rfl ⟨Nat.le_of_ble_eq_true rfl, Nat.le_of_ble_eq_true rfl⟩ hP hK hG hS 9 rfl rfl [9, 10, 11] rfl rfl hl.1 rfl (Nat.le_of_ble_eq_true rfl) dX7_tide_34 ⟨Nat.zero_le _, Nat.zero_le _⟩ ?_
            refine lv_if_eq (tgt := 47) hx hb dX7_tide_37 (by decide) (fun hc => ?_) (fun hc => ?_)
            · have hf := it_t hc hf
              refine lv_aload_n hx hb dX7_tide_47 rfl (lv_at hl 0 rfl) ?_
              refine zget hx hb hts hown hK hP hin_7 0 rfl rfl 1 (by decide) mw_142 (v := .ref (h0 3)) rfl dX7_tide_48 ?_
              refine zgetN hx hb hts hG hown hK hP hin_6 3 rfl rfl 2 (by decide) (host := "Embayed") (List.mem_of_getElem? (i := 31) rfl) (v := .ref (h0 9)) rfl dX7_tide_51 ?_
              refine lv_iload_n hx hb dX7_tide_54 rfl (lv_at hl 1 rfl) ?_
              refine lv_iload_n hx hb dX7_tide_55 rfl (lv_at hl 2 rfl) ?_
              obtain ⟨r10, u11, u12, u13, hq9, hf⟩ := ob4_d hf
              refine zwiV (q := (RX0, TX0, 3)) (As := [.int x1, .int x2]) (rest := []) (r := r10) (u := (u11, u12, u13)) (wn := (zW_7 cy h0 (ups (ups (ups (ups w0 9 u11) 10 u12) 11 u13) 28 (w0 28)))) ⟨hx, hb, hml, hown, hts⟩ (kX0_tell l dC dI cy (sh 9 h0) (sh 9 (ups (ups (ups w0 9 (w0 9)) 10 (w0 10)) 11 (w0 11))) x1 x2 H.size (r10, u11, u12, u13) hq9) mw_242 mw_243 mw_244 mw_5 mw_245 hdX0_tell rfl rfl ⟨Nat.le_of_ble_eq_true rfl, Nat.le_of_ble_eq_true rfl⟩ hP hK hG hS 9 rfl rfl hD hA [9, 10, 11] [0, 1, 2, 3, 4, 5, 6, 7, 8, 12, 13, 14, 15, 16, 17, 18, 19, 20, 21, 22, 23, 24, 25, 26, 27, 28] [0, 1, 2, 3, 4, 5, 6, 7, 8, 26, 27, 28, 9, 10, 11, 12, 13, 14, 15, 16, 17, 18, 19, 20, 21, 22, 23, 24, 25] rfl rfl rfl rfl (by decide) rfl rfl rfl hl.1 rfl (Nat.le_of_ble_eq_true rfl) dX7_tide_56 ⟨Nat.zero_le _, Nat.zero_le _⟩ (fun H locs hP hD hS => ?_)
              exact zretI hx hb hr hlocks hP hK hD hS hf rfl dX7_tide_59
            · have hf := it_f hc hf
              exact k40 (w0 9) (w0 10) (w0 11) (w0 28) H locs ls hP hD hS (lv_sub hl [0] rfl) hf
      · have hf := it_f hc hf
        exact k8 (w0 9) (w0 10) (w0 11) (w0 28) H locs ls hP hD hS (lv_sub hl [0] rfl) hf
  exact kE s.heap [] hP hD hS
set_option maxHeartbeats 4000000 in
set_option maxRecDepth 100000 in
theorem kX7_lays (l : Launch) (dC : Nat → ClassId) (dI : Nat → Nat → Nat) (cy : ClassId) (h0 : Nat → Nat) (w0 : Nat → Nat → Int32) (x1 : Int32) (sz : Nat) (z : Int32 × (Nat → Int32) × (Nat → Int32)) (hf : fX7_lays w0 x1 = some z) : Met l yX7_lays (wsM yX7_lays cX7_lays 2 (some .int)) ({ frames := 2, cells := 0, slots := 0, locals := 45 } : Room) (va_Pc [.ref (h0 0), .int x1] (pWR (dC, dI) vwCl [(cy, .int)] (zW_7 cy h0 w0) sz)) (va_Qi (fun (q : Int32) (v : (Nat → Int32) × (Nat → Int32)) => (q, v) = z) (fun v => aWR (dC, dI) vwCl [(cy, .int)] (va_A (zW_7 cy h0 w0) sz) (zW_7 cy h0 (ups (ups w0 12 v.1) 28 v.2))) (va_A (zW_7 cy h0 w0) sz)) 0 0 (va_A (zW_7 cy h0 w0) sz) := by
  refine Met.ofW (cc := cX7_lays) (maxL := 2) (ret := (some .int)) (by decide) rfl ?_
  intro p e s m args below meth c s₁ B hml hv
  obtain ⟨ha, hsz, hP, hK, hD0, hG⟩ := hv
  have hx := B.exec
  have hb := B.bytes
  have hr := B.returns
  have hts : ∀ w ∈ wsA, w.before args s = true := fun w h => atoms_spec (ws := wsM yX7_lays cX7_lays 2 (some .int)) B.pre w (List.mem_cons_of_mem _ h)
  have hown : s.vm.findClass RX7 = some m.cls := findClass_of_methodNamed B.named
  have hlocks := B.notSynchronized
  subst hsz
  have hD := hD0.self (sz := s.heap.size)
  generalize hAe : va_A (zW_7 cy h0 w0) s.heap.size = A at hD hG ⊢
  have hA : ∀ q : Nat, s.heap.size ≤ q → A q := fun q h => by rw [← hAe]; exact Or.inr h
  have hS : va_S A s.heap s.heap [] := va_S.rf
  have hP : va_P (dC, dI) vwCl (zW_7 cy h0 (ups (ups w0 12 (w0 12)) 28 (w0 28))) s.heap := hP
  have hD : va_D A (zW_7 cy h0 (ups (ups w0 12 (w0 12)) 28 (w0 28))) := hD
  obtain ⟨ls, hl, he⟩ := zent (m := m) (n := 2) (L := [(0, .ref (h0 0)), (1, .int x1)]) ha (Nat.le_of_ble_eq_true rfl) rfl
  refine W.eq he ?_
  unfold fX7_lays at hf
  have kE : ∀ (H : Heap) (locs : List Loc), va_P (dC, dI) vwCl (zW_7 cy h0 (ups (ups w0 12 (w0 12)) 28 (w0 28))) H → va_D A (zW_7 cy h0 (ups (ups w0 12 (w0 12)) 28 (w0 28))) → va_S A s.heap H locs → W p l e ({ frames := 2, cells := 0, slots := 0, locals := 45 } : Room) s m args below meth c H locs 0 0 (MQ below (va_Qi (fun (q : Int32) (v : (Nat → Int32) × (Nat → Int32)) => (q, v) = z) (fun v => aWR (dC, dI) vwCl [(cy, .int)] A (zW_7 cy h0 (ups (ups w0 12 v.1) 28 v.2))) A) args s 0 0 A) (F0 m 0 ls []) := by
    intro H locs hP hD hS
    refine lv_aload_n hx hb dX7_lays_0 rfl (lv_at hl 0 rfl) ?_
    refine zget hx hb hts hown hK hP hin_7 0 rfl rfl 1 (by decide) mw_142 (v := .ref (h0 3)) rfl dX7_lays_1 ?_
    refine zgetN hx hb hts hG hown hK hP hin_6 3 rfl rfl 0 (by decide) (host := "Embayed") (List.mem_of_getElem? (i := 26) rfl) (v := .ref (h0 4)) rfl dX7_lays_4 ?_
    refine lv_iload_n hx hb dX7_lays_7 rfl (lv_at hl 1 rfl) ?_
    obtain ⟨r2, hq1, hf⟩ := ob1_d hf
    refine zroV (q := (RX1, TX1, 3)) (As := [.int x1]) (rest := []) (r := r2) ⟨hx, hb, hml, hown, hts⟩ (kX1_has l dC dI cy (sh 4 h0) (sh 4 w0) x1 r2 hq1) mw_208 mw_209 mw_210 mw_4 mw_211 hdX1_has rfl rfl ⟨Nat.le_of_ble_eq_true rfl, Nat.le_of_ble_eq_true rfl⟩ hP hK hG hS 4 rfl rfl [4, 5] rfl rfl hl.1 rfl (Nat.le_of_ble_eq_true rfl) dX7_lays_8 ⟨Nat.zero_le _, Nat.zero_le _⟩ ?_
    refine lv_if_ne (tgt := 20) hx hb dX7_lays_11 (by decide) (fun hc => ?_) (fun hc => ?_)
    · have hf := it_f hc hf
      refine lv_aload_n hx hb dX7_lays_20 rfl (lv_at hl 0 rfl) ?_
      refine zget hx hb hts hown hK hP hin_7 0 rfl rfl 1 (by decide) mw_142 (v := .ref (h0 3)) rfl dX7_lays_21 ?_
      refine lv_iload_n hx hb dX7_lays_24 rfl (lv_at hl 1 rfl) ?_
      obtain ⟨r4, hq3, hf⟩ := ob1_d hf
      refine zroV (q := (RX6, TX6, 10)) (As := [.int x1]) (rest := []) (r := r4) ⟨hx, hb, hml, hown, hts⟩ (kX6_floatsAt l dC dI cy (sh 3 h0) (sh 3 w0) x1 r4 hq3) mw_254 mw_255 mw_256 mw_3 mw_257 hdX6_floatsAt rfl rfl ⟨Nat.le_of_ble_eq_true rfl, Nat.le_of_ble_eq_true rfl⟩ hP hK hG hS 3 rfl rfl [3, 4, 5, 6, 7, 8, 9, 10, 11] rfl rfl hl.1 rfl (Nat.le_of_ble_eq_true rfl) dX7_lays_25 ⟨Nat.zero_le _, Nat.zero_le _⟩ ?_
      refine lv_if_ne (tgt := 38) hx hb dX7_lays_28 (by decide) (fun hc => ?_) (fun hc => ?_)
      · have hf := it_f hc hf
        refine lv_aload_n hx hb dX7_lays_38 rfl (lv_at hl 0 rfl) ?_
        refine zget hx hb hts hown hK hP hin_7 0 rfl rfl 2 (by decide) mw_143 (v := .ref (h0 12)) rfl dX7_lays_39 ?_
        refine lv_iload_n hx hb dX7_lays_42 rfl (lv_at hl 1 rfl) ?_
        obtain ⟨u6, hq5, hf⟩ := ob1_d hf
        refine zwvV (q := (RX5, TX5, 17)) (As := [.int x1]) (rest := []) (u := u6) (wn := (zW_7 cy h0 (ups (ups w0 12 u6) 28 (w0 28)))) ⟨hx, hb, hml, hown, hts⟩ (kX5_layIn l dC dI cy (h0 12) (w0 12) x1 H.size u6 hq5) mw_262 mw_87 mw_88 mw_6 mw_89 hdX5_layIn rfl rfl ⟨Nat.le_of_ble_eq_true rfl, Nat.le_of_ble_eq_true rfl⟩ hP hK hG hS 12 rfl rfl hD hA [12] [0, 1, 2, 3, 4, 5, 6, 7, 8, 9, 10, 11, 13, 14, 15, 16, 17, 18, 19, 20, 21, 22, 23, 24, 25, 26, 27, 28] [0, 1, 2, 3, 4, 5, 6, 7, 8, 9, 10, 11, 28, 12, 13, 14, 15, 16, 17, 18, 19, 20, 21, 22, 23, 24, 25, 26, 27] rfl rfl rfl rfl (by decide) rfl rfl rfl hl.1 rfl (Nat.le_of_ble_eq_true rfl) dX7_lays_43 ⟨Nat.zero_le _, Nat.zero_le _⟩ (fun H locs hP hD hS => ?_)
        refine lv_aload_n hx hb dX7_lays_46 rfl (lv_at hl 0 rfl) ?_
        refine zget hx hb hts hown hK hP hin_7 0 rfl rfl 2 (by decide) mw_143 (v := .ref (h0 12)) rfl dX7_lays_47 ?_
        refine lv_aload_n hx hb dX7_lays_50 rfl (lv_at hl 0 rfl) ?_
        refine zget hx hb hts hown hK hP hin_7 0 rfl rfl 2 (by decide) mw_143 (v := .ref (h0 12)) rfl dX7_lays_51 ?_
        refine lv_aload_n hx hb dX7_lays_54 rfl (lv_at hl 0 rfl) ?_
        refine zget hx hb hts hown hK hP hin_7 0 rfl rfl 1 (by decide) mw_142 (v := .ref (h0 3)) rfl dX7_lays_55 ?_
        obtain ⟨r8, hq7, hf⟩ := ob1_d hf
        refine zroV (q := (RX5, TX5, 17)) (As := [.ref (h0 3)]) (rest := [.ref (h0 12)]) (r := r8) ⟨hx, hb, hml, hown, hts⟩ (kX5_windIn l dC dI cy (h0 12) u6 (sh 3 h0) (sh 3 w0) r8 hq7) mw_263 mw_264 mw_265 mw_6 mw_266 hdX5_windIn rfl rfl ⟨Nat.le_of_ble_eq_true rfl, Nat.le_of_ble_eq_true rfl⟩ hP hK hG hS 12 rfl rfl [12, 3, 4, 5, 6, 7, 8, 9, 10, 11] rfl rfl hl.1 rfl (Nat.le_of_ble_eq_true rfl) dX7_lays_58 ⟨Nat.zero_le _, Nat.zero_le _⟩ ?_
        obtain ⟨r10, hq9, hf⟩ := ob1_d hf
        refine zroS (As := [.int r8]) (rest := [.ref (h0 12)]) (r := r10) ⟨hx, hb, hml, hown, hts⟩ (kX7_leeOf l dC dI cy r8 r10 hq9) mw_273 mw_274 mw_1 mw_275 hdX7_leeOf rfl rfl ⟨Nat.le_of_ble_eq_true rfl, Nat.le_of_ble_eq_true rfl⟩ hP hK hG hS [] rfl rfl hl.1 rfl (Nat.le_of_ble_eq_true rfl) dX7_lays_61 ⟨Nat.zero_le _, Nat.zero_le _⟩ ?_
        refine zputN hx hb hts hG hown hK hP hD hS hin_5 tyX5 tyX5_ok nmX5 12 rfl rfl 2 (by decide) (host := "Embayed") (List.mem_of_getElem? (i := 45) rfl) rfl (v := .int r10) rfl rfl (Nat.le_of_ble_eq_true rfl) (wn := (zW_7 cy h0 (ups (ups w0 12 (ups u6 2 r10)) 28 (w0 28)))) rfl dX7_lays_64 (fun H locs hP hD hS => ?_)
        refine lv_aload_n hx hb dX7_lays_67 rfl (lv_at hl 0 rfl) ?_
        refine zget hx hb hts hown hK hP hin_7 0 rfl rfl 2 (by decide) mw_143 (v := .ref (h0 12)) rfl dX7_lays_68 ?_
        refine zgetN hx hb hts hG hown hK hP hin_5 12 rfl rfl 2 (by decide) (host := "Embayed") (List.mem_of_getElem? (i := 45) rfl) (v := .int r10) rfl dX7_lays_71 ?_
        exact zretI hx hb hr hlocks hP hK hD hS hf rfl dX7_lays_74
      · have hf := it_t hc hf
        refine lv_aload_n hx hb dX7_lays_31 rfl (lv_at hl 0 rfl) ?_
        refine lv_bipush (v := (-3 : Int32)) hx hb dX7_lays_32 (by decide) ?_
        obtain ⟨r12, u13, hq11, hf⟩ := ob2_d hf
        refine zwiV (q := (RX7, TX7, 10)) (As := [.int (-3 : Int32)]) (rest := []) (r := r12) (u := u13) (wn := (zW_7 cy h0 (ups (ups w0 12 (w0 12)) 28 u13))) ⟨hx, hb, hml, hown, hts⟩ (kX7_refuse l dC dI cy h0 (ups (ups w0 12 (w0 12)) 28 (w0 28)) (-3 : Int32) H.size (r12, u13) hq11) mw_165 mw_166 mw_883 mw_1 mw_167 hdX7_refuse rfl rfl ⟨Nat.le_of_ble_eq_true rfl, Nat.le_of_ble_eq_true rfl⟩ hP hK hG hS 0 rfl rfl hD hA [0, 1, 2, 3, 4, 5, 6, 7, 8, 9, 10, 11, 12, 13, 14, 15, 16, 17, 18, 19, 20, 21, 22, 23, 24, 25, 26, 27, 28] [] [0, 1, 2, 3, 4, 5, 6, 7, 8, 9, 10, 11, 12, 13, 14, 15, 16, 17, 18, 19, 20, 21, 22, 23, 24, 25, 26, 27, 28] rfl rfl rfl rfl (by decide) rfl rfl rfl hl.1 rfl (Nat.le_of_ble_eq_true rfl) dX7_lays_34 ⟨Nat.zero_le _, Nat.zero_le _⟩ (fun H locs hP hD hS => ?_)
        exact zretI hx hb hr hlocks hP hK hD hS hf rfl dX7_lays_37
    · have hf := it_t hc hf
      refine lv_aload_n hx hb dX7_lays_14 rfl (lv_at hl 0 rfl) ?_
      refine lv_iconst (v := (-1 : Int32)) hx hb dX7_lays_15 (by decide) ?_
      obtain ⟨r15, u16, hq14, hf⟩ := ob2_d hf
      refine zwiV (q := (RX7, TX7, 10)) (As := [.int (-1 : Int32)]) (rest := []) (r := r15) (u := u16) (wn := (zW_7 cy h0 (ups (ups w0 12 (w0 12)) 28 u16))) ⟨hx, hb, hml, hown, hts⟩ (kX7_refuse l dC dI cy h0 (ups (ups w0 12 (w0 12)) 28 (w0 28)) (-1 : Int32) H.size (r15, u16) hq14) mw_165 mw_166 mw_883 mw_1 mw_167 hdX7_refuse rfl rfl ⟨Nat.le_of_ble_eq_true rfl, Nat.le_of_ble_eq_true rfl⟩ hP hK hG hS 0 rfl rfl hD hA [0, 1, 2, 3, 4, 5, 6, 7, 8, 9, 10, 11, 12, 13, 14, 15, 16, 17, 18, 19, 20, 21, 22, 23, 24, 25, 26, 27, 28] [] [0, 1, 2, 3, 4, 5, 6, 7, 8, 9, 10, 11, 12, 13, 14, 15, 16, 17, 18, 19, 20, 21, 22, 23, 24, 25, 26, 27, 28] rfl rfl rfl rfl (by decide) rfl rfl rfl hl.1 rfl (Nat.le_of_ble_eq_true rfl) dX7_lays_16 ⟨Nat.zero_le _, Nat.zero_le _⟩ (fun H locs hP hD hS => ?_)
      exact zretI hx hb hr hlocks hP hK hD hS hf rfl dX7_lays_19
  exact kE s.heap [] hP hD hS
set_option maxHeartbeats 4000000 in
set_option maxRecDepth 100000 in
theorem kX7_now (l : Launch) (dC : Nat → ClassId) (dI : Nat → Nat → Nat) (cy : ClassId) (h0 : Nat → Nat) (w0 : Nat → Nat → Int32) (x1 : Int32) (sz : Nat) (z : Int32 × (Nat → Int32)) (hf : fX7_now w0 x1 = some z) : Met l yX7_now (wsM yX7_now cX7_now 2 (some .int)) ({ frames := 3, cells := 0, slots := 0, locals := 66 } : Room) (va_Pc [.ref (h0 0), .int x1] (pWR (dC, dI) vwCl [(cy, .int)] (zW_7 cy h0 w0) sz)) (va_Qi (fun (q : Int32) (v : (Nat → Int32)) => (q, v) = z) (fun v => aWR (dC, dI) vwCl [(cy, .int)] (va_A (zW_7 cy h0 w0) sz) (zW_7 cy h0 (ups w0 28 v))) (va_A (zW_7 cy h0 w0) sz)) 0 0 (va_A (zW_7 cy h0 w0) sz) := by
  refine Met.ofW (cc := cX7_now) (maxL := 2) (ret := (some .int)) (by decide) rfl ?_
  intro p e s m args below meth c s₁ B hml hv
  obtain ⟨ha, hsz, hP, hK, hD0, hG⟩ := hv
  have hx := B.exec
  have hb := B.bytes
  have hr := B.returns
  have hts : ∀ w ∈ wsA, w.before args s = true := fun w h => atoms_spec (ws := wsM yX7_now cX7_now 2 (some .int)) B.pre w (List.mem_cons_of_mem _ h)
  have hown : s.vm.findClass RX7 = some m.cls := findClass_of_methodNamed B.named
  have hlocks := B.notSynchronized
  subst hsz
  have hD := hD0.self (sz := s.heap.size)
  generalize hAe : va_A (zW_7 cy h0 w0) s.heap.size = A at hD hG ⊢
  have hA : ∀ q : Nat, s.heap.size ≤ q → A q := fun q h => by rw [← hAe]; exact Or.inr h
  have hS : va_S A s.heap s.heap [] := va_S.rf
  have hP : va_P (dC, dI) vwCl (zW_7 cy h0 (ups w0 28 (w0 28))) s.heap := hP
  have hD : va_D A (zW_7 cy h0 (ups w0 28 (w0 28))) := hD
  have k10 : ∀ (c0_28 : (Nat → Int32)) (H : Heap) (locs : List Loc) (ls : Array Slot), va_P (dC, dI) vwCl (zW_7 cy h0 (ups w0 28 c0_28)) H → va_D A (zW_7 cy h0 (ups w0 28 c0_28)) → va_S A s.heap H locs → lv_has ls 2 [(0, .ref (h0 0))] → (fX7_now_10 w0) c0_28 = some z → W p l e ({ frames := 3, cells := 0, slots := 0, locals := 66 } : Room) s m args below meth c H locs 0 0 (MQ below (va_Qi (fun (q : Int32) (v : (Nat → Int32)) => (q, v) = z) (fun v => aWR (dC, dI) vwCl [(cy, .int)] A (zW_7 cy h0 (ups w0 28 v))) A) args s 0 0 A) (F0 m 10 ls []) := by
    intro c0_28 H locs ls hP hD hS hl hf
    unfold fX7_now_10 at hf
    refine lv_aload_n hx hb dX7_now_10 rfl (lv_at hl 0 rfl) ?_
    refine lv_bipush (v := (-2 : Int32)) hx hb dX7_now_11 (by decide) ?_
    obtain ⟨r2, u3, hq1, hf⟩ := ob2_d hf
    refine zwiV (q := (RX7, TX7, 10)) (As := [.int (-2 : Int32)]) (rest := []) (r := r2) (u := u3) (wn := (zW_7 cy h0 (ups w0 28 u3))) ⟨hx, hb, hml, hown, hts⟩ (kX7_refuse l dC dI cy h0 (ups w0 28 c0_28) (-2 : Int32) H.size (r2, u3) hq1) mw_165 mw_166 mw_883 mw_1 mw_167 hdX7_refuse rfl rfl ⟨Nat.le_of_ble_eq_true rfl, Nat.le_of_ble_eq_true rfl⟩ hP hK hG hS 0 rfl rfl hD hA [0, 1, 2, 3, 4, 5, 6, 7, 8, 9, 10, 11, 12, 13, 14, 15, 16, 17, 18, 19, 20, 21, 22, 23, 24, 25, 26, 27, 28] [] [0, 1, 2, 3, 4, 5, 6, 7, 8, 9, 10, 11, 12, 13, 14, 15, 16, 17, 18, 19, 20, 21, 22, 23, 24, 25, 26, 27, 28] rfl rfl rfl rfl (by decide) rfl rfl rfl hl.1 rfl (Nat.le_of_ble_eq_true rfl) dX7_now_13 ⟨Nat.zero_le _, Nat.zero_le _⟩ (fun H locs hP hD hS => ?_)
    exact zretI hx hb hr hlocks hP hK hD hS hf rfl dX7_now_16
  obtain ⟨ls, hl, he⟩ := zent (m := m) (n := 2) (L := [(0, .ref (h0 0)), (1, .int x1)]) ha (Nat.le_of_ble_eq_true rfl) rfl
  refine W.eq he ?_
  unfold fX7_now at hf
  have kE : ∀ (H : Heap) (locs : List Loc), va_P (dC, dI) vwCl (zW_7 cy h0 (ups w0 28 (w0 28))) H → va_D A (zW_7 cy h0 (ups w0 28 (w0 28))) → va_S A s.heap H locs → W p l e ({ frames := 3, cells := 0, slots := 0, locals := 66 } : Room) s m args below meth c H locs 0 0 (MQ below (va_Qi (fun (q : Int32) (v : (Nat → Int32)) => (q, v) = z) (fun v => aWR (dC, dI) vwCl [(cy, .int)] A (zW_7 cy h0 (ups w0 28 v))) A) args s 0 0 A) (F0 m 0 ls []) := by
    intro H locs hP hD hS
    refine lv_iload_n hx hb dX7_now_0 rfl (lv_at hl 1 rfl) ?_
    refine lv_if_lt (tgt := 10) hx hb dX7_now_1 (by decide) (fun hc => ?_) (fun hc => ?_)
    · have hf := it_t hc hf
      exact k10 (w0 28) H locs ls hP hD hS (lv_sub hl [0] rfl) hf
    · have hf := it_f hc hf
      refine lv_iload_n hx hb dX7_now_4 rfl (lv_at hl 1 rfl) ?_
      refine lv_bipush (v := (13 : Int32)) hx hb dX7_now_5 (by decide) ?_
      refine lv_icmp_le (tgt := 17) hx hb dX7_now_7 (by decide) (fun hc => ?_) (fun hc => ?_)
      · have hf := it_t hc hf
        refine lv_aload_n hx hb dX7_now_17 rfl (lv_at hl 0 rfl) ?_
        refine zget hx hb hts hown hK hP hin_7 0 rfl rfl 2 (by decide) mw_143 (v := .ref (h0 12)) rfl dX7_now_18 ?_
        refine zgetN hx hb hts hG hown hK hP hin_5 12 rfl rfl 0 (by decide) (host := "Embayed") (List.mem_of_getElem? (i := 42) rfl) (v := .int (w0 12 0)) rfl dX7_now_21 ?_
        refine lv_if_ne (tgt := 34) hx hb dX7_now_24 (by decide) (fun hc => ?_) (fun hc => ?_)
        · have hf := it_f hc hf
          refine lv_iload_n hx hb dX7_now_34 rfl (lv_at hl 1 rfl) ?_
          by_cases hsw0 : x1 = (0 : Int32)
          · have hf := it_t hsw0 hf
            refine lv_tableIn (tgt := 100) (off := 65) hx hb dX7_now_35 (by rw [hsw0]; decide) (by rw [hsw0]; decide) (by rw [hsw0]; rfl) (by decide) ?_
            refine lv_aload_n hx hb dX7_now_100 rfl (lv_at hl 0 rfl) ?_
            refine zget hx hb hts hown hK hP hin_7 0 rfl rfl 2 (by decide) mw_143 (v := .ref (h0 12)) rfl dX7_now_101 ?_
            refine zgetN hx hb hts hG hown hK hP hin_5 12 rfl rfl 1 (by decide) (host := "Embayed") (List.mem_of_getElem? (i := 44) rfl) (v := .int (w0 12 1)) rfl dX7_now_104 ?_
            exact zretI hx hb hr hlocks hP hK hD hS hf rfl dX7_now_107
          · have hf := it_f hsw0 hf
            by_cases hsw1 : x1 = (1 : Int32)
            · have hf := it_t hsw1 hf
              refine lv_tableIn (tgt := 108) (off := 73) hx hb dX7_now_35 (by rw [hsw1]; decide) (by rw [hsw1]; decide) (by rw [hsw1]; rfl) (by decide) ?_
              refine lv_aload_n hx hb dX7_now_108 rfl (lv_at hl 0 rfl) ?_
              refine zget hx hb hts hown hK hP hin_7 0 rfl rfl 2 (by decide) mw_143 (v := .ref (h0 12)) rfl dX7_now_109 ?_
              refine zgetN hx hb hts hG hown hK hP hin_5 12 rfl rfl 2 (by decide) (host := "Embayed") (List.mem_of_getElem? (i := 45) rfl) (v := .int (w0 12 2)) rfl dX7_now_112 ?_
              exact zretI hx hb hr hlocks hP hK hD hS hf rfl dX7_now_115
            · have hf := it_f hsw1 hf
              by_cases hsw2 : x1 = (2 : Int32)
              · have hf := it_t hsw2 hf
                refine lv_tableIn (tgt := 116) (off := 81) hx hb dX7_now_35 (by rw [hsw2]; decide) (by rw [hsw2]; decide) (by rw [hsw2]; rfl) (by decide) ?_
                refine lv_aload_n hx hb dX7_now_116 rfl (lv_at hl 0 rfl) ?_
                refine zget hx hb hts hown hK hP hin_7 0 rfl rfl 2 (by decide) mw_143 (v := .ref (h0 12)) rfl dX7_now_117 ?_
                refine zgetN hx hb hts hG hown hK hP hin_5 12 rfl rfl 3 (by decide) (host := "Embayed") (List.mem_of_getElem? (i := 46) rfl) (v := .int (w0 12 3)) rfl dX7_now_120 ?_
                exact zretI hx hb hr hlocks hP hK hD hS hf rfl dX7_now_123
              · have hf := it_f hsw2 hf
                by_cases hsw3 : x1 = (3 : Int32)
                · have hf := it_t hsw3 hf
                  refine lv_tableIn (tgt := 124) (off := 89) hx hb dX7_now_35 (by rw [hsw3]; decide) (by rw [hsw3]; decide) (by rw [hsw3]; rfl) (by decide) ?_
                  refine lv_aload_n hx hb dX7_now_124 rfl (lv_at hl 0 rfl) ?_
                  refine zget hx hb hts hown hK hP hin_7 0 rfl rfl 2 (by decide) mw_143 (v := .ref (h0 12)) rfl dX7_now_125 ?_
                  refine zgetN hx hb hts hG hown hK hP hin_5 12 rfl rfl 4 (by decide) (host := "Embayed") (List.mem_of_getElem? (i := 47) rfl) (v := .int (w0 12 4)) rfl dX7_now_128 ?_
                  exact zretI hx hb hr hlocks hP hK hD hS hf rfl dX7_now_131
                · have hf := it_f hsw3 hf
                  by_cases hsw4 : x1 = (4 : Int32)
                  · have hf := it_t hsw4 hf
                    refine lv_tableIn (tgt := 132) (off := 97) hx hb dX7_now_35 (by rw [hsw4]; decide) (by rw [hsw4]; decide) (by rw [hsw4]; rfl) (by decide) ?_
                    refine lv_aload_n hx hb dX7_now_132 rfl (lv_at hl 0 rfl) ?_
                    refine zget hx hb hts hown hK hP hin_7 0 rfl rfl 2 (by decide) mw_143 (v := .ref (h0 12)) rfl dX7_now_133 ?_
                    refine zgetN hx hb hts hG hown hK hP hin_5 12 rfl rfl 5 (by decide) (host := "Embayed") (List.mem_of_getElem? (i := 48) rfl) (v := .int (w0 12 5)) rfl dX7_now_136 ?_
                    exact zretI hx hb hr hlocks hP hK hD hS hf rfl dX7_now_139
                  · have hf := it_f hsw4 hf
                    by_cases hsw5 : x1 = (5 : Int32)
                    · have hf := it_t hsw5 hf
                      refine lv_tableIn (tgt := 140) (off := 105) hx hb dX7_now_35 (by rw [hsw5]; decide) (by rw [hsw5]; decide) (by rw [hsw5]; rfl) (by decide) ?_
                      refine lv_aload_n hx hb dX7_now_140 rfl (lv_at hl 0 rfl) ?_
                      refine zget hx hb hts hown hK hP hin_7 0 rfl rfl 2 (by decide) mw_143 (v := .ref (h0 12)) rfl dX7_now_141 ?_
                      refine zgetN hx hb hts hG hown hK hP hin_5 12 rfl rfl 6 (by decide) (host := "Embayed") (List.mem_of_getElem? (i := 49) rfl) (v := .int (w0 12 6)) rfl dX7_now_144 ?_
                      exact zretI hx hb hr hlocks hP hK hD hS hf rfl dX7_now_147
                    · have hf := it_f hsw5 hf
                      by_cases hsw6 : x1 = (6 : Int32)
                      · have hf := it_t hsw6 hf
                        refine lv_tableIn (tgt := 148) (off := 113) hx hb dX7_now_35 (by rw [hsw6]; decide) (by rw [hsw6]; decide) (by rw [hsw6]; rfl) (by decide) ?_
                        refine lv_aload_n hx hb dX7_now_148 rfl (lv_at hl 0 rfl) ?_
                        refine zget hx hb hts hown hK hP hin_7 0 rfl rfl 2 (by decide) mw_143 (v := .ref (h0 12)) rfl dX7_now_149 ?_
                        refine zgetN hx hb hts hG hown hK hP hin_5 12 rfl rfl 7 (by decide) (host := "Embayed") (List.mem_of_getElem? (i := 50) rfl) (v := .int (w0 12 7)) rfl dX7_now_152 ?_
                        exact zretI hx hb hr hlocks hP hK hD hS hf rfl dX7_now_155
                      · have hf := it_f hsw6 hf
                        by_cases hsw7 : x1 = (7 : Int32)
                        · have hf := it_t hsw7 hf
                          refine lv_tableIn (tgt := 156) (off := 121) hx hb dX7_now_35 (by rw [hsw7]; decide) (by rw [hsw7]; decide) (by rw [hsw7]; rfl) (by decide) ?_
                          refine lv_aload_n hx hb dX7_now_156 rfl (lv_at hl 0 rfl) ?_
                          refine zget hx hb hts hown hK hP hin_7 0 rfl rfl 2 (by decide) mw_143 (v := .ref (h0 12)) rfl dX7_now_157 ?_
                          refine zgetN hx hb hts hG hown hK hP hin_5 12 rfl rfl 8 (by decide) (host := "Embayed") (List.mem_of_getElem? (i := 51) rfl) (v := .int (w0 12 8)) rfl dX7_now_160 ?_
                          exact zretI hx hb hr hlocks hP hK hD hS hf rfl dX7_now_163
                        · have hf := it_f hsw7 hf
                          by_cases hsw8 : x1 = (8 : Int32)
                          · have hf := it_t hsw8 hf
                            refine lv_tableIn (tgt := 164) (off := 129) hx hb dX7_now_35 (by rw [hsw8]; decide) (by rw [hsw8]; decide) (by rw [hsw8]; rfl) (by decide) ?_
                            refine lv_aload_n hx hb dX7_now_164 rfl (lv_at hl 0 rfl) ?_
                            refine zget hx hb hts hown hK hP hin_7 0 rfl rfl 2 (by decide) mw_143 (v := .ref (h0 12)) rfl dX7_now_165 ?_
                            refine zgetN hx hb hts hG hown hK hP hin_5 12 rfl rfl 9 (by decide) (host := "Embayed") (List.mem_of_getElem? (i := 52) rfl) (v := .int (w0 12 9)) rfl dX7_now_168 ?_
                            exact zretI hx hb hr hlocks hP hK hD hS hf rfl dX7_now_171
                          · have hf := it_f hsw8 hf
                            by_cases hsw9 : x1 = (9 : Int32)
                            · have hf := it_t hsw9 hf
                              refine lv_tableIn (tgt := 172) (off := 137) hx hb dX7_now_35 (by rw [hsw9]; decide) (by rw [hsw9]; decide) (by rw [hsw9]; rfl) (by decide) ?_
                              refine lv_aload_n hx hb dX7_now_172 rfl (lv_at hl 0 rfl) ?_
                              refine zget hx hb hts hown hK hP hin_7 0 rfl rfl 2 (by decide) mw_143 (v := .ref (h0 12)) rfl dX7_now_173 ?_
                              refine zgetN hx hb hts hG hown hK hP hin_5 12 rfl rfl 10 (by decide) (host := "Embayed") (List.mem_of_getElem? (i := 53) rfl) (v := .int (w0 12 10)) rfl dX7_now_176 ?_
                              exact zretI hx hb hr hlocks hP hK hD hS hf rfl dX7_now_179
                            · have hf := it_f hsw9 hf
                              by_cases hsw10 : x1 = (10 : Int32)
                              · have hf := it_t hsw10 hf
                                refine lv_tableIn (tgt := 180) (off := 145) hx hb dX7_now_35 (by rw [hsw10]; decide) (by rw [hsw10]; decide) (by rw [hsw10]; rfl) (by decide) ?_
                                refine lv_aload_n hx hb dX7_now_180 rfl (lv_at hl 0 rfl) ?_
                                refine zget hx hb hts hown hK hP hin_7 0 rfl rfl 2 (by decide) mw_143 (v := .ref (h0 12)) rfl dX7_now_181 ?_
                                refine lv_aload_n hx hb dX7_now_184 rfl (lv_at hl 0 rfl) ?_
                                refine zget hx hb hts hown hK hP hin_7 0 rfl rfl 1 (by decide) mw_142 (v := .ref (h0 3)) rfl dX7_now_185 ?_
                                obtain ⟨r5, hq4, hf⟩ := ob1_d hf
                                refine zroV (q := (RX5, TX5, 17)) (As := [.ref (h0 3)]) (rest := []) (r := r5) ⟨hx, hb, hml, hown, hts⟩ (kX5_windIn l dC dI cy (h0 12) (w0 12) (sh 3 h0) (sh 3 w0) r5 hq4) mw_263 mw_264 mw_265 mw_6 mw_266 hdX5_windIn rfl rfl ⟨Nat.le_of_ble_eq_true rfl, Nat.le_of_ble_eq_true rfl⟩ hP hK hG hS 12 rfl rfl [12, 3, 4, 5, 6, 7, 8, 9, 10, 11] rfl rfl hl.1 rfl (Nat.le_of_ble_eq_true rfl) dX7_now_188 ⟨Nat.zero_le _, Nat.zero_le _⟩ ?_
                                exact zretI hx hb hr hlocks hP hK hD hS hf rfl dX7_now_191
                              · have hf := it_f hsw10 hf
                                by_cases hsw11 : x1 = (11 : Int32)
                                · have hf := it_t hsw11 hf
                                  refine lv_tableIn (tgt := 192) (off := 157) hx hb dX7_now_35 (by rw [hsw11]; decide) (by rw [hsw11]; decide) (by rw [hsw11]; rfl) (by decide) ?_
                                  refine lv_aload_n hx hb dX7_now_192 rfl (lv_at hl 0 rfl) ?_
                                  refine zget hx hb hts hown hK hP hin_7 0 rfl rfl 2 (by decide) mw_143 (v := .ref (h0 12)) rfl dX7_now_193 ?_
                                  refine lv_aload_n hx hb dX7_now_196 rfl (lv_at hl 0 rfl) ?_
                                  refine zget hx hb hts hown hK hP hin_7 0 rfl rfl 1 (by decide) mw_142 (v := .ref (h0 3)) rfl dX7_now_197 ?_
                                  obtain ⟨r7, hq6, hf⟩ := ob1_d hf
                                  refine zroV (q := (RX5, TX5, 17)) (As := [.ref (h0 3)]) (rest := []) (r := r7) ⟨hx, hb, hml, hown, hts⟩ (kX5_tideIn l dC dI cy (h0 12) (w0 12) (sh 3 h0) (sh 3 w0) r7 hq6) mw_281 mw_282 mw_283 mw_6 mw_284 hdX5_tideIn rfl rfl ⟨Nat.le_of_ble_eq_true rfl, Nat.le_of_ble_eq_true rfl⟩ hP hK hG hS 12 rfl rfl [12, 3, 4, 5, 6, 7, 8, 9, 10, 11] rfl rfl hl.1 rfl (Nat.le_of_ble_eq_true rfl) dX7_now_200 ⟨Nat.zero_le _, Nat.zero_le _⟩ ?_
                                  exact zretI hx hb hr hlocks hP hK hD hS hf rfl dX7_now_203
                                · have hf := it_f hsw11 hf
                                  by_cases hsw12 : x1 = (12 : Int32)
                                  · have hf := it_t hsw12 hf
                                    refine lv_tableIn (tgt := 204) (off := 169) hx hb dX7_now_35 (by rw [hsw12]; decide) (by rw [hsw12]; decide) (by rw [hsw12]; rfl) (by decide) ?_
                                    refine lv_aload_n hx hb dX7_now_204 rfl (lv_at hl 0 rfl) ?_
                                    refine zget hx hb hts hown hK hP hin_7 0 rfl rfl 1 (by decide) mw_142 (v := .ref (h0 3)) rfl dX7_now_205 ?_
                                    refine zgetN hx hb hts hG hown hK hP hin_6 3 rfl rfl 8 (by decide) (host := "Embayed") (List.mem_of_getElem? (i := 40) rfl) (v := .int (w0 3 8)) rfl dX7_now_208 ?_
                                    exact zretI hx hb hr hlocks hP hK hD hS hf rfl dX7_now_211
                                  · have hf := it_f hsw12 hf
                                    refine lv_tableOut (tgt := 212) hx hb dX7_now_35 (tsw_out (fun n h1 h2 => ?_)) (by decide) ?_
                                    · rcases (show n = 0 ∨ n = 1 ∨ n = 2 ∨ n = 3 ∨ n = 4 ∨ n = 5 ∨ n = 6 ∨ n = 7 ∨ n = 8 ∨ n = 9 ∨ n = 10 ∨ n = 11 ∨ n = 12 by omega) with rfl | rfl | rfl | rfl | rfl | rfl | rfl | rfl | rfl | rfl | rfl | rfl | rfl
                                      · exact ti_ne hsw0 rfl
                                      · exact ti_ne hsw1 rfl
                                      · exact ti_ne hsw2 rfl
                                      · exact ti_ne hsw3 rfl
                                      · exact ti_ne hsw4 rfl
                                      · exact ti_ne hsw5 rfl
                                      · exact ti_ne hsw6 rfl
                                      · exact ti_ne hsw7 rfl
                                      · exact ti_ne hsw8 rfl
                                      · exact ti_ne hsw9 rfl
                                      · exact ti_ne hsw10 rfl
                                      · exact ti_ne hsw11 rfl
                                      · exact ti_ne hsw12 rfl
                                    · refine lv_aload_n hx hb dX7_now_212 rfl (lv_at hl 0 rfl) ?_
                                      refine zget hx hb hts hown hK hP hin_7 0 rfl rfl 2 (by decide) mw_143 (v := .ref (h0 12)) rfl dX7_now_213 ?_
                                      refine lv_aload_n hx hb dX7_now_216 rfl (lv_at hl 0 rfl) ?_
                                      refine zget hx hb hts hown hK hP hin_7 0 rfl rfl 1 (by decide) mw_142 (v := .ref (h0 3)) rfl dX7_now_217 ?_
                                      obtain ⟨r9, hq8, hf⟩ := ob1_d hf
                                      refine zroV (q := (RX5, TX5, 17)) (As := [.ref (h0 3)]) (rest := []) (r := r9) ⟨hx, hb, hml, hown, hts⟩ (kX5_livesIn l dC dI cy (h0 12) (w0 12) (sh 3 h0) (sh 3 w0) r9 hq8) mw_285 mw_286 mw_287 mw_6 mw_288 hdX5_livesIn rfl rfl ⟨Nat.le_of_ble_eq_true rfl, Nat.le_of_ble_eq_true rfl⟩ hP hK hG hS 12 rfl rfl [12, 3, 4, 5, 6, 7, 8, 9, 10, 11] rfl rfl hl.1 rfl (Nat.le_of_ble_eq_true rfl) dX7_now_220 ⟨Nat.zero_le _, Nat.zero_le _⟩ ?_
                                      exact zretI hx hb hr hlocks hP hK hD hS hf rfl dX7_now_223
        · have hf := it_t hc hf
          refine lv_aload_n hx hb dX7_now_27 rfl (lv_at hl 0 rfl) ?_
          refine lv_bipush (v := (-3 : Int32)) hx hb dX7_now_28 (by decide) ?_
          obtain ⟨r11, u12, hq10, hf⟩ := ob2_d hf
          refine zwiV (q := (RX7, TX7, 10)) (As := [.int (-3 : Int32)]) (rest := []) (r := r11) (u := u12) (wn := (zW_7 cy h0 (ups w0 28 u12))) ⟨hx, hb, hml, hown, hts⟩ (kX7_refuse l dC dI cy h0 (ups w0 28 (w0 28)) (-3 : Int32) H.size (r11, u12) hq10) mw_165 mw_166 mw_883 mw_1 mw_167 hdX7_refuse rfl rfl ⟨Nat.le_of_ble_eq_true rfl, Nat.le_of_ble_eq_true rfl⟩ hP hK hG hS 0 rfl rfl hD hA [0, 1, 2, 3, 4, 5, 6, 7, 8, 9, 10, 11, 12, 13, 14, 15, 16, 17, 18, 19, 20, 21, 22, 23, 24, 25, 26, 27, 28] [] [0, 1, 2, 3, 4, 5, 6, 7, 8, 9, 10, 11, 12, 13, 14, 15, 16, 17, 18, 19, 20, 21, 22, 23, 24, 25, 26, 27, 28] rfl rfl rfl rfl (by decide) rfl rfl rfl hl.1 rfl (Nat.le_of_ble_eq_true rfl) dX7_now_30 ⟨Nat.zero_le _, Nat.zero_le _⟩ (fun H locs hP hD hS => ?_)
          exact zretI hx hb hr hlocks hP hK hD hS hf rfl dX7_now_33
      · have hf := it_f hc hf
        exact k10 (w0 28) H locs ls hP hD hS (lv_sub hl [0] rfl) hf
  exact kE s.heap [] hP hD hS
set_option maxHeartbeats 4000000 in
set_option maxRecDepth 100000 in
theorem kX7_run (l : Launch) (dC : Nat → ClassId) (dI : Nat → Nat → Nat) (cy : ClassId) (h0 : Nat → Nat) (w0 : Nat → Nat → Int32) (x1 : Int32) (sz : Nat) (z : Int32 × (Nat → Int32) × (Nat → Int32)) (hf : fX7_run w0 x1 = some z) : Met l yX7_run (wsM yX7_run cX7_run 2 (some .int)) ({ frames := 6, cells := 0, slots := 0, locals := 138 } : Room) (va_Pc [.ref (h0 0), .int x1] (pWR (dC, dI) vwCl [(cy, .int)] (zW_7 cy h0 w0) sz)) (va_Qi (fun (q : Int32) (v : (Nat → Int32) × (Nat → Int32)) => (q, v) = z) (fun v => aWR (dC, dI) vwCl [(cy, .int)] (va_A (zW_7 cy h0 w0) sz) (zW_7 cy h0 (ups (ups w0 12 v.1) 28 v.2))) (va_A (zW_7 cy h0 w0) sz)) 0 0 (va_A (zW_7 cy h0 w0) sz) := by
  refine Met.ofW (cc := cX7_run) (maxL := 2) (ret := (some .int)) (by decide) rfl ?_
  intro p e s m args below meth c s₁ B hml hv
  obtain ⟨ha, hsz, hP, hK, hD0, hG⟩ := hv
  have hx := B.exec
  have hb := B.bytes
  have hr := B.returns
  have hts : ∀ w ∈ wsA, w.before args s = true := fun w h => atoms_spec (ws := wsM yX7_run cX7_run 2 (some .int)) B.pre w (List.mem_cons_of_mem _ h)
  have hown : s.vm.findClass RX7 = some m.cls := findClass_of_methodNamed B.named
  have hlocks := B.notSynchronized
  subst hsz
  have hD := hD0.self (sz := s.heap.size)
  generalize hAe : va_A (zW_7 cy h0 w0) s.heap.size = A at hD hG ⊢
  have hA : ∀ q : Nat, s.heap.size ≤ q → A q := fun q h => by rw [← hAe]; exact Or.inr h
  have hS : va_S A s.heap s.heap [] := va_S.rf
  have hP : va_P (dC, dI) vwCl (zW_7 cy h0 (ups (ups w0 12 (w0 12)) 28 (w0 28))) s.heap := hP
  have hD : va_D A (zW_7 cy h0 (ups (ups w0 12 (w0 12)) 28 (w0 28))) := hD
  obtain ⟨ls, hl, he⟩ := zent (m := m) (n := 2) (L := [(0, .ref (h0 0)), (1, .int x1)]) ha (Nat.le_of_ble_eq_true rfl) rfl
  refine W.eq he ?_
  unfold fX7_run at hf
  have kE : ∀ (H : Heap) (locs : List Loc), va_P (dC, dI) vwCl (zW_7 cy h0 (ups (ups w0 12 (w0 12)) 28 (w0 28))) H → va_D A (zW_7 cy h0 (ups (ups w0 12 (w0 12)) 28 (w0 28))) → va_S A s.heap H locs → W p l e ({ frames := 6, cells := 0, slots := 0, locals := 138 } : Room) s m args below meth c H locs 0 0 (MQ below (va_Qi (fun (q : Int32) (v : (Nat → Int32) × (Nat → Int32)) => (q, v) = z) (fun v => aWR (dC, dI) vwCl [(cy, .int)] A (zW_7 cy h0 (ups (ups w0 12 v.1) 28 v.2))) A) args s 0 0 A) (F0 m 0 ls []) := by
    intro H locs hP hD hS
    refine lv_iload_n hx hb dX7_run_0 rfl (lv_at hl 1 rfl) ?_
    refine lv_iconst (v := (1 : Int32)) hx hb dX7_run_1 (by decide) ?_
    refine lv_icmp_ge (tgt := 12) hx hb dX7_run_2 (by decide) (fun hc => ?_) (fun hc => ?_)
    · have hf := it_t hc hf
      refine lv_iload_n hx hb dX7_run_12 rfl (lv_at hl 1 rfl) ?_
      refine lv_bipush (v := (99 : Int32)) hx hb dX7_run_13 (by decide) ?_
      refine lv_icmp_le (tgt := 25) hx hb dX7_run_15 (by decide) (fun hc => ?_) (fun hc => ?_)
      · have hf := it_t hc hf
        refine lv_aload_n hx hb dX7_run_25 rfl (lv_at hl 0 rfl) ?_
        refine zget hx hb hts hown hK hP hin_7 0 rfl rfl 2 (by decide) mw_143 (v := .ref (h0 12)) rfl dX7_run_26 ?_
        refine zgetN hx hb hts hG hown hK hP hin_5 12 rfl rfl 0 (by decide) (host := "Embayed") (List.mem_of_getElem? (i := 42) rfl) (v := .int (w0 12 0)) rfl dX7_run_29 ?_
        refine lv_if_ne (tgt := 42) hx hb dX7_run_32 (by decide) (fun hc => ?_) (fun hc => ?_)
        · have hf := it_f hc hf
          refine lv_aload_n hx hb dX7_run_42 rfl (lv_at hl 0 rfl) ?_
          refine zget hx hb hts hown hK hP hin_7 0 rfl rfl 2 (by decide) mw_143 (v := .ref (h0 12)) rfl dX7_run_43 ?_
          refine lv_aload_n hx hb dX7_run_46 rfl (lv_at hl 0 rfl) ?_
          refine zget hx hb hts hown hK hP hin_7 0 rfl rfl 1 (by decide) mw_142 (v := .ref (h0 3)) rfl dX7_run_47 ?_
          refine lv_iload_n hx hb dX7_run_50 rfl (lv_at hl 1 rfl) ?_
          obtain ⟨u2, hq1, hf⟩ := ob1_d hf
          refine zwvV (q := (RX5, TX5, 17)) (As := [.ref (h0 3), .int x1]) (rest := []) (u := u2) (wn := (zW_7 cy h0 (ups (ups w0 12 u2) 28 (w0 28)))) ⟨hx, hb, hml, hown, hts⟩ (kX5_passTens l dC dI cy (h0 12) (w0 12) (sh 3 h0) (sh 3 w0) x1 H.size u2 hq1) mw_300 mw_301 mw_302 mw_6 mw_303 hdX5_passTens rfl rfl ⟨Nat.le_of_ble_eq_true rfl, Nat.le_of_ble_eq_true rfl⟩ hP hK hG hS 12 rfl rfl hD hA [12, 3, 4, 5, 6, 7, 8, 9, 10, 11] [0, 1, 2, 13, 14, 15, 16, 17, 18, 19, 20, 21, 22, 23, 24, 25, 26, 27, 28] [0, 1, 2, 20, 21, 22, 23, 24, 25, 26, 27, 28, 19, 3, 4, 5, 6, 7, 8, 9, 10, 11, 12, 13, 14, 15, 16, 17, 18] rfl rfl rfl rfl (by decide) rfl rfl rfl hl.1 rfl (Nat.le_of_ble_eq_true rfl) dX7_run_51 ⟨Nat.zero_le _, Nat.zero_le _⟩ (fun H locs hP hD hS => ?_)
          refine lv_aload_n hx hb dX7_run_54 rfl (lv_at hl 0 rfl) ?_
          refine zget hx hb hts hown hK hP hin_7 0 rfl rfl 2 (by decide) mw_143 (v := .ref (h0 12)) rfl dX7_run_55 ?_
          refine zgetN hx hb hts hG hown hK hP hin_5 12 rfl rfl 10 (by decide) (host := "Embayed") (List.mem_of_getElem? (i := 53) rfl) (v := .int (u2 10)) rfl dX7_run_58 ?_
          exact zretI hx hb hr hlocks hP hK hD hS hf rfl dX7_run_61
        · have hf := it_t hc hf
          refine lv_aload_n hx hb dX7_run_35 rfl (lv_at hl 0 rfl) ?_
          refine lv_bipush (v := (-3 : Int32)) hx hb dX7_run_36 (by decide) ?_
          obtain ⟨r4, u5, hq3, hf⟩ := ob2_d hf
          refine zwiV (q := (RX7, TX7, 10)) (As := [.int (-3 : Int32)]) (rest := []) (r := r4) (u := u5) (wn := (zW_7 cy h0 (ups (ups w0 12 (w0 12)) 28 u5))) ⟨hx, hb, hml, hown, hts⟩ (kX7_refuse l dC dI cy h0 (ups (ups w0 12 (w0 12)) 28 (w0 28)) (-3 : Int32) H.size (r4, u5) hq3) mw_165 mw_166 mw_883 mw_1 mw_167 hdX7_refuse rfl rfl ⟨Nat.le_of_ble_eq_true rfl, Nat.le_of_ble_eq_true rfl⟩ hP hK hG hS 0 rfl rfl hD hA [0, 1, 2, 3, 4, 5, 6, 7, 8, 9, 10, 11, 12, 13, 14, 15, 16, 17, 18, 19, 20, 21, 22, 23, 24, 25, 26, 27, 28] [] [0, 1, 2, 3, 4, 5, 6, 7, 8, 9, 10, 11, 12, 13, 14, 15, 16, 17, 18, 19, 20, 21, 22, 23, 24, 25, 26, 27, 28] rfl rfl rfl rfl (by decide) rfl rfl rfl hl.1 rfl (Nat.le_of_ble_eq_true rfl) dX7_run_38 ⟨Nat.zero_le _, Nat.zero_le _⟩ (fun H locs hP hD hS => ?_)
          exact zretI hx hb hr hlocks hP hK hD hS hf rfl dX7_run_41
      · have hf := it_f hc hf
        refine lv_aload_n hx hb dX7_run_18 rfl (lv_at hl 0 rfl) ?_
        refine lv_bipush (v := (-6 : Int32)) hx hb dX7_run_19 (by decide) ?_
        obtain ⟨r7, u8, hq6, hf⟩ := ob2_d hf
        refine zwiV (q := (RX7, TX7, 10)) (As := [.int (-6 : Int32)]) (rest := []) (r := r7) (u := u8) (wn := (zW_7 cy h0 (ups (ups w0 12 (w0 12)) 28 u8))) ⟨hx, hb, hml, hown, hts⟩ (kX7_refuse l dC dI cy h0 (ups (ups w0 12 (w0 12)) 28 (w0 28)) (-6 : Int32) H.size (r7, u8) hq6) mw_165 mw_166 mw_883 mw_1 mw_167 hdX7_refuse rfl rfl ⟨Nat.le_of_ble_eq_true rfl, Nat.le_of_ble_eq_true rfl⟩ hP hK hG hS 0 rfl rfl hD hA [0, 1, 2, 3, 4, 5, 6, 7, 8, 9, 10, 11, 12, 13, 14, 15, 16, 17, 18, 19, 20, 21, 22, 23, 24, 25, 26, 27, 28] [] [0, 1, 2, 3, 4, 5, 6, 7, 8, 9, 10, 11, 12, 13, 14, 15, 16, 17, 18, 19, 20, 21, 22, 23, 24, 25, 26, 27, 28] rfl rfl rfl rfl (by decide) rfl rfl rfl hl.1 rfl (Nat.le_of_ble_eq_true rfl) dX7_run_21 ⟨Nat.zero_le _, Nat.zero_le _⟩ (fun H locs hP hD hS => ?_)
        exact zretI hx hb hr hlocks hP hK hD hS hf rfl dX7_run_24
    · have hf := it_f hc hf
      refine lv_aload_n hx hb dX7_run_5 rfl (lv_at hl 0 rfl) ?_
      refine lv_bipush (v := (-4 : Int32)) hx hb dX7_run_6 (by decide) ?_
      obtain ⟨r10, u11, hq9, hf⟩ := ob2_d hf
      refine zwiV (q := (RX7, TX7, 10)) (As := [.int (-4 : Int32)]) (rest := []) (r := r10) (u := u11) (wn := (zW_7 cy h0 (ups (ups w0 12 (w0 12)) 28 u11))) ⟨hx, hb, hml, hown, hts⟩ (kX7_refuse l dC dI cy h0 (ups (ups w0 12 (w0 12)) 28 (w0 28)) (-4 : Int32) H.size (r10, u11) hq9) mw_165 mw_166 mw_883 mw_1 mw_167 hdX7_refuse rfl rfl ⟨Nat.le_of_ble_eq_true rfl, Nat.le_of_ble_eq_true rfl⟩ hP hK hG hS 0 rfl rfl hD hA [0, 1, 2, 3, 4, 5, 6, 7, 8, 9, 10, 11, 12, 13, 14, 15, 16, 17, 18, 19, 20, 21, 22, 23, 24, 25, 26, 27, 28] [] [0, 1, 2, 3, 4, 5, 6, 7, 8, 9, 10, 11, 12, 13, 14, 15, 16, 17, 18, 19, 20, 21, 22, 23, 24, 25, 26, 27, 28] rfl rfl rfl rfl (by decide) rfl rfl rfl hl.1 rfl (Nat.le_of_ble_eq_true rfl) dX7_run_8 ⟨Nat.zero_le _, Nat.zero_le _⟩ (fun H locs hP hD hS => ?_)
      exact zretI hx hb hr hlocks hP hK hD hS hf rfl dX7_run_11
  exact kE s.heap [] hP hD hS
set_option maxHeartbeats 4000000 in
set_option maxRecDepth 100000 in
theorem kX7_head (l : Launch) (dC : Nat → ClassId) (dI : Nat → Nat → Nat) (cy : ClassId) (h0 : Nat → Nat) (w0 : Nat → Nat → Int32) (x1 : Int32) (sz : Nat) (z : Int32 × (Nat → Int32) × (Nat → Int32)) (hf : fX7_head w0 x1 = some z) : Met l yX7_head (wsM yX7_head cX7_head 2 (some .int)) ({ frames := 4, cells := 0, slots := 0, locals := 88 } : Room) (va_Pc [.ref (h0 0), .int x1] (pWR (dC, dI) vwCl [(cy, .int)] (zW_7 cy h0 w0) sz)) (va_Qi (fun (q : Int32) (v : (Nat → Int32) × (Nat → Int32)) => (q, v) = z) (fun v => aWR (dC, dI) vwCl [(cy, .int)] (va_A (zW_7 cy h0 w0) sz) (zW_7 cy h0 (ups (ups w0 12 v.1) 28 v.2))) (va_A (zW_7 cy h0 w0) sz)) 0 0 (va_A (zW_7 cy h0 w0) sz) := by
  refine Met.ofW (cc := cX7_head) (maxL := 2) (ret := (some .int)) (by decide) rfl ?_
  intro p e s m args below meth c s₁ B hml hv
  obtain ⟨ha, hsz, hP, hK, hD0, hG⟩ := hv
  have hx := B.exec
  have hb := B.bytes
  have hr := B.returns
  have hts : ∀ w ∈ wsA, w.before args s = true := fun w h => atoms_spec (ws := wsM yX7_head cX7_head 2 (some .int)) B.pre w (List.mem_cons_of_mem _ h)
  have hown : s.vm.findClass RX7 = some m.cls := findClass_of_methodNamed B.named
  have hlocks := B.notSynchronized
  subst hsz
  have hD := hD0.self (sz := s.heap.size)
  generalize hAe : va_A (zW_7 cy h0 w0) s.heap.size = A at hD hG ⊢
  have hA : ∀ q : Nat, s.heap.size ≤ q → A q := fun q h => by rw [← hAe]; exact Or.inr h
  have hS : va_S A s.heap s.heap [] := va_S.rf
  have hP : va_P (dC, dI) vwCl (zW_7 cy h0 (ups (ups w0 12 (w0 12)) 28 (w0 28))) s.heap := hP
  have hD : va_D A (zW_7 cy h0 (ups (ups w0 12 (w0 12)) 28 (w0 28))) := hD
  obtain ⟨ls, hl, he⟩ := zent (m := m) (n := 2) (L := [(0, .ref (h0 0)), (1, .int x1)]) ha (Nat.le_of_ble_eq_true rfl) rfl
  refine W.eq he ?_
  unfold fX7_head at hf
  have kE : ∀ (H : Heap) (locs : List Loc), va_P (dC, dI) vwCl (zW_7 cy h0 (ups (ups w0 12 (w0 12)) 28 (w0 28))) H → va_D A (zW_7 cy h0 (ups (ups w0 12 (w0 12)) 28 (w0 28))) → va_S A s.heap H locs → W p l e ({ frames := 4, cells := 0, slots := 0, locals := 88 } : Room) s m args below meth c H locs 0 0 (MQ below (va_Qi (fun (q : Int32) (v : (Nat → Int32) × (Nat → Int32)) => (q, v) = z) (fun v => aWR (dC, dI) vwCl [(cy, .int)] A (zW_7 cy h0 (ups (ups w0 12 v.1) 28 v.2))) A) args s 0 0 A) (F0 m 0 ls []) := by
    intro H locs hP hD hS
    refine lv_iload_n hx hb dX7_head_0 rfl (lv_at hl 1 rfl) ?_
    obtain ⟨r2, hq1, hf⟩ := ob1_d hf
    refine zroS (As := [.int x1]) (rest := []) (r := r2) ⟨hx, hb, hml, hown, hts⟩ (kX7_isDirection l dC dI cy x1 r2 hq1) mw_235 mw_236 mw_1 mw_237 hdX7_isDirection rfl rfl ⟨Nat.le_of_ble_eq_true rfl, Nat.le_of_ble_eq_true rfl⟩ hP hK hG hS [] rfl rfl hl.1 rfl (Nat.le_of_ble_eq_true rfl) dX7_head_1 ⟨Nat.zero_le _, Nat.zero_le _⟩ ?_
    refine lv_if_ne (tgt := 13) hx hb dX7_head_4 (by decide) (fun hc => ?_) (fun hc => ?_)
    · have hf := it_f hc hf
      refine lv_aload_n hx hb dX7_head_13 rfl (lv_at hl 0 rfl) ?_
      refine zget hx hb hts hown hK hP hin_7 0 rfl rfl 2 (by decide) mw_143 (v := .ref (h0 12)) rfl dX7_head_14 ?_
      refine lv_aload_n hx hb dX7_head_17 rfl (lv_at hl 0 rfl) ?_
      refine zget hx hb hts hown hK hP hin_7 0 rfl rfl 1 (by decide) mw_142 (v := .ref (h0 3)) rfl dX7_head_18 ?_
      refine lv_iload_n hx hb dX7_head_21 rfl (lv_at hl 1 rfl) ?_
      obtain ⟨r4, hq3, hf⟩ := ob1_d hf
      refine zroV (q := (RX5, TX5, 17)) (As := [.ref (h0 3), .int x1]) (rest := []) (r := r4) ⟨hx, hb, hml, hown, hts⟩ (kX5_mayTurn l dC dI cy (h0 12) (w0 12) (sh 3 h0) (sh 3 w0) x1 r4 hq3) mw_360 mw_361 mw_362 mw_6 mw_363 hdX5_mayTurn rfl rfl ⟨Nat.le_of_ble_eq_true rfl, Nat.le_of_ble_eq_true rfl⟩ hP hK hG hS 12 rfl rfl [12, 3, 4, 5, 6, 7, 8, 9, 10, 11] rfl rfl hl.1 rfl (Nat.le_of_ble_eq_true rfl) dX7_head_22 ⟨Nat.zero_le _, Nat.zero_le _⟩ ?_
      refine lv_if_ne (tgt := 35) hx hb dX7_head_25 (by decide) (fun hc => ?_) (fun hc => ?_)
      · have hf := it_f hc hf
        refine lv_aload_n hx hb dX7_head_35 rfl (lv_at hl 0 rfl) ?_
        refine zget hx hb hts hown hK hP hin_7 0 rfl rfl 2 (by decide) mw_143 (v := .ref (h0 12)) rfl dX7_head_36 ?_
        refine lv_aload_n hx hb dX7_head_39 rfl (lv_at hl 0 rfl) ?_
        refine zget hx hb hts hown hK hP hin_7 0 rfl rfl 1 (by decide) mw_142 (v := .ref (h0 3)) rfl dX7_head_40 ?_
        refine lv_iload_n hx hb dX7_head_43 rfl (lv_at hl 1 rfl) ?_
        obtain ⟨r6, hq5, hf⟩ := ob1_d hf
        refine zroV (q := (RX5, TX5, 17)) (As := [.ref (h0 3), .int x1]) (rest := []) (r := r6) ⟨hx, hb, hml, hown, hts⟩ (kX5_wouldFailInStays l dC dI cy (h0 12) (w0 12) (sh 3 h0) (sh 3 w0) x1 r6 hq5) mw_368 mw_369 mw_370 mw_6 mw_371 hdX5_wouldFailInStays rfl rfl ⟨Nat.le_of_ble_eq_true rfl, Nat.le_of_ble_eq_true rfl⟩ hP hK hG hS 12 rfl rfl [12, 3, 4, 5, 6, 7, 8, 9, 10, 11] rfl rfl hl.1 rfl (Nat.le_of_ble_eq_true rfl) dX7_head_44 ⟨Nat.zero_le _, Nat.zero_le _⟩ ?_
        refine lv_if_eq (tgt := 57) hx hb dX7_head_47 (by decide) (fun hc => ?_) (fun hc => ?_)
        · have hf := it_t hc hf
          refine lv_aload_n hx hb dX7_head_57 rfl (lv_at hl 0 rfl) ?_
          refine zget hx hb hts hown hK hP hin_7 0 rfl rfl 2 (by decide) mw_143 (v := .ref (h0 12)) rfl dX7_head_58 ?_
          refine lv_iload_n hx hb dX7_head_61 rfl (lv_at hl 1 rfl) ?_
          refine zputN hx hb hts hG hown hK hP hD hS hin_5 tyX5 tyX5_ok nmX5 12 rfl rfl 2 (by decide) (host := "Embayed") (List.mem_of_getElem? (i := 45) rfl) rfl (v := .int x1) rfl rfl (Nat.le_of_ble_eq_true rfl) (wn := (zW_7 cy h0 (ups (ups w0 12 (ups (w0 12) 2 x1)) 28 (w0 28)))) rfl dX7_head_62 (fun H locs hP hD hS => ?_)
          refine lv_iload_n hx hb dX7_head_65 rfl (lv_at hl 1 rfl) ?_
          refine lv_aload_n hx hb dX7_head_66 rfl (lv_at hl 0 rfl) ?_
          refine zget hx hb hts hown hK hP hin_7 0 rfl rfl 2 (by decide) mw_143 (v := .ref (h0 12)) rfl dX7_head_67 ?_
          refine lv_aload_n hx hb dX7_head_70 rfl (lv_at hl 0 rfl) ?_
          refine zget hx hb hts hown hK hP hin_7 0 rfl rfl 1 (by decide) mw_142 (v := .ref (h0 3)) rfl dX7_head_71 ?_
          obtain ⟨r8, hq7, hf⟩ := ob1_d hf
          refine zroV (q := (RX5, TX5, 17)) (As := [.ref (h0 3)]) (rest := [.int x1]) (r := r8) ⟨hx, hb, hml, hown, hts⟩ (kX5_windIn l dC dI cy (h0 12) (ups (w0 12) 2 x1) (sh 3 h0) (sh 3 w0) r8 hq7) mw_263 mw_264 mw_265 mw_6 mw_266 hdX5_windIn rfl rfl ⟨Nat.le_of_ble_eq_true rfl, Nat.le_of_ble_eq_true rfl⟩ hP hK hG hS 12 rfl rfl [12, 3, 4, 5, 6, 7, 8, 9, 10, 11] rfl rfl hl.1 rfl (Nat.le_of_ble_eq_true rfl) dX7_head_74 ⟨Nat.zero_le _, Nat.zero_le _⟩ ?_
          obtain ⟨r10, hq9, hf⟩ := ob1_d hf
          refine zroS (As := [.int x1, .int r8]) (rest := []) (r := r10) ⟨hx, hb, hml, hown, hts⟩ (kX7_apart l dC dI cy x1 r8 r10 hq9) mw_375 mw_316 mw_1 mw_317 hdX7_apart rfl rfl ⟨Nat.le_of_ble_eq_true rfl, Nat.le_of_ble_eq_true rfl⟩ hP hK hG hS [] rfl rfl hl.1 rfl (Nat.le_of_ble_eq_true rfl) dX7_head_77 ⟨Nat.zero_le _, Nat.zero_le _⟩ ?_
          exact zretI hx hb hr hlocks hP hK hD hS hf rfl dX7_head_80
        · have hf := it_f hc hf
          refine lv_aload_n hx hb dX7_head_50 rfl (lv_at hl 0 rfl) ?_
          refine lv_bipush (v := (-3 : Int32)) hx hb dX7_head_51 (by decide) ?_
          obtain ⟨r12, u13, hq11, hf⟩ := ob2_d hf
          refine zwiV (q := (RX7, TX7, 10)) (As := [.int (-3 : Int32)]) (rest := []) (r := r12) (u := u13) (wn := (zW_7 cy h0 (ups (ups w0 12 (w0 12)) 28 u13))) ⟨hx, hb, hml, hown, hts⟩ (kX7_refuse l dC dI cy h0 (ups (ups w0 12 (w0 12)) 28 (w0 28)) (-3 : Int32) H.size (r12, u13) hq11) mw_165 mw_166 mw_883 mw_1 mw_167 hdX7_refuse rfl rfl ⟨Nat.le_of_ble_eq_true rfl, Nat.le_of_ble_eq_true rfl⟩ hP hK hG hS 0 rfl rfl hD hA [0, 1, 2, 3, 4, 5, 6, 7, 8, 9, 10, 11, 12, 13, 14, 15, 16, 17, 18, 19, 20, 21, 22, 23, 24, 25, 26, 27, 28] [] [0, 1, 2, 3, 4, 5, 6, 7, 8, 9, 10, 11, 12, 13, 14, 15, 16, 17, 18, 19, 20, 21, 22, 23, 24, 25, 26, 27, 28] rfl rfl rfl rfl (by decide) rfl rfl rfl hl.1 rfl (Nat.le_of_ble_eq_true rfl) dX7_head_53 ⟨Nat.zero_le _, Nat.zero_le _⟩ (fun H locs hP hD hS => ?_)
          exact zretI hx hb hr hlocks hP hK hD hS hf rfl dX7_head_56
      · have hf := it_t hc hf
        refine lv_aload_n hx hb dX7_head_28 rfl (lv_at hl 0 rfl) ?_
        refine lv_bipush (v := (-3 : Int32)) hx hb dX7_head_29 (by decide) ?_
        obtain ⟨r15, u16, hq14, hf⟩ := ob2_d hf
        refine zwiV (q := (RX7, TX7, 10)) (As := [.int (-3 : Int32)]) (rest := []) (r := r15) (u := u16) (wn := (zW_7 cy h0 (ups (ups w0 12 (w0 12)) 28 u16))) ⟨hx, hb, hml, hown, hts⟩ (kX7_refuse l dC dI cy h0 (ups (ups w0 12 (w0 12)) 28 (w0 28)) (-3 : Int32) H.size (r15, u16) hq14) mw_165 mw_166 mw_883 mw_1 mw_167 hdX7_refuse rfl rfl ⟨Nat.le_of_ble_eq_true rfl, Nat.le_of_ble_eq_true rfl⟩ hP hK hG hS 0 rfl rfl hD hA [0, 1, 2, 3, 4, 5, 6, 7, 8, 9, 10, 11, 12, 13, 14, 15, 16, 17, 18, 19, 20, 21, 22, 23, 24, 25, 26, 27, 28] [] [0, 1, 2, 3, 4, 5, 6, 7, 8, 9, 10, 11, 12, 13, 14, 15, 16, 17, 18, 19, 20, 21, 22, 23, 24, 25, 26, 27, 28] rfl rfl rfl rfl (by decide) rfl rfl rfl hl.1 rfl (Nat.le_of_ble_eq_true rfl) dX7_head_31 ⟨Nat.zero_le _, Nat.zero_le _⟩ (fun H locs hP hD hS => ?_)
        exact zretI hx hb hr hlocks hP hK hD hS hf rfl dX7_head_34
    · have hf := it_t hc hf
      refine lv_aload_n hx hb dX7_head_7 rfl (lv_at hl 0 rfl) ?_
      refine lv_iconst (v := (-1 : Int32)) hx hb dX7_head_8 (by decide) ?_
      obtain ⟨r18, u19, hq17, hf⟩ := ob2_d hf
      refine zwiV (q := (RX7, TX7, 10)) (As := [.int (-1 : Int32)]) (rest := []) (r := r18) (u := u19) (wn := (zW_7 cy h0 (ups (ups w0 12 (w0 12)) 28 u19))) ⟨hx, hb, hml, hown, hts⟩ (kX7_refuse l dC dI cy h0 (ups (ups w0 12 (w0 12)) 28 (w0 28)) (-1 : Int32) H.size (r18, u19) hq17) mw_165 mw_166 mw_883 mw_1 mw_167 hdX7_refuse rfl rfl ⟨Nat.le_of_ble_eq_true rfl, Nat.le_of_ble_eq_true rfl⟩ hP hK hG hS 0 rfl rfl hD hA [0, 1, 2, 3, 4, 5, 6, 7, 8, 9, 10, 11, 12, 13, 14, 15, 16, 17, 18, 19, 20, 21, 22, 23, 24, 25, 26, 27, 28] [] [0, 1, 2, 3, 4, 5, 6, 7, 8, 9, 10, 11, 12, 13, 14, 15, 16, 17, 18, 19, 20, 21, 22, 23, 24, 25, 26, 27, 28] rfl rfl rfl rfl (by decide) rfl rfl rfl hl.1 rfl (Nat.le_of_ble_eq_true rfl) dX7_head_9 ⟨Nat.zero_le _, Nat.zero_le _⟩ (fun H locs hP hD hS => ?_)
      exact zretI hx hb hr hlocks hP hK hD hS hf rfl dX7_head_12
  exact kE s.heap [] hP hD hS
set_option maxHeartbeats 4000000 in
set_option maxRecDepth 100000 in
theorem kX7_wear (l : Launch) (dC : Nat → ClassId) (dI : Nat → Nat → Nat) (cy : ClassId) (h0 : Nat → Nat) (w0 : Nat → Nat → Int32) (x1 : Int32) (sz : Nat) (z : Int32 × (Nat → Int32) × (Nat → Int32)) (hf : fX7_wear w0 x1 = some z) : Met l yX7_wear (wsM yX7_wear cX7_wear 2 (some .int)) ({ frames := 4, cells := 0, slots := 0, locals := 92 } : Room) (va_Pc [.ref (h0 0), .int x1] (pWR (dC, dI) vwCl [(cy, .int)] (zW_7 cy h0 w0) sz)) (va_Qi (fun (q : Int32) (v : (Nat → Int32) × (Nat → Int32)) => (q, v) = z) (fun v => aWR (dC, dI) vwCl [(cy, .int)] (va_A (zW_7 cy h0 w0) sz) (zW_7 cy h0 (ups (ups w0 12 v.1) 28 v.2))) (va_A (zW_7 cy h0 w0) sz)) 0 0 (va_A (zW_7 cy h0 w0) sz) := by
  refine Met.ofW (cc := cX7_wear) (maxL := 2) (ret := (some .int)) (by decide) rfl ?_
  intro p e s m args below meth c s₁ B hml hv
  obtain ⟨ha, hsz, hP, hK, hD0, hG⟩ := hv
  have hx := B.exec
  have hb := B.bytes
  have hr := B.returns
  have hts : ∀ w ∈ wsA, w.before args s = true := fun w h => atoms_spec (ws := wsM yX7_wear cX7_wear 2 (some .int)) B.pre w (List.mem_cons_of_mem _ h)
  have hown : s.vm.findClass RX7 = some m.cls := findClass_of_methodNamed B.named
  have hlocks := B.notSynchronized
  subst hsz
  have hD := hD0.self (sz := s.heap.size)
  generalize hAe : va_A (zW_7 cy h0 w0) s.heap.size = A at hD hG ⊢
  have hA : ∀ q : Nat, s.heap.size ≤ q → A q := fun q h => by rw [← hAe]; exact Or.inr h
  have hS : va_S A s.heap s.heap [] := va_S.rf
  have hP : va_P (dC, dI) vwCl (zW_7 cy h0 (ups (ups w0 12 (w0 12)) 28 (w0 28))) s.heap := hP
  have hD : va_D A (zW_7 cy h0 (ups (ups w0 12 (w0 12)) 28 (w0 28))) := hD
  obtain ⟨ls, hl, he⟩ := zent (m := m) (n := 2) (L := [(0, .ref (h0 0)), (1, .int x1)]) ha (Nat.le_of_ble_eq_true rfl) rfl
  refine W.eq he ?_
  unfold fX7_wear at hf
  have kE : ∀ (H : Heap) (locs : List Loc), va_P (dC, dI) vwCl (zW_7 cy h0 (ups (ups w0 12 (w0 12)) 28 (w0 28))) H → va_D A (zW_7 cy h0 (ups (ups w0 12 (w0 12)) 28 (w0 28))) → va_S A s.heap H locs → W p l e ({ frames := 4, cells := 0, slots := 0, locals := 92 } : Room) s m args below meth c H locs 0 0 (MQ below (va_Qi (fun (q : Int32) (v : (Nat → Int32) × (Nat → Int32)) => (q, v) = z) (fun v => aWR (dC, dI) vwCl [(cy, .int)] A (zW_7 cy h0 (ups (ups w0 12 v.1) 28 v.2))) A) args s 0 0 A) (F0 m 0 ls []) := by
    intro H locs hP hD hS
    refine lv_iload_n hx hb dX7_wear_0 rfl (lv_at hl 1 rfl) ?_
    obtain ⟨r2, hq1, hf⟩ := ob1_d hf
    refine zroS (As := [.int x1]) (rest := []) (r := r2) ⟨hx, hb, hml, hown, hts⟩ (kX7_isDirection l dC dI cy x1 r2 hq1) mw_235 mw_236 mw_1 mw_237 hdX7_isDirection rfl rfl ⟨Nat.le_of_ble_eq_true rfl, Nat.le_of_ble_eq_true rfl⟩ hP hK hG hS [] rfl rfl hl.1 rfl (Nat.le_of_ble_eq_true rfl) dX7_wear_1 ⟨Nat.zero_le _, Nat.zero_le _⟩ ?_
    refine lv_if_ne (tgt := 13) hx hb dX7_wear_4 (by decide) (fun hc => ?_) (fun hc => ?_)
    · have hf := it_f hc hf
      refine lv_aload_n hx hb dX7_wear_13 rfl (lv_at hl 0 rfl) ?_
      refine zget hx hb hts hown hK hP hin_7 0 rfl rfl 2 (by decide) mw_143 (v := .ref (h0 12)) rfl dX7_wear_14 ?_
      refine lv_aload_n hx hb dX7_wear_17 rfl (lv_at hl 0 rfl) ?_
      refine zget hx hb hts hown hK hP hin_7 0 rfl rfl 1 (by decide) mw_142 (v := .ref (h0 3)) rfl dX7_wear_18 ?_
      refine lv_iload_n hx hb dX7_wear_21 rfl (lv_at hl 1 rfl) ?_
      obtain ⟨r4, hq3, hf⟩ := ob1_d hf
      refine zroV (q := (RX5, TX5, 17)) (As := [.ref (h0 3), .int x1]) (rest := []) (r := r4) ⟨hx, hb, hml, hown, hts⟩ (kX5_mayTurn l dC dI cy (h0 12) (w0 12) (sh 3 h0) (sh 3 w0) x1 r4 hq3) mw_360 mw_361 mw_362 mw_6 mw_363 hdX5_mayTurn rfl rfl ⟨Nat.le_of_ble_eq_true rfl, Nat.le_of_ble_eq_true rfl⟩ hP hK hG hS 12 rfl rfl [12, 3, 4, 5, 6, 7, 8, 9, 10, 11] rfl rfl hl.1 rfl (Nat.le_of_ble_eq_true rfl) dX7_wear_22 ⟨Nat.zero_le _, Nat.zero_le _⟩ ?_
      refine lv_if_ne (tgt := 35) hx hb dX7_wear_25 (by decide) (fun hc => ?_) (fun hc => ?_)
      · have hf := it_f hc hf
        refine lv_aload_n hx hb dX7_wear_35 rfl (lv_at hl 0 rfl) ?_
        refine zget hx hb hts hown hK hP hin_7 0 rfl rfl 2 (by decide) mw_143 (v := .ref (h0 12)) rfl dX7_wear_36 ?_
        refine lv_aload_n hx hb dX7_wear_39 rfl (lv_at hl 0 rfl) ?_
        refine zget hx hb hts hown hK hP hin_7 0 rfl rfl 1 (by decide) mw_142 (v := .ref (h0 3)) rfl dX7_wear_40 ?_
        refine lv_iload_n hx hb dX7_wear_43 rfl (lv_at hl 1 rfl) ?_
        obtain ⟨u6, hq5, hf⟩ := ob1_d hf
        refine zwvV (q := (RX5, TX5, 17)) (As := [.ref (h0 3), .int x1]) (rest := []) (u := u6) (wn := (zW_7 cy h0 (ups (ups w0 12 u6) 28 (w0 28)))) ⟨hx, hb, hml, hown, hts⟩ (kX5_turnBeforeWind l dC dI cy (h0 12) (w0 12) (sh 3 h0) (sh 3 w0) x1 H.size u6 hq5) mw_380 mw_381 mw_382 mw_6 mw_383 hdX5_turnBeforeWind rfl rfl ⟨Nat.le_of_ble_eq_true rfl, Nat.le_of_ble_eq_true rfl⟩ hP hK hG hS 12 rfl rfl hD hA [12, 3, 4, 5, 6, 7, 8, 9, 10, 11] [0, 1, 2, 13, 14, 15, 16, 17, 18, 19, 20, 21, 22, 23, 24, 25, 26, 27, 28] [0, 1, 2, 20, 21, 22, 23, 24, 25, 26, 27, 28, 19, 3, 4, 5, 6, 7, 8, 9, 10, 11, 12, 13, 14, 15, 16, 17, 18] rfl rfl rfl rfl (by decide) rfl rfl rfl hl.1 rfl (Nat.le_of_ble_eq_true rfl) dX7_wear_44 ⟨Nat.zero_le _, Nat.zero_le _⟩ (fun H locs hP hD hS => ?_)
        refine lv_aload_n hx hb dX7_wear_47 rfl (lv_at hl 0 rfl) ?_
        refine zget hx hb hts hown hK hP hin_7 0 rfl rfl 2 (by decide) mw_143 (v := .ref (h0 12)) rfl dX7_wear_48 ?_
        refine zgetN hx hb hts hG hown hK hP hin_5 12 rfl rfl 10 (by decide) (host := "Embayed") (List.mem_of_getElem? (i := 53) rfl) (v := .int (u6 10)) rfl dX7_wear_51 ?_
        exact zretI hx hb hr hlocks hP hK hD hS hf rfl dX7_wear_54
      · have hf := it_t hc hf
        refine lv_aload_n hx hb dX7_wear_28 rfl (lv_at hl 0 rfl) ?_
        refine lv_bipush (v := (-3 : Int32)) hx hb dX7_wear_29 (by decide) ?_
        obtain ⟨r8, u9, hq7, hf⟩ := ob2_d hf
        refine zwiV (q := (RX7, TX7, 10)) (As := [.int (-3 : Int32)]) (rest := []) (r := r8) (u := u9) (wn := (zW_7 cy h0 (ups (ups w0 12 (w0 12)) 28 u9))) ⟨hx, hb, hml, hown, hts⟩ (kX7_refuse l dC dI cy h0 (ups (ups w0 12 (w0 12)) 28 (w0 28)) (-3 : Int32) H.size (r8, u9) hq7) mw_165 mw_166 mw_883 mw_1 mw_167 hdX7_refuse rfl rfl ⟨Nat.le_of_ble_eq_true rfl, Nat.le_of_ble_eq_true rfl⟩ hP hK hG hS 0 rfl rfl hD hA [0, 1, 2, 3, 4, 5, 6, 7, 8, 9, 10, 11, 12, 13, 14, 15, 16, 17, 18, 19, 20, 21, 22, 23, 24, 25, 26, 27, 28] [] [0, 1, 2, 3, 4, 5, 6, 7, 8, 9, 10, 11, 12, 13, 14, 15, 16, 17, 18, 19, 20, 21, 22, 23, 24, 25, 26, 27, 28] rfl rfl rfl rfl (by decide) rfl rfl rfl hl.1 rfl (Nat.le_of_ble_eq_true rfl) dX7_wear_31 ⟨Nat.zero_le _, Nat.zero_le _⟩ (fun H locs hP hD hS => ?_)
        exact zretI hx hb hr hlocks hP hK hD hS hf rfl dX7_wear_34
    · have hf := it_t hc hf
      refine lv_aload_n hx hb dX7_wear_7 rfl (lv_at hl 0 rfl) ?_
      refine lv_iconst (v := (-1 : Int32)) hx hb dX7_wear_8 (by decide) ?_
      obtain ⟨r11, u12, hq10, hf⟩ := ob2_d hf
      refine zwiV (q := (RX7, TX7, 10)) (As := [.int (-1 : Int32)]) (rest := []) (r := r11) (u := u12) (wn := (zW_7 cy h0 (ups (ups w0 12 (w0 12)) 28 u12))) ⟨hx, hb, hml, hown, hts⟩ (kX7_refuse l dC dI cy h0 (ups (ups w0 12 (w0 12)) 28 (w0 28)) (-1 : Int32) H.size (r11, u12) hq10) mw_165 mw_166 mw_883 mw_1 mw_167 hdX7_refuse rfl rfl ⟨Nat.le_of_ble_eq_true rfl, Nat.le_of_ble_eq_true rfl⟩ hP hK hG hS 0 rfl rfl hD hA [0, 1, 2, 3, 4, 5, 6, 7, 8, 9, 10, 11, 12, 13, 14, 15, 16, 17, 18, 19, 20, 21, 22, 23, 24, 25, 26, 27, 28] [] [0, 1, 2, 3, 4, 5, 6, 7, 8, 9, 10, 11, 12, 13, 14, 15, 16, 17, 18, 19, 20, 21, 22, 23, 24, 25, 26, 27, 28] rfl rfl rfl rfl (by decide) rfl rfl rfl hl.1 rfl (Nat.le_of_ble_eq_true rfl) dX7_wear_9 ⟨Nat.zero_le _, Nat.zero_le _⟩ (fun H locs hP hD hS => ?_)
      exact zretI hx hb hr hlocks hP hK hD hS hf rfl dX7_wear_12
  exact kE s.heap [] hP hD hS
set_option maxHeartbeats 4000000 in
set_option maxRecDepth 100000 in
theorem kX7_haul (l : Launch) (dC : Nat → ClassId) (dI : Nat → Nat → Nat) (cy : ClassId) (h0 : Nat → Nat) (w0 : Nat → Nat → Int32) (x1 : Int32) (sz : Nat) (z : Int32 × (Nat → Int32) × (Nat → Int32)) (hf : fX7_haul w0 x1 = some z) : Met l yX7_haul (wsM yX7_haul cX7_haul 2 (some .int)) ({ frames := 3, cells := 0, slots := 0, locals := 67 } : Room) (va_Pc [.ref (h0 0), .int x1] (pWR (dC, dI) vwCl [(cy, .int)] (zW_7 cy h0 w0) sz)) (va_Qi (fun (q : Int32) (v : (Nat → Int32) × (Nat → Int32)) => (q, v) = z) (fun v => aWR (dC, dI) vwCl [(cy, .int)] (va_A (zW_7 cy h0 w0) sz) (zW_7 cy h0 (ups (ups w0 12 v.1) 28 v.2))) (va_A (zW_7 cy h0 w0) sz)) 0 0 (va_A (zW_7 cy h0 w0) sz) := by
  refine Met.ofW (cc := cX7_haul) (maxL := 2) (ret := (some .int)) (by decide) rfl ?_
  intro p e s m args below meth c s₁ B hml hv
  obtain ⟨ha, hsz, hP, hK, hD0, hG⟩ := hv
  have hx := B.exec
  have hb := B.bytes
  have hr := B.returns
  have hts : ∀ w ∈ wsA, w.before args s = true := fun w h => atoms_spec (ws := wsM yX7_haul cX7_haul 2 (some .int)) B.pre w (List.mem_cons_of_mem _ h)
  have hown : s.vm.findClass RX7 = some m.cls := findClass_of_methodNamed B.named
  have hlocks := B.notSynchronized
  subst hsz
  have hD := hD0.self (sz := s.heap.size)
  generalize hAe : va_A (zW_7 cy h0 w0) s.heap.size = A at hD hG ⊢
  have hA : ∀ q : Nat, s.heap.size ≤ q → A q := fun q h => by rw [← hAe]; exact Or.inr h
  have hS : va_S A s.heap s.heap [] := va_S.rf
  have hP : va_P (dC, dI) vwCl (zW_7 cy h0 (ups (ups w0 12 (w0 12)) 28 (w0 28))) s.heap := hP
  have hD : va_D A (zW_7 cy h0 (ups (ups w0 12 (w0 12)) 28 (w0 28))) := hD
  have k39 : ∀ (c0_12 : (Nat → Int32)) (c0_28 : (Nat → Int32)) (H : Heap) (locs : List Loc) (ls : Array Slot), va_P (dC, dI) vwCl (zW_7 cy h0 (ups (ups w0 12 c0_12) 28 c0_28)) H → va_D A (zW_7 cy h0 (ups (ups w0 12 c0_12) 28 c0_28)) → va_S A s.heap H locs → lv_has ls 2 [(0, .ref (h0 0))] → (fX7_haul_39 w0) c0_12 c0_28 = some z → W p l e ({ frames := 3, cells := 0, slots := 0, locals := 67 } : Room) s m args below meth c H locs 0 0 (MQ below (va_Qi (fun (q : Int32) (v : (Nat → Int32) × (Nat → Int32)) => (q, v) = z) (fun v => aWR (dC, dI) vwCl [(cy, .int)] A (zW_7 cy h0 (ups (ups w0 12 v.1) 28 v.2))) A) args s 0 0 A) (F0 m 39 ls []) := by
    intro c0_12 c0_28 H locs ls hP hD hS hl hf
    unfold fX7_haul_39 at hf
    refine lv_aload_n hx hb dX7_haul_39 rfl (lv_at hl 0 rfl) ?_
    refine lv_bipush (v := (-3 : Int32)) hx hb dX7_haul_40 (by decide) ?_
    obtain ⟨r6, u7, hq5, hf⟩ := ob2_d hf
    refine zwiV (q := (RX7, TX7, 10)) (As := [.int (-3 : Int32)]) (rest := []) (r := r6) (u := u7) (wn := (zW_7 cy h0 (ups (ups w0 12 c0_12) 28 u7))) ⟨hx, hb, hml, hown, hts⟩ (kX7_refuse l dC dI cy h0 (ups (ups w0 12 c0_12) 28 c0_28) (-3 : Int32) H.size (r6, u7) hq5) mw_165 mw_166 mw_883 mw_1 mw_167 hdX7_refuse rfl rfl ⟨Nat.le_of_ble_eq_true rfl, Nat.le_of_ble_eq_true rfl⟩ hP hK hG hS 0 rfl rfl hD hA [0, 1, 2, 3, 4, 5, 6, 7, 8, 9, 10, 11, 12, 13, 14, 15, 16, 17, 18, 19, 20, 21, 22, 23, 24, 25, 26, 27, 28] [] [0, 1, 2, 3, 4, 5, 6, 7, 8, 9, 10, 11, 12, 13, 14, 15, 16, 17, 18, 19, 20, 21, 22, 23, 24, 25, 26, 27, 28] rfl rfl rfl rfl (by decide) rfl rfl rfl hl.1 rfl (Nat.le_of_ble_eq_true rfl) dX7_haul_42 ⟨Nat.zero_le _, Nat.zero_le _⟩ (fun H locs hP hD hS => ?_)
    exact zretI hx hb hr hlocks hP hK hD hS hf rfl dX7_haul_45
  obtain ⟨ls, hl, he⟩ := zent (m := m) (n := 2) (L := [(0, .ref (h0 0)), (1, .int x1)]) ha (Nat.le_of_ble_eq_true rfl) rfl
  refine W.eq he ?_
  unfold fX7_haul at hf
  have kE : ∀ (H : Heap) (locs : List Loc), va_P (dC, dI) vwCl (zW_7 cy h0 (ups (ups w0 12 (w0 12)) 28 (w0 28))) H → va_D A (zW_7 cy h0 (ups (ups w0 12 (w0 12)) 28 (w0 28))) → va_S A s.heap H locs → W p l e ({ frames := 3, cells := 0, slots := 0, locals := 67 } : Room) s m args below meth c H locs 0 0 (MQ below (va_Qi (fun (q : Int32) (v : (Nat → Int32) × (Nat → Int32)) => (q, v) = z) (fun v => aWR (dC, dI) vwCl [(cy, .int)] A (zW_7 cy h0 (ups (ups w0 12 v.1) 28 v.2))) A) args s 0 0 A) (F0 m 0 ls []) := by
    intro H locs hP hD hS
    refine lv_iload_n hx hb dX7_haul_0 rfl (lv_at hl 1 rfl) ?_
    obtain ⟨r2, hq1, hf⟩ := ob1_d hf
    refine zroS (As := [.int x1]) (rest := []) (r := r2) ⟨hx, hb, hml, hown, hts⟩ (kX7_isDirection l dC dI cy x1 r2 hq1) mw_235 mw_236 mw_1 mw_237 hdX7_isDirection rfl rfl ⟨Nat.le_of_ble_eq_true rfl, Nat.le_of_ble_eq_true rfl⟩ hP hK hG hS [] rfl rfl hl.1 rfl (Nat.le_of_ble_eq_true rfl) dX7_haul_1 ⟨Nat.zero_le _, Nat.zero_le _⟩ ?_
    refine lv_if_ne (tgt := 13) hx hb dX7_haul_4 (by decide) (fun hc => ?_) (fun hc => ?_)
    · have hf := it_f hc hf
      refine lv_aload_n hx hb dX7_haul_13 rfl (lv_at hl 0 rfl) ?_
      refine zget hx hb hts hown hK hP hin_7 0 rfl rfl 2 (by decide) mw_143 (v := .ref (h0 12)) rfl dX7_haul_14 ?_
      refine lv_aload_n hx hb dX7_haul_17 rfl (lv_at hl 0 rfl) ?_
      refine zget hx hb hts hown hK hP hin_7 0 rfl rfl 1 (by decide) mw_142 (v := .ref (h0 3)) rfl dX7_haul_18 ?_
      refine lv_iload_n hx hb dX7_haul_21 rfl (lv_at hl 1 rfl) ?_
      obtain ⟨r4, hq3, hf⟩ := ob1_d hf
      refine zroV (q := (RX5, TX5, 17)) (As := [.ref (h0 3), .int x1]) (rest := []) (r := r4) ⟨hx, hb, hml, hown, hts⟩ (kX5_mayTurn l dC dI cy (h0 12) (w0 12) (sh 3 h0) (sh 3 w0) x1 r4 hq3) mw_360 mw_361 mw_362 mw_6 mw_363 hdX5_mayTurn rfl rfl ⟨Nat.le_of_ble_eq_true rfl, Nat.le_of_ble_eq_true rfl⟩ hP hK hG hS 12 rfl rfl [12, 3, 4, 5, 6, 7, 8, 9, 10, 11] rfl rfl hl.1 rfl (Nat.le_of_ble_eq_true rfl) dX7_haul_22 ⟨Nat.zero_le _, Nat.zero_le _⟩ ?_
      refine lv_if_eq (tgt := 39) hx hb dX7_haul_25 (by decide) (fun hc => ?_) (fun hc => ?_)
      · have hf := it_t hc hf
        exact k39 (w0 12) (w0 28) H locs ls hP hD hS (lv_sub hl [0] rfl) hf
      · have hf := it_f hc hf
        refine lv_aload_n hx hb dX7_haul_28 rfl (lv_at hl 0 rfl) ?_
        refine zget hx hb hts hown hK hP hin_7 0 rfl rfl 2 (by decide) mw_143 (v := .ref (h0 12)) rfl dX7_haul_29 ?_
        refine zgetN hx hb hts hG hown hK hP hin_5 12 rfl rfl 5 (by decide) (host := "Embayed") (List.mem_of_getElem? (i := 48) rfl) (v := .int (w0 12 5)) rfl dX7_haul_32 ?_
        refine lv_iconst (v := (1 : Int32)) hx hb dX7_haul_35 (by decide) ?_
        refine lv_icmp_ge (tgt := 46) hx hb dX7_haul_36 (by decide) (fun hc => ?_) (fun hc => ?_)
        · have hf := it_t hc hf
          refine lv_aload_n hx hb dX7_haul_46 rfl (lv_at hl 0 rfl) ?_
          refine zget hx hb hts hown hK hP hin_7 0 rfl rfl 2 (by decide) mw_143 (v := .ref (h0 12)) rfl dX7_haul_47 ?_
          refine lv_iload_n hx hb dX7_haul_50 rfl (lv_at hl 1 rfl) ?_
          obtain ⟨u9, hq8, hf⟩ := ob1_d hf
          refine zwvV (q := (RX5, TX5, 17)) (As := [.int x1]) (rest := []) (u := u9) (wn := (zW_7 cy h0 (ups (ups w0 12 u9) 28 (w0 28)))) ⟨hx, hb, hml, hown, hts⟩ (kX5_turnRoundAnchor l dC dI cy (h0 12) (w0 12) x1 H.size u9 hq8) mw_388 mw_389 mw_390 mw_6 mw_391 hdX5_turnRoundAnchor rfl rfl ⟨Nat.le_of_ble_eq_true rfl, Nat.le_of_ble_eq_true rfl⟩ hP hK hG hS 12 rfl rfl hD hA [12] [0, 1, 2, 3, 4, 5, 6, 7, 8, 9, 10, 11, 13, 14, 15, 16, 17, 18, 19, 20, 21, 22, 23, 24, 25, 26, 27, 28] [0, 1, 2, 3, 4, 5, 6, 7, 8, 9, 10, 11, 28, 12, 13, 14, 15, 16, 17, 18, 19, 20, 21, 22, 23, 24, 25, 26, 27] rfl rfl rfl rfl (by decide) rfl rfl rfl hl.1 rfl (Nat.le_of_ble_eq_true rfl) dX7_haul_51 ⟨Nat.zero_le _, Nat.zero_le _⟩ (fun H locs hP hD hS => ?_)
          refine lv_aload_n hx hb dX7_haul_54 rfl (lv_at hl 0 rfl) ?_
          refine zget hx hb hts hown hK hP hin_7 0 rfl rfl 2 (by decide) mw_143 (v := .ref (h0 12)) rfl dX7_haul_55 ?_
          refine zgetN hx hb hts hG hown hK hP hin_5 12 rfl rfl 5 (by decide) (host := "Embayed") (List.mem_of_getElem? (i := 48) rfl) (v := .int (u9 5)) rfl dX7_haul_58 ?_
          exact zretI hx hb hr hlocks hP hK hD hS hf rfl dX7_haul_61
        · have hf := it_f hc hf
          exact k39 (w0 12) (w0 28) H locs ls hP hD hS (lv_sub hl [0] rfl) hf
    · have hf := it_t hc hf
      refine lv_aload_n hx hb dX7_haul_7 rfl (lv_at hl 0 rfl) ?_
      refine lv_iconst (v := (-1 : Int32)) hx hb dX7_haul_8 (by decide) ?_
      obtain ⟨r11, u12, hq10, hf⟩ := ob2_d hf
      refine zwiV (q := (RX7, TX7, 10)) (As := [.int (-1 : Int32)]) (rest := []) (r := r11) (u := u12) (wn := (zW_7 cy h0 (ups (ups w0 12 (w0 12)) 28 u12))) ⟨hx, hb, hml, hown, hts⟩ (kX7_refuse l dC dI cy h0 (ups (ups w0 12 (w0 12)) 28 (w0 28)) (-1 : Int32) H.size (r11, u12) hq10) mw_165 mw_166 mw_883 mw_1 mw_167 hdX7_refuse rfl rfl ⟨Nat.le_of_ble_eq_true rfl, Nat.le_of_ble_eq_true rfl⟩ hP hK hG hS 0 rfl rfl hD hA [0, 1, 2, 3, 4, 5, 6, 7, 8, 9, 10, 11, 12, 13, 14, 15, 16, 17, 18, 19, 20, 21, 22, 23, 24, 25, 26, 27, 28] [] [0, 1, 2, 3, 4, 5, 6, 7, 8, 9, 10, 11, 12, 13, 14, 15, 16, 17, 18, 19, 20, 21, 22, 23, 24, 25, 26, 27, 28] rfl rfl rfl rfl (by decide) rfl rfl rfl hl.1 rfl (Nat.le_of_ble_eq_true rfl) dX7_haul_9 ⟨Nat.zero_le _, Nat.zero_le _⟩ (fun H locs hP hD hS => ?_)
      exact zretI hx hb hr hlocks hP hK hD hS hf rfl dX7_haul_12
  exact kE s.heap [] hP hD hS
set_option maxHeartbeats 4000000 in
set_option maxRecDepth 100000 in
theorem kX7_sail (l : Launch) (dC : Nat → ClassId) (dI : Nat → Nat → Nat) (cy : ClassId) (h0 : Nat → Nat) (w0 : Nat → Nat → Int32) (x1 : Int32) (sz : Nat) (z : Int32 × (Nat → Int32) × (Nat → Int32)) (hf : fX7_sail w0 x1 = some z) : Met l yX7_sail (wsM yX7_sail cX7_sail 3 (some .int)) ({ frames := 2, cells := 0, slots := 0, locals := 40 } : Room) (va_Pc [.ref (h0 0), .int x1] (pWR (dC, dI) vwCl [(cy, .int)] (zW_7 cy h0 w0) sz)) (va_Qi (fun (q : Int32) (v : (Nat → Int32) × (Nat → Int32)) => (q, v) = z) (fun v => aWR (dC, dI) vwCl [(cy, .int)] (va_A (zW_7 cy h0 w0) sz) (zW_7 cy h0 (ups (ups w0 12 v.1) 28 v.2))) (va_A (zW_7 cy h0 w0) sz)) 0 0 (va_A (zW_7 cy h0 w0) sz) := by
  refine Met.ofW (cc := cX7_sail) (maxL := 3) (ret := (some .int)) (by decide) rfl ?_
  intro p e s m args below meth c s₁ B hml hv
  obtain ⟨ha, hsz, hP, hK, hD0, hG⟩ := hv
  have hx := B.exec
  have hb := B.bytes
  have hr := B.returns
  have hts : ∀ w ∈ wsA, w.before args s = true := fun w h => atoms_spec (ws := wsM yX7_sail cX7_sail 3 (some .int)) B.pre w (List.mem_cons_of_mem _ h)
  have hown : s.vm.findClass RX7 = some m.cls := findClass_of_methodNamed B.named
  have hlocks := B.notSynchronized
  subst hsz
  have hD := hD0.self (sz := s.heap.size)
  generalize hAe : va_A (zW_7 cy h0 w0) s.heap.size = A at hD hG ⊢
  have hA : ∀ q : Nat, s.heap.size ≤ q → A q := fun q h => by rw [← hAe]; exact Or.inr h
  have hS : va_S A s.heap s.heap [] := va_S.rf
  have hP : va_P (dC, dI) vwCl (zW_7 cy h0 (ups (ups w0 12 (w0 12)) 28 (w0 28))) s.heap := hP
  have hD : va_D A (zW_7 cy h0 (ups (ups w0 12 (w0 12)) 28 (w0 28))) := hD
  obtain ⟨ls, hl, he⟩ := zent (m := m) (n := 3) (L := [(0, .ref (h0 0)), (1, .int x1)]) ha (Nat.le_of_ble_eq_true rfl) rfl
  refine W.eq he ?_
  unfold fX7_sail at hf
  have kE : ∀ (H : Heap) (locs : List Loc), va_P (dC, dI) vwCl (zW_7 cy h0 (ups (ups w0 12 (w0 12)) 28 (w0 28))) H → va_D A (zW_7 cy h0 (ups (ups w0 12 (w0 12)) 28 (w0 28))) → va_S A s.heap H locs → W p l e ({ frames := 2, cells := 0, slots := 0, locals := 40 } : Room) s m args below meth c H locs 0 0 (MQ below (va_Qi (fun (q : Int32) (v : (Nat → Int32) × (Nat → Int32)) => (q, v) = z) (fun v => aWR (dC, dI) vwCl [(cy, .int)] A (zW_7 cy h0 (ups (ups w0 12 v.1) 28 v.2))) A) args s 0 0 A) (F0 m 0 ls []) := by
    intro H locs hP hD hS
    refine lv_iload_n hx hb dX7_sail_0 rfl (lv_at hl 1 rfl) ?_
    refine lv_if_ge (tgt := 11) hx hb dX7_sail_1 (by decide) (fun hc => ?_) (fun hc => ?_)
    · have hf := it_t hc hf
      refine lv_iload_n hx hb dX7_sail_11 rfl (lv_at hl 1 rfl) ?_
      refine lv_iconst (v := (3 : Int32)) hx hb dX7_sail_12 (by decide) ?_
      refine lv_icmp_le (tgt := 23) hx hb dX7_sail_13 (by decide) (fun hc => ?_) (fun hc => ?_)
      · have hf := it_t hc hf
        refine lv_aload_n hx hb dX7_sail_23 rfl (lv_at hl 0 rfl) ?_
        refine zget hx hb hts hown hK hP hin_7 0 rfl rfl 2 (by decide) mw_143 (v := .ref (h0 12)) rfl dX7_sail_24 ?_
        obtain ⟨r2, hq1, hf⟩ := ob1_d hf
        refine zroV (q := (RX5, TX5, 17)) (As := []) (rest := []) (r := r2) ⟨hx, hb, hml, hown, hts⟩ (kX5_isAlive l dC dI cy (h0 12) (w0 12) r2 hq1) mw_396 mw_365 mw_366 mw_6 mw_367 hdX5_isAlive rfl rfl ⟨Nat.le_of_ble_eq_true rfl, Nat.le_of_ble_eq_true rfl⟩ hP hK hG hS 12 rfl rfl [12] rfl rfl hl.1 rfl (Nat.le_of_ble_eq_true rfl) dX7_sail_27 ⟨Nat.zero_le _, Nat.zero_le _⟩ ?_
        refine lv_if_ne (tgt := 40) hx hb dX7_sail_30 (by decide) (fun hc => ?_) (fun hc => ?_)
        · have hf := it_f hc hf
          refine lv_aload_n hx hb dX7_sail_40 rfl (lv_at hl 0 rfl) ?_
          refine zget hx hb hts hown hK hP hin_7 0 rfl rfl 2 (by decide) mw_143 (v := .ref (h0 12)) rfl dX7_sail_41 ?_
          refine zgetN hx hb hts hG hown hK hP hin_5 12 rfl rfl 3 (by decide) (host := "Embayed") (List.mem_of_getElem? (i := 46) rfl) (v := .int (w0 12 3)) rfl dX7_sail_44 ?_
          refine lv_istore_n (lv' := [(2, .int (w0 12 3)), (0, .ref (h0 0)), (1, .int x1)]) hx hb dX7_sail_47 rfl hl (by decide) rfl (fun ls hl => ?_)
          refine lv_aload_n hx hb dX7_sail_48 rfl (lv_at hl 1 rfl) ?_
          refine zget hx hb hts hown hK hP hin_7 0 rfl rfl 2 (by decide) mw_143 (v := .ref (h0 12)) rfl dX7_sail_49 ?_
          refine lv_iload_n hx hb dX7_sail_52 rfl (lv_at hl 2 rfl) ?_
          refine zputN hx hb hts hG hown hK hP hD hS hin_5 tyX5 tyX5_ok nmX5 12 rfl rfl 3 (by decide) (host := "Embayed") (List.mem_of_getElem? (i := 46) rfl) rfl (v := .int x1) rfl rfl (Nat.le_of_ble_eq_true rfl) (wn := (zW_7 cy h0 (ups (ups w0 12 (ups (w0 12) 3 x1)) 28 (w0 28)))) rfl dX7_sail_53 (fun H locs hP hD hS => ?_)
          refine lv_iload_n hx hb dX7_sail_56 rfl (lv_at hl 0 rfl) ?_
          exact zretI hx hb hr hlocks hP hK hD hS hf rfl dX7_sail_57
        · have hf := it_t hc hf
          refine lv_aload_n hx hb dX7_sail_33 rfl (lv_at hl 0 rfl) ?_
          refine lv_bipush (v := (-3 : Int32)) hx hb dX7_sail_34 (by decide) ?_
          obtain ⟨r4, u5, hq3, hf⟩ := ob2_d hf
          refine zwiV (q := (RX7, TX7, 10)) (As := [.int (-3 : Int32)]) (rest := []) (r := r4) (u := u5) (wn := (zW_7 cy h0 (ups (ups w0 12 (w0 12)) 28 u5))) ⟨hx, hb, hml, hown, hts⟩ (kX7_refuse l dC dI cy h0 (ups (ups w0 12 (w0 12)) 28 (w0 28)) (-3 : Int32) H.size (r4, u5) hq3) mw_165 mw_166 mw_883 mw_1 mw_167 hdX7_refuse rfl rfl ⟨Nat.le_of_ble_eq_true rfl, Nat.le_of_ble_eq_true rfl⟩ hP hK hG hS 0 rfl rfl hD hA [0, 1, 2, 3, 4, 5, 6, 7, 8, 9, 10, 11, 12, 13, 14, 15, 16, 17, 18, 19, 20, 21, 22, 23, 24, 25, 26, 27, 28] [] [0, 1, 2, 3, 4, 5, 6, 7, 8, 9, 10, 11, 12, 13, 14, 15, 16, 17, 18, 19, 20, 21, 22, 23, 24, 25, 26, 27, 28] rfl rfl rfl rfl (by decide) rfl rfl rfl hl.1 rfl (Nat.le_of_ble_eq_true rfl) dX7_sail_36 ⟨Nat.zero_le _, Nat.zero_le _⟩ (fun H locs hP hD hS => ?_)
          exact zretI hx hb hr hlocks hP hK hD hS hf rfl dX7_sail_39
      · have hf := it_f hc hf
        refine lv_aload_n hx hb dX7_sail_16 rfl (lv_at hl 0 rfl) ?_
        refine lv_bipush (v := (-6 : Int32)) hx hb dX7_sail_17 (by decide) ?_
        obtain ⟨r7, u8, hq6, hf⟩ := ob2_d hf
        refine zwiV (q := (RX7, TX7, 10)) (As := [.int (-6 : Int32)]) (rest := []) (r := r7) (u := u8) (wn := (zW_7 cy h0 (ups (ups w0 12 (w0 12)) 28 u8))) ⟨hx, hb, hml, hown, hts⟩ (kX7_refuse l dC dI cy h0 (ups (ups w0 12 (w0 12)) 28 (w0 28)) (-6 : Int32) H.size (r7, u8) hq6) mw_165 mw_166 mw_883 mw_1 mw_167 hdX7_refuse rfl rfl ⟨Nat.le_of_ble_eq_true rfl, Nat.le_of_ble_eq_true rfl⟩ hP hK hG hS 0 rfl rfl hD hA [0, 1, 2, 3, 4, 5, 6, 7, 8, 9, 10, 11, 12, 13, 14, 15, 16, 17, 18, 19, 20, 21, 22, 23, 24, 25, 26, 27, 28] [] [0, 1, 2, 3, 4, 5, 6, 7, 8, 9, 10, 11, 12, 13, 14, 15, 16, 17, 18, 19, 20, 21, 22, 23, 24, 25, 26, 27, 28] rfl rfl rfl rfl (by decide) rfl rfl rfl hl.1 rfl (Nat.le_of_ble_eq_true rfl) dX7_sail_19 ⟨Nat.zero_le _, Nat.zero_le _⟩ (fun H locs hP hD hS => ?_)
        exact zretI hx hb hr hlocks hP hK hD hS hf rfl dX7_sail_22
    · have hf := it_f hc hf
      refine lv_aload_n hx hb dX7_sail_4 rfl (lv_at hl 0 rfl) ?_
      refine lv_bipush (v := (-4 : Int32)) hx hb dX7_sail_5 (by decide) ?_
      obtain ⟨r10, u11, hq9, hf⟩ := ob2_d hf
      refine zwiV (q := (RX7, TX7, 10)) (As := [.int (-4 : Int32)]) (rest := []) (r := r10) (u := u11) (wn := (zW_7 cy h0 (ups (ups w0 12 (w0 12)) 28 u11))) ⟨hx, hb, hml, hown, hts⟩ (kX7_refuse l dC dI cy h0 (ups (ups w0 12 (w0 12)) 28 (w0 28)) (-4 : Int32) H.size (r10, u11) hq9) mw_165 mw_166 mw_883 mw_1 mw_167 hdX7_refuse rfl rfl ⟨Nat.le_of_ble_eq_true rfl, Nat.le_of_ble_eq_true rfl⟩ hP hK hG hS 0 rfl rfl hD hA [0, 1, 2, 3, 4, 5, 6, 7, 8, 9, 10, 11, 12, 13, 14, 15, 16, 17, 18, 19, 20, 21, 22, 23, 24, 25, 26, 27, 28] [] [0, 1, 2, 3, 4, 5, 6, 7, 8, 9, 10, 11, 12, 13, 14, 15, 16, 17, 18, 19, 20, 21, 22, 23, 24, 25, 26, 27, 28] rfl rfl rfl rfl (by decide) rfl rfl rfl hl.1 rfl (Nat.le_of_ble_eq_true rfl) dX7_sail_7 ⟨Nat.zero_le _, Nat.zero_le _⟩ (fun H locs hP hD hS => ?_)
      exact zretI hx hb hr hlocks hP hK hD hS hf rfl dX7_sail_10
  exact kE s.heap [] hP hD hS
set_option maxHeartbeats 4000000 in
set_option maxRecDepth 100000 in
theorem kX7_anchor (l : Launch) (dC : Nat → ClassId) (dI : Nat → Nat → Nat) (cy : ClassId) (h0 : Nat → Nat) (w0 : Nat → Nat → Int32) (sz : Nat) (z : Int32 × (Nat → Int32) × (Nat → Int32)) (hf : fX7_anchor w0 = some z) : Met l yX7_anchor (wsM yX7_anchor cX7_anchor 1 (some .int)) ({ frames := 3, cells := 0, slots := 0, locals := 60 } : Room) (va_Pc [.ref (h0 0)] (pWR (dC, dI) vwCl [(cy, .int)] (zW_7 cy h0 w0) sz)) (va_Qi (fun (q : Int32) (v : (Nat → Int32) × (Nat → Int32)) => (q, v) = z) (fun v => aWR (dC, dI) vwCl [(cy, .int)] (va_A (zW_7 cy h0 w0) sz) (zW_7 cy h0 (ups (ups w0 12 v.1) 28 v.2))) (va_A (zW_7 cy h0 w0) sz)) 0 0 (va_A (zW_7 cy h0 w0) sz) := by
  refine Met.ofW (cc := cX7_anchor) (maxL := 1) (ret := (some .int)) (by decide) rfl ?_
  intro p e s m args below meth c s₁ B hml hv
  obtain ⟨ha, hsz, hP, hK, hD0, hG⟩ := hv
  have hx := B.exec
  have hb := B.bytes
  have hr := B.returns
  have hts : ∀ w ∈ wsA, w.before args s = true := fun w h => atoms_spec (ws := wsM yX7_anchor cX7_anchor 1 (some .int)) B.pre w (List.mem_cons_of_mem _ h)
  have hown : s.vm.findClass RX7 = some m.cls := findClass_of_methodNamed B.named
  have hlocks := B.notSynchronized
  subst hsz
  have hD := hD0.self (sz := s.heap.size)
  generalize hAe : va_A (zW_7 cy h0 w0) s.heap.size = A at hD hG ⊢
  have hA : ∀ q : Nat, s.heap.size ≤ q → A q := fun q h => by rw [← hAe]; exact Or.inr h
  have hS : va_S A s.heap s.heap [] := va_S.rf
  have hP : va_P (dC, dI) vwCl (zW_7 cy h0 (ups (ups w0 12 (w0 12)) 28 (w0 28))) s.heap := hP
  have hD : va_D A (zW_7 cy h0 (ups (ups w0 12 (w0 12)) 28 (w0 28))) := hD
  obtain ⟨ls, hl, he⟩ := zent (m := m) (n := 1) (L := [(0, .ref (h0 0))]) ha (Nat.le_of_ble_eq_true rfl) rfl
  refine W.eq he ?_
  unfold fX7_anchor at hf
  have kE : ∀ (H : Heap) (locs : List Loc), va_P (dC, dI) vwCl (zW_7 cy h0 (ups (ups w0 12 (w0 12)) 28 (w0 28))) H → va_D A (zW_7 cy h0 (ups (ups w0 12 (w0 12)) 28 (w0 28))) → va_S A s.heap H locs → W p l e ({ frames := 3, cells := 0, slots := 0, locals := 60 } : Room) s m args below meth c H locs 0 0 (MQ below (va_Qi (fun (q : Int32) (v : (Nat → Int32) × (Nat → Int32)) => (q, v) = z) (fun v => aWR (dC, dI) vwCl [(cy, .int)] A (zW_7 cy h0 (ups (ups w0 12 v.1) 28 v.2))) A) args s 0 0 A) (F0 m 0 ls []) := by
    intro H locs hP hD hS
    refine lv_aload_n hx hb dX7_anchor_0 rfl (lv_at hl 0 rfl) ?_
    refine zget hx hb hts hown hK hP hin_7 0 rfl rfl 2 (by decide) mw_143 (v := .ref (h0 12)) rfl dX7_anchor_1 ?_
    obtain ⟨r2, hq1, hf⟩ := ob1_d hf
    refine zroV (q := (RX5, TX5, 17)) (As := []) (rest := []) (r := r2) ⟨hx, hb, hml, hown, hts⟩ (kX5_mayAnchor l dC dI cy (h0 12) (w0 12) r2 hq1) mw_401 mw_402 mw_403 mw_6 mw_404 hdX5_mayAnchor rfl rfl ⟨Nat.le_of_ble_eq_true rfl, Nat.le_of_ble_eq_true rfl⟩ hP hK hG hS 12 rfl rfl [12] rfl rfl hl.1 rfl (Nat.le_of_ble_eq_true rfl) dX7_anchor_4 ⟨Nat.zero_le _, Nat.zero_le _⟩ ?_
    refine lv_if_ne (tgt := 17) hx hb dX7_anchor_7 (by decide) (fun hc => ?_) (fun hc => ?_)
    · have hf := it_f hc hf
      refine lv_aload_n hx hb dX7_anchor_17 rfl (lv_at hl 0 rfl) ?_
      refine zget hx hb hts hown hK hP hin_7 0 rfl rfl 2 (by decide) mw_143 (v := .ref (h0 12)) rfl dX7_anchor_18 ?_
      refine lv_iconst (v := (4 : Int32)) hx hb dX7_anchor_21 (by decide) ?_
      refine zputN hx hb hts hG hown hK hP hD hS hin_5 tyX5 tyX5_ok nmX5 12 rfl rfl 10 (by decide) (host := "Embayed") (List.mem_of_getElem? (i := 53) rfl) rfl (v := .int (4 : Int32)) rfl rfl (Nat.le_of_ble_eq_true rfl) (wn := (zW_7 cy h0 (ups (ups w0 12 (ups (w0 12) 10 (4 : Int32))) 28 (w0 28)))) rfl dX7_anchor_22 (fun H locs hP hD hS => ?_)
      refine lv_aload_n hx hb dX7_anchor_25 rfl (lv_at hl 0 rfl) ?_
      refine zget hx hb hts hown hK hP hin_7 0 rfl rfl 2 (by decide) mw_143 (v := .ref (h0 12)) rfl dX7_anchor_26 ?_
      refine zgetN hx hb hts hG hown hK hP hin_5 12 rfl rfl 5 (by decide) (host := "Embayed") (List.mem_of_getElem? (i := 48) rfl) (v := .int (w0 12 5)) rfl dX7_anchor_29 ?_
      exact zretI hx hb hr hlocks hP hK hD hS hf rfl dX7_anchor_32
    · have hf := it_t hc hf
      refine lv_aload_n hx hb dX7_anchor_10 rfl (lv_at hl 0 rfl) ?_
      refine lv_bipush (v := (-3 : Int32)) hx hb dX7_anchor_11 (by decide) ?_
      obtain ⟨r4, u5, hq3, hf⟩ := ob2_d hf
      refine zwiV (q := (RX7, TX7, 10)) (As := [.int (-3 : Int32)]) (rest := []) (r := r4) (u := u5) (wn := (zW_7 cy h0 (ups (ups w0 12 (w0 12)) 28 u5))) ⟨hx, hb, hml, hown, hts⟩ (kX7_refuse l dC dI cy h0 (ups (ups w0 12 (w0 12)) 28 (w0 28)) (-3 : Int32) H.size (r4, u5) hq3) mw_165 mw_166 mw_883 mw_1 mw_167 hdX7_refuse rfl rfl ⟨Nat.le_of_ble_eq_true rfl, Nat.le_of_ble_eq_true rfl⟩ hP hK hG hS 0 rfl rfl hD hA [0, 1, 2, 3, 4, 5, 6, 7, 8, 9, 10, 11, 12, 13, 14, 15, 16, 17, 18, 19, 20, 21, 22, 23, 24, 25, 26, 27, 28] [] [0, 1, 2, 3, 4, 5, 6, 7, 8, 9, 10, 11, 12, 13, 14, 15, 16, 17, 18, 19, 20, 21, 22, 23, 24, 25, 26, 27, 28] rfl rfl rfl rfl (by decide) rfl rfl rfl hl.1 rfl (Nat.le_of_ble_eq_true rfl) dX7_anchor_13 ⟨Nat.zero_le _, Nat.zero_le _⟩ (fun H locs hP hD hS => ?_)
      exact zretI hx hb hr hlocks hP hK hD hS hf rfl dX7_anchor_16
  exact kE s.heap [] hP hD hS
set_option maxHeartbeats 4000000 in
set_option maxRecDepth 100000 in
theorem kX7_cut (l : Launch) (dC : Nat → ClassId) (dI : Nat → Nat → Nat) (cy : ClassId) (h0 : Nat → Nat) (w0 : Nat → Nat → Int32) (sz : Nat) (z : Int32 × (Nat → Int32) × (Nat → Int32)) (hf : fX7_cut w0 = some z) : Met l yX7_cut (wsM yX7_cut cX7_cut 1 (some .int)) ({ frames := 1, cells := 0, slots := 0, locals := 22 } : Room) (va_Pc [.ref (h0 0)] (pWR (dC, dI) vwCl [(cy, .int)] (zW_7 cy h0 w0) sz)) (va_Qi (fun (q : Int32) (v : (Nat → Int32) × (Nat → Int32)) => (q, v) = z) (fun v => aWR (dC, dI) vwCl [(cy, .int)] (va_A (zW_7 cy h0 w0) sz) (zW_7 cy h0 (ups (ups w0 12 v.1) 28 v.2))) (va_A (zW_7 cy h0 w0) sz)) 0 0 (va_A (zW_7 cy h0 w0) sz) := by
  refine Met.ofW (cc := cX7_cut) (maxL := 1) (ret := (some .int)) (by decide) rfl ?_
  intro p e s m args below meth c s₁ B hml hv
  obtain ⟨ha, hsz, hP, hK, hD0, hG⟩ := hv
  have hx := B.exec
  have hb := B.bytes
  have hr := B.returns
  have hts : ∀ w ∈ wsA, w.before args s = true := fun w h => atoms_spec (ws := wsM yX7_cut cX7_cut 1 (some .int)) B.pre w (List.mem_cons_of_mem _ h)
  have hown : s.vm.findClass RX7 = some m.cls := findClass_of_methodNamed B.named
  have hlocks := B.notSynchronized
  subst hsz
  have hD := hD0.self (sz := s.heap.size)
  generalize hAe : va_A (zW_7 cy h0 w0) s.heap.size = A at hD hG ⊢
  have hA : ∀ q : Nat, s.heap.size ≤ q → A q := fun q h => by rw [← hAe]; exact Or.inr h
  have hS : va_S A s.heap s.heap [] := va_S.rf
  have hP : va_P (dC, dI) vwCl (zW_7 cy h0 (ups (ups w0 12 (w0 12)) 28 (w0 28))) s.heap := hP
  have hD : va_D A (zW_7 cy h0 (ups (ups w0 12 (w0 12)) 28 (w0 28))) := hD
  have k21 : ∀ (c0_12 : (Nat → Int32)) (c0_28 : (Nat → Int32)) (H : Heap) (locs : List Loc) (ls : Array Slot), va_P (dC, dI) vwCl (zW_7 cy h0 (ups (ups w0 12 c0_12) 28 c0_28)) H → va_D A (zW_7 cy h0 (ups (ups w0 12 c0_12) 28 c0_28)) → va_S A s.heap H locs → lv_has ls 1 [(0, .ref (h0 0))] → (fX7_cut_21 w0) c0_12 c0_28 = some z → W p l e ({ frames := 1, cells := 0, slots := 0, locals := 22 } : Room) s m args below meth c H locs 0 0 (MQ below (va_Qi (fun (q : Int32) (v : (Nat → Int32) × (Nat → Int32)) => (q, v) = z) (fun v => aWR (dC, dI) vwCl [(cy, .int)] A (zW_7 cy h0 (ups (ups w0 12 v.1) 28 v.2))) A) args s 0 0 A) (F0 m 21 ls []) := by
    intro c0_12 c0_28 H locs ls hP hD hS hl hf
    unfold fX7_cut_21 at hf
    refine lv_aload_n hx hb dX7_cut_21 rfl (lv_at hl 0 rfl) ?_
    refine lv_bipush (v := (-3 : Int32)) hx hb dX7_cut_22 (by decide) ?_
    obtain ⟨r2, u3, hq1, hf⟩ := ob2_d hf
    refine zwiV (q := (RX7, TX7, 10)) (As := [.int (-3 : Int32)]) (rest := []) (r := r2) (u := u3) (wn := (zW_7 cy h0 (ups (ups w0 12 c0_12) 28 u3))) ⟨hx, hb, hml, hown, hts⟩ (kX7_refuse l dC dI cy h0 (ups (ups w0 12 c0_12) 28 c0_28) (-3 : Int32) H.size (r2, u3) hq1) mw_165 mw_166 mw_883 mw_1 mw_167 hdX7_refuse rfl rfl ⟨Nat.le_of_ble_eq_true rfl, Nat.le_of_ble_eq_true rfl⟩ hP hK hG hS 0 rfl rfl hD hA [0, 1, 2, 3, 4, 5, 6, 7, 8, 9, 10, 11, 12, 13, 14, 15, 16, 17, 18, 19, 20, 21, 22, 23, 24, 25, 26, 27, 28] [] [0, 1, 2, 3, 4, 5, 6, 7, 8, 9, 10, 11, 12, 13, 14, 15, 16, 17, 18, 19, 20, 21, 22, 23, 24, 25, 26, 27, 28] rfl rfl rfl rfl (by decide) rfl rfl rfl hl.1 rfl (Nat.le_of_ble_eq_true rfl) dX7_cut_24 ⟨Nat.zero_le _, Nat.zero_le _⟩ (fun H locs hP hD hS => ?_)
    exact zretI hx hb hr hlocks hP hK hD hS hf rfl dX7_cut_27
  obtain ⟨ls, hl, he⟩ := zent (m := m) (n := 1) (L := [(0, .ref (h0 0))]) ha (Nat.le_of_ble_eq_true rfl) rfl
  refine W.eq he ?_
  unfold fX7_cut at hf
  have kE : ∀ (H : Heap) (locs : List Loc), va_P (dC, dI) vwCl (zW_7 cy h0 (ups (ups w0 12 (w0 12)) 28 (w0 28))) H → va_D A (zW_7 cy h0 (ups (ups w0 12 (w0 12)) 28 (w0 28))) → va_S A s.heap H locs → W p l e ({ frames := 1, cells := 0, slots := 0, locals := 22 } : Room) s m args below meth c H locs 0 0 (MQ below (va_Qi (fun (q : Int32) (v : (Nat → Int32) × (Nat → Int32)) => (q, v) = z) (fun v => aWR (dC, dI) vwCl [(cy, .int)] A (zW_7 cy h0 (ups (ups w0 12 v.1) 28 v.2))) A) args s 0 0 A) (F0 m 0 ls []) := by
    intro H locs hP hD hS
    refine lv_aload_n hx hb dX7_cut_0 rfl (lv_at hl 0 rfl) ?_
    refine zget hx hb hts hown hK hP hin_7 0 rfl rfl 2 (by decide) mw_143 (v := .ref (h0 12)) rfl dX7_cut_1 ?_
    refine zgetN hx hb hts hG hown hK hP hin_5 12 rfl rfl 0 (by decide) (host := "Embayed") (List.mem_of_getElem? (i := 42) rfl) (v := .int (w0 12 0)) rfl dX7_cut_4 ?_
    refine lv_if_eq (tgt := 21) hx hb dX7_cut_7 (by decide) (fun hc => ?_) (fun hc => ?_)
    · have hf := it_t hc hf
      exact k21 (w0 12) (w0 28) H locs ls hP hD hS (lv_sub hl [0] rfl) hf
    · have hf := it_f hc hf
      refine lv_aload_n hx hb dX7_cut_10 rfl (lv_at hl 0 rfl) ?_
      refine zget hx hb hts hown hK hP hin_7 0 rfl rfl 2 (by decide) mw_143 (v := .ref (h0 12)) rfl dX7_cut_11 ?_
      refine zgetN hx hb hts hG hown hK hP hin_5 12 rfl rfl 10 (by decide) (host := "Embayed") (List.mem_of_getElem? (i := 53) rfl) (v := .int (w0 12 10)) rfl dX7_cut_14 ?_
      refine lv_iconst (v := (4 : Int32)) hx hb dX7_cut_17 (by decide) ?_
      refine lv_icmp_eq (tgt := 28) hx hb dX7_cut_18 (by decide) (fun hc => ?_) (fun hc => ?_)
      · have hf := it_t hc hf
        refine lv_aload_n hx hb dX7_cut_28 rfl (lv_at hl 0 rfl) ?_
        refine zget hx hb hts hown hK hP hin_7 0 rfl rfl 2 (by decide) mw_143 (v := .ref (h0 12)) rfl dX7_cut_29 ?_
        refine lv_dup hx hb dX7_cut_32 rfl ?_
        refine zgetN hx hb hts hG hown hK hP hin_5 12 rfl rfl 5 (by decide) (host := "Embayed") (List.mem_of_getElem? (i := 48) rfl) (v := .int (w0 12 5)) rfl dX7_cut_33 ?_
        refine lv_iconst (v := (1 : Int32)) hx hb dX7_cut_36 (by decide) ?_
        refine lv_isub hx hb dX7_cut_37 ?_
        refine zputN hx hb hts hG hown hK hP hD hS hin_5 tyX5 tyX5_ok nmX5 12 rfl rfl 5 (by decide) (host := "Embayed") (List.mem_of_getElem? (i := 48) rfl) rfl (v := .int ((w0 12 5) - (1 : Int32))) rfl rfl (Nat.le_of_ble_eq_true rfl) (wn := (zW_7 cy h0 (ups (ups w0 12 (ups (w0 12) 5 ((w0 12 5) - (1 : Int32)))) 28 (w0 28)))) rfl dX7_cut_38 (fun H locs hP hD hS => ?_)
        refine lv_aload_n hx hb dX7_cut_41 rfl (lv_at hl 0 rfl) ?_
        refine zget hx hb hts hown hK hP hin_7 0 rfl rfl 2 (by decide) mw_143 (v := .ref (h0 12)) rfl dX7_cut_42 ?_
        refine lv_iconst (v := (1 : Int32)) hx hb dX7_cut_45 (by decide) ?_
        refine zputN hx hb hts hG hown hK hP hD hS hin_5 tyX5 tyX5_ok nmX5 12 rfl rfl 10 (by decide) (host := "Embayed") (List.mem_of_getElem? (i := 53) rfl) rfl (v := .int (1 : Int32)) rfl rfl (Nat.le_of_ble_eq_true rfl) (wn := (zW_7 cy h0 (ups (ups w0 12 (ups (ups (w0 12) 5 ((w0 12 5) - (1 : Int32))) 10 (1 : Int32))) 28 (w0 28)))) rfl dX7_cut_46 (fun H locs hP hD hS => ?_)
        refine lv_aload_n hx hb dX7_cut_49 rfl (lv_at hl 0 rfl) ?_
        refine zget hx hb hts hown hK hP hin_7 0 rfl rfl 2 (by decide) mw_143 (v := .ref (h0 12)) rfl dX7_cut_50 ?_
        refine zgetN hx hb hts hG hown hK hP hin_5 12 rfl rfl 5 (by decide) (host := "Embayed") (List.mem_of_getElem? (i := 48) rfl) (v := .int ((w0 12 5) - (1 : Int32))) rfl dX7_cut_53 ?_
        exact zretI hx hb hr hlocks hP hK hD hS hf rfl dX7_cut_56
      · have hf := it_f hc hf
        exact k21 (w0 12) (w0 28) H locs ls hP hD hS (lv_sub hl [0] rfl) hf
  exact kE s.heap [] hP hD hS
set_option maxHeartbeats 4000000 in
set_option maxRecDepth 100000 in
theorem kX7_axe (l : Launch) (dC : Nat → ClassId) (dI : Nat → Nat → Nat) (cy : ClassId) (h0 : Nat → Nat) (w0 : Nat → Nat → Int32) (sz : Nat) (z : Int32 × (Nat → Int32) × (Nat → Int32)) (hf : fX7_axe w0 = some z) : Met l yX7_axe (wsM yX7_axe cX7_axe 1 (some .int)) ({ frames := 2, cells := 0, slots := 0, locals := 40 } : Room) (va_Pc [.ref (h0 0)] (pWR (dC, dI) vwCl [(cy, .int)] (zW_7 cy h0 w0) sz)) (va_Qi (fun (q : Int32) (v : (Nat → Int32) × (Nat → Int32)) => (q, v) = z) (fun v => aWR (dC, dI) vwCl [(cy, .int)] (va_A (zW_7 cy h0 w0) sz) (zW_7 cy h0 (ups (ups w0 12 v.1) 28 v.2))) (va_A (zW_7 cy h0 w0) sz)) 0 0 (va_A (zW_7 cy h0 w0) sz) := by
  refine Met.ofW (cc := cX7_axe) (maxL := 1) (ret := (some .int)) (by decide) rfl ?_
  intro p e s m args below meth c s₁ B hml hv
  obtain ⟨ha, hsz, hP, hK, hD0, hG⟩ := hv
  have hx := B.exec
  have hb := B.bytes
  have hr := B.returns
  have hts : ∀ w ∈ wsA, w.before args s = true := fun w h => atoms_spec (ws := wsM yX7_axe cX7_axe 1 (some .int)) B.pre w (List.mem_cons_of_mem _ h)
  have hown : s.vm.findClass RX7 = some m.cls := findClass_of_methodNamed B.named
  have hlocks := B.notSynchronized
  subst hsz
  have hD := hD0.self (sz := s.heap.size)
  generalize hAe : va_A (zW_7 cy h0 w0) s.heap.size = A at hD hG ⊢
  have hA : ∀ q : Nat, s.heap.size ≤ q → A q := fun q h => by rw [← hAe]; exact Or.inr h
  have hS : va_S A s.heap s.heap [] := va_S.rf
  have hP : va_P (dC, dI) vwCl (zW_7 cy h0 (ups (ups w0 12 (w0 12)) 28 (w0 28))) s.heap := hP
  have hD : va_D A (zW_7 cy h0 (ups (ups w0 12 (w0 12)) 28 (w0 28))) := hD
  have k21 : ∀ (c0_12 : (Nat → Int32)) (c0_28 : (Nat → Int32)) (H : Heap) (locs : List Loc) (ls : Array Slot), va_P (dC, dI) vwCl (zW_7 cy h0 (ups (ups w0 12 c0_12) 28 c0_28)) H → va_D A (zW_7 cy h0 (ups (ups w0 12 c0_12) 28 c0_28)) → va_S A s.heap H locs → lv_has ls 1 [(0, .ref (h0 0))] → (fX7_axe_21 w0) c0_12 c0_28 = some z → W p l e ({ frames := 2, cells := 0, slots := 0, locals := 40 } : Room) s m args below meth c H locs 0 0 (MQ below (va_Qi (fun (q : Int32) (v : (Nat → Int32) × (Nat → Int32)) => (q, v) = z) (fun v => aWR (dC, dI) vwCl [(cy, .int)] A (zW_7 cy h0 (ups (ups w0 12 v.1) 28 v.2))) A) args s 0 0 A) (F0 m 21 ls []) := by
    intro c0_12 c0_28 H locs ls hP hD hS hl hf
    unfold fX7_axe_21 at hf
    refine lv_aload_n hx hb dX7_axe_21 rfl (lv_at hl 0 rfl) ?_
    refine lv_bipush (v := (-3 : Int32)) hx hb dX7_axe_22 (by decide) ?_
    obtain ⟨r4, u5, hq3, hf⟩ := ob2_d hf
    refine zwiV (q := (RX7, TX7, 10)) (As := [.int (-3 : Int32)]) (rest := []) (r := r4) (u := u5) (wn := (zW_7 cy h0 (ups (ups w0 12 c0_12) 28 u5))) ⟨hx, hb, hml, hown, hts⟩ (kX7_refuse l dC dI cy h0 (ups (ups w0 12 c0_12) 28 c0_28) (-3 : Int32) H.size (r4, u5) hq3) mw_165 mw_166 mw_883 mw_1 mw_167 hdX7_refuse rfl rfl ⟨Nat.le_of_ble_eq_true rfl, Nat.le_of_ble_eq_true rfl⟩ hP hK hG hS 0 rfl rfl hD hA [0, 1, 2, 3, 4, 5, 6, 7, 8, 9, 10, 11, 12, 13, 14, 15, 16, 17, 18, 19, 20, 21, 22, 23, 24, 25, 26, 27, 28] [] [0, 1, 2, 3, 4, 5, 6, 7, 8, 9, 10, 11, 12, 13, 14, 15, 16, 17, 18, 19, 20, 21, 22, 23, 24, 25, 26, 27, 28] rfl rfl rfl rfl (by decide) rfl rfl rfl hl.1 rfl (Nat.le_of_ble_eq_true rfl) dX7_axe_24 ⟨Nat.zero_le _, Nat.zero_le _⟩ (fun H locs hP hD hS => ?_)
    exact zretI hx hb hr hlocks hP hK hD hS hf rfl dX7_axe_27
  obtain ⟨ls, hl, he⟩ := zent (m := m) (n := 1) (L := [(0, .ref (h0 0))]) ha (Nat.le_of_ble_eq_true rfl) rfl
  refine W.eq he ?_
  unfold fX7_axe at hf
  have kE : ∀ (H : Heap) (locs : List Loc), va_P (dC, dI) vwCl (zW_7 cy h0 (ups (ups w0 12 (w0 12)) 28 (w0 28))) H → va_D A (zW_7 cy h0 (ups (ups w0 12 (w0 12)) 28 (w0 28))) → va_S A s.heap H locs → W p l e ({ frames := 2, cells := 0, slots := 0, locals := 40 } : Room) s m args below meth c H locs 0 0 (MQ below (va_Qi (fun (q : Int32) (v : (Nat → Int32) × (Nat → Int32)) => (q, v) = z) (fun v => aWR (dC, dI) vwCl [(cy, .int)] A (zW_7 cy h0 (ups (ups w0 12 v.1) 28 v.2))) A) args s 0 0 A) (F0 m 0 ls []) := by
    intro H locs hP hD hS
    refine lv_aload_n hx hb dX7_axe_0 rfl (lv_at hl 0 rfl) ?_
    refine zget hx hb hts hown hK hP hin_7 0 rfl rfl 2 (by decide) mw_143 (v := .ref (h0 12)) rfl dX7_axe_1 ?_
    obtain ⟨r2, hq1, hf⟩ := ob1_d hf
    refine zroV (q := (RX5, TX5, 17)) (As := []) (rest := []) (r := r2) ⟨hx, hb, hml, hown, hts⟩ (kX5_isAlive l dC dI cy (h0 12) (w0 12) r2 hq1) mw_396 mw_365 mw_366 mw_6 mw_367 hdX5_isAlive rfl rfl ⟨Nat.le_of_ble_eq_true rfl, Nat.le_of_ble_eq_true rfl⟩ hP hK hG hS 12 rfl rfl [12] rfl rfl hl.1 rfl (Nat.le_of_ble_eq_true rfl) dX7_axe_4 ⟨Nat.zero_le _, Nat.zero_le _⟩ ?_
    refine lv_if_eq (tgt := 21) hx hb dX7_axe_7 (by decide) (fun hc => ?_) (fun hc => ?_)
    · have hf := it_t hc hf
      exact k21 (w0 12) (w0 28) H locs ls hP hD hS (lv_sub hl [0] rfl) hf
    · have hf := it_f hc hf
      refine lv_aload_n hx hb dX7_axe_10 rfl (lv_at hl 0 rfl) ?_
      refine zget hx hb hts hown hK hP hin_7 0 rfl rfl 2 (by decide) mw_143 (v := .ref (h0 12)) rfl dX7_axe_11 ?_
      refine zgetN hx hb hts hG hown hK hP hin_5 12 rfl rfl 4 (by decide) (host := "Embayed") (List.mem_of_getElem? (i := 47) rfl) (v := .int (w0 12 4)) rfl dX7_axe_14 ?_
      refine lv_iconst (v := (1 : Int32)) hx hb dX7_axe_17 (by decide) ?_
      refine lv_icmp_ge (tgt := 28) hx hb dX7_axe_18 (by decide) (fun hc => ?_) (fun hc => ?_)
      · have hf := it_t hc hf
        refine lv_aload_n hx hb dX7_axe_28 rfl (lv_at hl 0 rfl) ?_
        refine zget hx hb hts hown hK hP hin_7 0 rfl rfl 2 (by decide) mw_143 (v := .ref (h0 12)) rfl dX7_axe_29 ?_
        refine lv_dup hx hb dX7_axe_32 rfl ?_
        refine zgetN hx hb hts hG hown hK hP hin_5 12 rfl rfl 4 (by decide) (host := "Embayed") (List.mem_of_getElem? (i := 47) rfl) (v := .int (w0 12 4)) rfl dX7_axe_33 ?_
        refine lv_iconst (v := (1 : Int32)) hx hb dX7_axe_36 (by decide) ?_
        refine lv_isub hx hb dX7_axe_37 ?_
        refine zputN hx hb hts hG hown hK hP hD hS hin_5 tyX5 tyX5_ok nmX5 12 rfl rfl 4 (by decide) (host := "Embayed") (List.mem_of_getElem? (i := 47) rfl) rfl (v := .int ((w0 12 4) - (1 : Int32))) rfl rfl (Nat.le_of_ble_eq_true rfl) (wn := (zW_7 cy h0 (ups (ups w0 12 (ups (w0 12) 4 ((w0 12 4) - (1 : Int32)))) 28 (w0 28)))) rfl dX7_axe_38 (fun H locs hP hD hS => ?_)
        refine lv_aload_n hx hb dX7_axe_41 rfl (lv_at hl 0 rfl) ?_
        refine zget hx hb hts hown hK hP hin_7 0 rfl rfl 2 (by decide) mw_143 (v := .ref (h0 12)) rfl dX7_axe_42 ?_
        refine zgetN hx hb hts hG hown hK hP hin_5 12 rfl rfl 4 (by decide) (host := "Embayed") (List.mem_of_getElem? (i := 47) rfl) (v := .int ((w0 12 4) - (1 : Int32))) rfl dX7_axe_45 ?_
        exact zretI hx hb hr hlocks hP hK hD hS hf rfl dX7_axe_48
      · have hf := it_f hc hf
        exact k21 (w0 12) (w0 28) H locs ls hP hD hS (lv_sub hl [0] rfl) hf
  exact kE s.heap [] hP hD hS
set_option maxHeartbeats 4000000 in
set_option maxRecDepth 100000 in
theorem kX7_over (l : Launch) (dC : Nat → ClassId) (dI : Nat → Nat → Nat) (cy : ClassId) (h0 : Nat → Nat) (w0 : Nat → Nat → Int32) (sz : Nat) (z : Int32 × (Nat → Int32) × (Nat → Int32)) (hf : fX7_over w0 = some z) : Met l yX7_over (wsM yX7_over cX7_over 1 (some .int)) ({ frames := 2, cells := 0, slots := 0, locals := 40 } : Room) (va_Pc [.ref (h0 0)] (pWR (dC, dI) vwCl [(cy, .int)] (zW_7 cy h0 w0) sz)) (va_Qi (fun (q : Int32) (v : (Nat → Int32) × (Nat → Int32)) => (q, v) = z) (fun v => aWR (dC, dI) vwCl [(cy, .int)] (va_A (zW_7 cy h0 w0) sz) (zW_7 cy h0 (ups (ups w0 3 v.1) 28 v.2))) (va_A (zW_7 cy h0 w0) sz)) 0 0 (va_A (zW_7 cy h0 w0) sz) := by
  refine Met.ofW (cc := cX7_over) (maxL := 1) (ret := (some .int)) (by decide) rfl ?_
  intro p e s m args below meth c s₁ B hml hv
  obtain ⟨ha, hsz, hP, hK, hD0, hG⟩ := hv
  have hx := B.exec
  have hb := B.bytes
  have hr := B.returns
  have hts : ∀ w ∈ wsA, w.before args s = true := fun w h => atoms_spec (ws := wsM yX7_over cX7_over 1 (some .int)) B.pre w (List.mem_cons_of_mem _ h)
  have hown : s.vm.findClass RX7 = some m.cls := findClass_of_methodNamed B.named
  have hlocks := B.notSynchronized
  subst hsz
  have hD := hD0.self (sz := s.heap.size)
  generalize hAe : va_A (zW_7 cy h0 w0) s.heap.size = A at hD hG ⊢
  have hA : ∀ q : Nat, s.heap.size ≤ q → A q := fun q h => by rw [← hAe]; exact Or.inr h
  have hS : va_S A s.heap s.heap [] := va_S.rf
  have hP : va_P (dC, dI) vwCl (zW_7 cy h0 (ups (ups w0 3 (w0 3)) 28 (w0 28))) s.heap := hP
  have hD : va_D A (zW_7 cy h0 (ups (ups w0 3 (w0 3)) 28 (w0 28))) := hD
  have k21 : ∀ (c0_3 : (Nat → Int32)) (c0_28 : (Nat → Int32)) (H : Heap) (locs : List Loc) (ls : Array Slot), va_P (dC, dI) vwCl (zW_7 cy h0 (ups (ups w0 3 c0_3) 28 c0_28)) H → va_D A (zW_7 cy h0 (ups (ups w0 3 c0_3) 28 c0_28)) → va_S A s.heap H locs → lv_has ls 1 [(0, .ref (h0 0))] → (fX7_over_21 w0) c0_3 c0_28 = some z → W p l e ({ frames := 2, cells := 0, slots := 0, locals := 40 } : Room) s m args below meth c H locs 0 0 (MQ below (va_Qi (fun (q : Int32) (v : (Nat → Int32) × (Nat → Int32)) => (q, v) = z) (fun v => aWR (dC, dI) vwCl [(cy, .int)] A (zW_7 cy h0 (ups (ups w0 3 v.1) 28 v.2))) A) args s 0 0 A) (F0 m 21 ls []) := by
    intro c0_3 c0_28 H locs ls hP hD hS hl hf
    unfold fX7_over_21 at hf
    refine lv_aload_n hx hb dX7_over_21 rfl (lv_at hl 0 rfl) ?_
    refine lv_bipush (v := (-3 : Int32)) hx hb dX7_over_22 (by decide) ?_
    obtain ⟨r4, u5, hq3, hf⟩ := ob2_d hf
    refine zwiV (q := (RX7, TX7, 10)) (As := [.int (-3 : Int32)]) (rest := []) (r := r4) (u := u5) (wn := (zW_7 cy h0 (ups (ups w0 3 c0_3) 28 u5))) ⟨hx, hb, hml, hown, hts⟩ (kX7_refuse l dC dI cy h0 (ups (ups w0 3 c0_3) 28 c0_28) (-3 : Int32) H.size (r4, u5) hq3) mw_165 mw_166 mw_883 mw_1 mw_167 hdX7_refuse rfl rfl ⟨Nat.le_of_ble_eq_true rfl, Nat.le_of_ble_eq_true rfl⟩ hP hK hG hS 0 rfl rfl hD hA [0, 1, 2, 3, 4, 5, 6, 7, 8, 9, 10, 11, 12, 13, 14, 15, 16, 17, 18, 19, 20, 21, 22, 23, 24, 25, 26, 27, 28] [] [0, 1, 2, 3, 4, 5, 6, 7, 8, 9, 10, 11, 12, 13, 14, 15, 16, 17, 18, 19, 20, 21, 22, 23, 24, 25, 26, 27, 28] rfl rfl rfl rfl (by decide) rfl rfl rfl hl.1 rfl (Nat.le_of_ble_eq_true rfl) dX7_over_24 ⟨Nat.zero_le _, Nat.zero_le _⟩ (fun H locs hP hD hS => ?_)
    exact zretI hx hb hr hlocks hP hK hD hS hf rfl dX7_over_27
  obtain ⟨ls, hl, he⟩ := zent (m := m) (n := 1) (L := [(0, .ref (h0 0))]) ha (Nat.le_of_ble_eq_true rfl) rfl
  refine W.eq he ?_
  unfold fX7_over at hf
  have kE : ∀ (H : Heap) (locs : List Loc), va_P (dC, dI) vwCl (zW_7 cy h0 (ups (ups w0 3 (w0 3)) 28 (w0 28))) H → va_D A (zW_7 cy h0 (ups (ups w0 3 (w0 3)) 28 (w0 28))) → va_S A s.heap H locs → W p l e ({ frames := 2, cells := 0, slots := 0, locals := 40 } : Room) s m args below meth c H locs 0 0 (MQ below (va_Qi (fun (q : Int32) (v : (Nat → Int32) × (Nat → Int32)) => (q, v) = z) (fun v => aWR (dC, dI) vwCl [(cy, .int)] A (zW_7 cy h0 (ups (ups w0 3 v.1) 28 v.2))) A) args s 0 0 A) (F0 m 0 ls []) := by
    intro H locs hP hD hS
    refine lv_aload_n hx hb dX7_over_0 rfl (lv_at hl 0 rfl) ?_
    refine zget hx hb hts hown hK hP hin_7 0 rfl rfl 2 (by decide) mw_143 (v := .ref (h0 12)) rfl dX7_over_1 ?_
    obtain ⟨r2, hq1, hf⟩ := ob1_d hf
    refine zroV (q := (RX5, TX5, 17)) (As := []) (rest := []) (r := r2) ⟨hx, hb, hml, hown, hts⟩ (kX5_isAlive l dC dI cy (h0 12) (w0 12) r2 hq1) mw_396 mw_365 mw_366 mw_6 mw_367 hdX5_isAlive rfl rfl ⟨Nat.le_of_ble_eq_true rfl, Nat.le_of_ble_eq_true rfl⟩ hP hK hG hS 12 rfl rfl [12] rfl rfl hl.1 rfl (Nat.le_of_ble_eq_true rfl) dX7_over_4 ⟨Nat.zero_le _, Nat.zero_le _⟩ ?_
    refine lv_if_eq (tgt := 21) hx hb dX7_over_7 (by decide) (fun hc => ?_) (fun hc => ?_)
    · have hf := it_t hc hf
      exact k21 (w0 3) (w0 28) H locs ls hP hD hS (lv_sub hl [0] rfl) hf
    · have hf := it_f hc hf
      refine lv_aload_n hx hb dX7_over_10 rfl (lv_at hl 0 rfl) ?_
      refine zget hx hb hts hown hK hP hin_7 0 rfl rfl 1 (by decide) mw_142 (v := .ref (h0 3)) rfl dX7_over_11 ?_
      refine zgetN hx hb hts hG hown hK hP hin_6 3 rfl rfl 8 (by decide) (host := "Embayed") (List.mem_of_getElem? (i := 40) rfl) (v := .int (w0 3 8)) rfl dX7_over_14 ?_
      refine lv_iconst (v := (1 : Int32)) hx hb dX7_over_17 (by decide) ?_
      refine lv_icmp_ge (tgt := 28) hx hb dX7_over_18 (by decide) (fun hc => ?_) (fun hc => ?_)
      · have hf := it_t hc hf
        refine lv_aload_n hx hb dX7_over_28 rfl (lv_at hl 0 rfl) ?_
        refine zget hx hb hts hown hK hP hin_7 0 rfl rfl 1 (by decide) mw_142 (v := .ref (h0 3)) rfl dX7_over_29 ?_
        refine lv_dup hx hb dX7_over_32 rfl ?_
        refine zgetN hx hb hts hG hown hK hP hin_6 3 rfl rfl 8 (by decide) (host := "Embayed") (List.mem_of_getElem? (i := 40) rfl) (v := .int (w0 3 8)) rfl dX7_over_33 ?_
        refine lv_iconst (v := (1 : Int32)) hx hb dX7_over_36 (by decide) ?_
        refine lv_isub hx hb dX7_over_37 ?_
        refine zputN hx hb hts hG hown hK hP hD hS hin_6 tyX6 tyX6_ok nmX6 3 rfl rfl 8 (by decide) (host := "Embayed") (List.mem_of_getElem? (i := 40) rfl) rfl (v := .int ((w0 3 8) - (1 : Int32))) rfl rfl (Nat.le_of_ble_eq_true rfl) (wn := (zW_7 cy h0 (ups (ups w0 3 (ups (w0 3) 8 ((w0 3 8) - (1 : Int32)))) 28 (w0 28)))) rfl dX7_over_38 (fun H locs hP hD hS => ?_)
        refine lv_aload_n hx hb dX7_over_41 rfl (lv_at hl 0 rfl) ?_
        refine zget hx hb hts hown hK hP hin_7 0 rfl rfl 1 (by decide) mw_142 (v := .ref (h0 3)) rfl dX7_over_42 ?_
        refine zgetN hx hb hts hG hown hK hP hin_6 3 rfl rfl 8 (by decide) (host := "Embayed") (List.mem_of_getElem? (i := 40) rfl) (v := .int ((w0 3 8) - (1 : Int32))) rfl dX7_over_45 ?_
        exact zretI hx hb hr hlocks hP hK hD hS hf rfl dX7_over_48
      · have hf := it_f hc hf
        exact k21 (w0 3) (w0 28) H locs ls hP hD hS (lv_sub hl [0] rfl) hf
  exact kE s.heap [] hP hD hS
set_option maxHeartbeats 4000000 in
set_option maxRecDepth 100000 in
theorem kX7_still (l : Launch) (dC : Nat → ClassId) (dI : Nat → Nat → Nat) (cy : ClassId) (h0 : Nat → Nat) (w0 : Nat → Nat → Int32) (x1 : Int32) (sz : Nat) (z : Int32 × (Nat → Int32) × (Nat → Int32)) (hf : fX7_still w0 x1 = some z) : Met l yX7_still (wsM yX7_still cX7_still 2 (some .int)) ({ frames := 6, cells := 0, slots := 0, locals := 147 } : Room) (va_Pc [.ref (h0 0), .int x1] (pWR (dC, dI) vwCl [(cy, .int)] (zW_7 cy h0 w0) sz)) (va_Qi (fun (q : Int32) (v : (Nat → Int32) × (Nat → Int32)) => (q, v) = z) (fun v => aWR (dC, dI) vwCl [(cy, .int)] (va_A (zW_7 cy h0 w0) sz) (zW_7 cy h0 (ups (ups w0 25 v.1) 28 v.2))) (va_A (zW_7 cy h0 w0) sz)) 0 0 (va_A (zW_7 cy h0 w0) sz) := by
  refine Met.ofW (cc := cX7_still) (maxL := 2) (ret := (some .int)) (by decide) rfl ?_
  intro p e s m args below meth c s₁ B hml hv
  obtain ⟨ha, hsz, hP, hK, hD0, hG⟩ := hv
  have hx := B.exec
  have hb := B.bytes
  have hr := B.returns
  have hts : ∀ w ∈ wsA, w.before args s = true := fun w h => atoms_spec (ws := wsM yX7_still cX7_still 2 (some .int)) B.pre w (List.mem_cons_of_mem _ h)
  have hown : s.vm.findClass RX7 = some m.cls := findClass_of_methodNamed B.named
  have hlocks := B.notSynchronized
  subst hsz
  have hD := hD0.self (sz := s.heap.size)
  generalize hAe : va_A (zW_7 cy h0 w0) s.heap.size = A at hD hG ⊢
  have hA : ∀ q : Nat, s.heap.size ≤ q → A q := fun q h => by rw [← hAe]; exact Or.inr h
  have hS : va_S A s.heap s.heap [] := va_S.rf
  have hP : va_P (dC, dI) vwCl (zW_7 cy h0 (ups (ups w0 25 (w0 25)) 28 (w0 28))) s.heap := hP
  have hD : va_D A (zW_7 cy h0 (ups (ups w0 25 (w0 25)) 28 (w0 28))) := hD
  obtain ⟨ls, hl, he⟩ := zent (m := m) (n := 2) (L := [(0, .ref (h0 0)), (1, .int x1)]) ha (Nat.le_of_ble_eq_true rfl) rfl
  refine W.eq he ?_
  unfold fX7_still at hf
  have kE : ∀ (H : Heap) (locs : List Loc), va_P (dC, dI) vwCl (zW_7 cy h0 (ups (ups w0 25 (w0 25)) 28 (w0 28))) H → va_D A (zW_7 cy h0 (ups (ups w0 25 (w0 25)) 28 (w0 28))) → va_S A s.heap H locs → W p l e ({ frames := 6, cells := 0, slots := 0, locals := 147 } : Room) s m args below meth c H locs 0 0 (MQ below (va_Qi (fun (q : Int32) (v : (Nat → Int32) × (Nat → Int32)) => (q, v) = z) (fun v => aWR (dC, dI) vwCl [(cy, .int)] A (zW_7 cy h0 (ups (ups w0 25 v.1) 28 v.2))) A) args s 0 0 A) (F0 m 0 ls []) := by
    intro H locs hP hD hS
    refine lv_aload_n hx hb dX7_still_0 rfl (lv_at hl 0 rfl) ?_
    refine zget hx hb hts hown hK hP hin_7 0 rfl rfl 1 (by decide) mw_142 (v := .ref (h0 3)) rfl dX7_still_1 ?_
    refine zgetN hx hb hts hG hown hK hP hin_6 3 rfl rfl 0 (by decide) (host := "Embayed") (List.mem_of_getElem? (i := 26) rfl) (v := .ref (h0 4)) rfl dX7_still_4 ?_
    refine lv_iload_n hx hb dX7_still_7 rfl (lv_at hl 1 rfl) ?_
    obtain ⟨r2, hq1, hf⟩ := ob1_d hf
    refine zroV (q := (RX1, TX1, 3)) (As := [.int x1]) (rest := []) (r := r2) ⟨hx, hb, hml, hown, hts⟩ (kX1_has l dC dI cy (sh 4 h0) (sh 4 w0) x1 r2 hq1) mw_208 mw_209 mw_210 mw_4 mw_211 hdX1_has rfl rfl ⟨Nat.le_of_ble_eq_true rfl, Nat.le_of_ble_eq_true rfl⟩ hP hK hG hS 4 rfl rfl [4, 5] rfl rfl hl.1 rfl (Nat.le_of_ble_eq_true rfl) dX7_still_8 ⟨Nat.zero_le _, Nat.zero_le _⟩ ?_
    refine lv_if_ne (tgt := 20) hx hb dX7_still_11 (by decide) (fun hc => ?_) (fun hc => ?_)
    · have hf := it_f hc hf
      refine lv_aload_n hx hb dX7_still_20 rfl (lv_at hl 0 rfl) ?_
      refine zget hx hb hts hown hK hP hin_7 0 rfl rfl 6 (by decide) mw_147 (v := .ref (h0 24)) rfl dX7_still_21 ?_
      refine lv_aload_n hx hb dX7_still_24 rfl (lv_at hl 0 rfl) ?_
      refine zget hx hb hts hown hK hP hin_7 0 rfl rfl 1 (by decide) mw_142 (v := .ref (h0 3)) rfl dX7_still_25 ?_
      refine lv_aload_n hx hb dX7_still_28 rfl (lv_at hl 0 rfl) ?_
      refine zget hx hb hts hown hK hP hin_7 0 rfl rfl 2 (by decide) mw_143 (v := .ref (h0 12)) rfl dX7_still_29 ?_
      refine lv_aload_n hx hb dX7_still_32 rfl (lv_at hl 0 rfl) ?_
      refine zget hx hb hts hown hK hP hin_7 0 rfl rfl 1 (by decide) mw_142 (v := .ref (h0 3)) rfl dX7_still_33 ?_
      obtain ⟨r4, hq3, hf⟩ := ob1_d hf
      refine zroV (q := (RX5, TX5, 17)) (As := [.ref (h0 3)]) (rest := [.ref (h0 3), .ref (h0 24)]) (r := r4) ⟨hx, hb, hml, hown, hts⟩ (kX5_windIn l dC dI cy (h0 12) (w0 12) (sh 3 h0) (sh 3 w0) r4 hq3) mw_263 mw_264 mw_265 mw_6 mw_266 hdX5_windIn rfl rfl ⟨Nat.le_of_ble_eq_true rfl, Nat.le_of_ble_eq_true rfl⟩ hP hK hG hS 12 rfl rfl [12, 3, 4, 5, 6, 7, 8, 9, 10, 11] rfl rfl hl.1 rfl (Nat.le_of_ble_eq_true rfl) dX7_still_36 ⟨Nat.zero_le _, Nat.zero_le _⟩ ?_
      obtain ⟨u6, hq5, hf⟩ := ob1_d hf
      refine zwvV (q := (RX2, TX2, 1)) (As := [.ref (h0 3), .int r4]) (rest := []) (u := u6) (wn := (zW_7 cy h0 (ups (ups w0 25 u6) 28 (w0 28)))) ⟨hx, hb, hml, hown, hts⟩ (kX2_reckon l dC dI cy (sh 24 h0) (sh 24 (ups w0 25 (w0 25))) (sh 3 h0) (sh 3 w0) r4 H.size u6 hq5) mw_421 mw_422 mw_423 mw_7 mw_424 hdX2_reckon rfl rfl ⟨Nat.le_of_ble_eq_true rfl, Nat.le_of_ble_eq_true rfl⟩ hP hK hG hS 24 rfl rfl hD hA [24, 25, 3, 4, 5, 6, 7, 8, 9, 10, 11] [0, 1, 2, 12, 13, 14, 15, 16, 17, 18, 19, 20, 21, 22, 23, 26, 27, 28] [0, 1, 2, 20, 21, 22, 23, 24, 25, 26, 27, 28, 3, 4, 5, 6, 7, 8, 9, 10, 11, 12, 13, 14, 18, 19, 15, 16, 17] rfl rfl rfl rfl (by decide) rfl rfl rfl hl.1 rfl (Nat.le_of_ble_eq_true rfl) dX7_still_39 ⟨Nat.zero_le _, Nat.zero_le _⟩ (fun H locs hP hD hS => ?_)
      refine lv_aload_n hx hb dX7_still_42 rfl (lv_at hl 0 rfl) ?_
      refine zget hx hb hts hown hK hP hin_7 0 rfl rfl 6 (by decide) mw_147 (v := .ref (h0 24)) rfl dX7_still_43 ?_
      refine lv_iload_n hx hb dX7_still_46 rfl (lv_at hl 1 rfl) ?_
      obtain ⟨r8, hq7, hf⟩ := ob1_d hf
      refine zroV (q := (RX2, TX2, 1)) (As := [.int x1]) (rest := []) (r := r8) ⟨hx, hb, hml, hown, hts⟩ (kX2_movesFrom l dC dI cy (sh 24 h0) (sh 24 (ups w0 25 u6)) x1 r8 hq7) mw_436 mw_437 mw_438 mw_7 mw_439 hdX2_movesFrom rfl rfl ⟨Nat.le_of_ble_eq_true rfl, Nat.le_of_ble_eq_true rfl⟩ hP hK hG hS 24 rfl rfl [24, 25] rfl rfl hl.1 rfl (Nat.le_of_ble_eq_true rfl) dX7_still_47 ⟨Nat.zero_le _, Nat.zero_le _⟩ ?_
      exact zretI hx hb hr hlocks hP hK hD hS hf rfl dX7_still_50
    · have hf := it_t hc hf
      refine lv_aload_n hx hb dX7_still_14 rfl (lv_at hl 0 rfl) ?_
      refine lv_iconst (v := (-1 : Int32)) hx hb dX7_still_15 (by decide) ?_
      obtain ⟨r10, u11, hq9, hf⟩ := ob2_d hf
      refine zwiV (q := (RX7, TX7, 10)) (As := [.int (-1 : Int32)]) (rest := []) (r := r10) (u := u11) (wn := (zW_7 cy h0 (ups (ups w0 25 (w0 25)) 28 u11))) ⟨hx, hb, hml, hown, hts⟩ (kX7_refuse l dC dI cy h0 (ups (ups w0 25 (w0 25)) 28 (w0 28)) (-1 : Int32) H.size (r10, u11) hq9) mw_165 mw_166 mw_883 mw_1 mw_167 hdX7_refuse rfl rfl ⟨Nat.le_of_ble_eq_true rfl, Nat.le_of_ble_eq_true rfl⟩ hP hK hG hS 0 rfl rfl hD hA [0, 1, 2, 3, 4, 5, 6, 7, 8, 9, 10, 11, 12, 13, 14, 15, 16, 17, 18, 19, 20, 21, 22, 23, 24, 25, 26, 27, 28] [] [0, 1, 2, 3, 4, 5, 6, 7, 8, 9, 10, 11, 12, 13, 14, 15, 16, 17, 18, 19, 20, 21, 22, 23, 24, 25, 26, 27, 28] rfl rfl rfl rfl (by decide) rfl rfl rfl hl.1 rfl (Nat.le_of_ble_eq_true rfl) dX7_still_16 ⟨Nat.zero_le _, Nat.zero_le _⟩ (fun H locs hP hD hS => ?_)
      exact zretI hx hb hr hlocks hP hK hD hS hf rfl dX7_still_19
  exact kE s.heap [] hP hD hS
set_option maxHeartbeats 4000000 in
set_option maxRecDepth 100000 in
theorem kX7_clears (l : Launch) (dC : Nat → ClassId) (dI : Nat → Nat → Nat) (cy : ClassId) (h0 : Nat → Nat) (w0 : Nat → Nat → Int32) (sz : Nat) (z : Int32 × (Nat → Int32)) (hf : fX7_clears w0 = some z) : Met l yX7_clears (wsM yX7_clears cX7_clears 3 (some .int)) ({ frames := 6, cells := 0, slots := 0, locals := 147 } : Room) (va_Pc [.ref (h0 0)] (pWR (dC, dI) vwCl [(cy, .int)] (zW_7 cy h0 w0) sz)) (va_Qi (fun (q : Int32) (v : (Nat → Int32)) => (q, v) = z) (fun v => aWR (dC, dI) vwCl [(cy, .int)] (va_A (zW_7 cy h0 w0) sz) (zW_7 cy h0 (ups w0 25 v))) (va_A (zW_7 cy h0 w0) sz)) 0 0 (va_A (zW_7 cy h0 w0) sz) := by
  refine Met.ofW (cc := cX7_clears) (maxL := 3) (ret := (some .int)) (by decide) rfl ?_
  intro p e s m args below meth c s₁ B hml hv
  obtain ⟨ha, hsz, hP, hK, hD0, hG⟩ := hv
  have hx := B.exec
  have hb := B.bytes
  have hr := B.returns
  have hts : ∀ w ∈ wsA, w.before args s = true := fun w h => atoms_spec (ws := wsM yX7_clears cX7_clears 3 (some .int)) B.pre w (List.mem_cons_of_mem _ h)
  have hown : s.vm.findClass RX7 = some m.cls := findClass_of_methodNamed B.named
  have hlocks := B.notSynchronized
  subst hsz
  have hD := hD0.self (sz := s.heap.size)
  generalize hAe : va_A (zW_7 cy h0 w0) s.heap.size = A at hD hG ⊢
  have hA : ∀ q : Nat, s.heap.size ≤ q → A q := fun q h => by rw [← hAe]; exact Or.inr h
  have hS : va_S A s.heap s.heap [] := va_S.rf
  have hP : va_P (dC, dI) vwCl (zW_7 cy h0 (ups w0 25 (w0 25))) s.heap := hP
  have hD : va_D A (zW_7 cy h0 (ups w0 25 (w0 25))) := hD
  have k56 : ∀ (s26 : (Nat → Int32) → Int32 → Int32 → Option (Int32 × (Nat → Int32))) (hs26 : ∀ (c0_25 : (Nat → Int32)) (x1 : Int32) (x2 : Int32) (H : Heap) (locs : List Loc) (ls : Array Slot), va_P (dC, dI) vwCl (zW_7 cy h0 (ups w0 25 c0_25)) H → va_D A (zW_7 cy h0 (ups w0 25 c0_25)) → va_S A s.heap H locs → lv_has ls 3 [(0, .ref (h0 0)), (1, .int x1), (2, .int x2)] → s26 c0_25 x1 x2 = some z → W p l e ({ frames := 6, cells := 0, slots := 0, locals := 147 } : Room) s m args below meth c H locs 0 0 (MQ below (va_Qi (fun (q : Int32) (v : (Nat → Int32)) => (q, v) = z) (fun v => aWR (dC, dI) vwCl [(cy, .int)] A (zW_7 cy h0 (ups w0 25 v))) A) args s 0 0 A) (F0 m 26 ls [])), ∀ (c0_25 : (Nat → Int32)) (x1 : Int32) (x2 : Int32) (H : Heap) (locs : List Loc) (ls : Array Slot), va_P (dC, dI) vwCl (zW_7 cy h0 (ups w0 25 c0_25)) H → va_D A (zW_7 cy h0 (ups w0 25 c0_25)) → va_S A s.heap H locs → lv_has ls 3 [(0, .ref (h0 0)), (1, .int x1), (2, .int x2)] → (fX7_clears_56 w0 s26) c0_25 x1 x2 = some z → W p l e ({ frames := 6, cells := 0, slots := 0, locals := 147 } : Room) s m args below meth c H locs 0 0 (MQ below (va_Qi (fun (q : Int32) (v : (Nat → Int32)) => (q, v) = z) (fun v => aWR (dC, dI) vwCl [(cy, .int)] A (zW_7 cy h0 (ups w0 25 v))) A) args s 0 0 A) (F0 m 56 ls []) := by
    intro s26 hs26
    intro c0_25 x1 x2 H locs ls hP hD hS hl hf
    unfold fX7_clears_56 at hf
    refine lv_zinc (lv' := [(2, .int (x2 + (1 : Int32))), (0, .ref (h0 0)), (1, .int x1)]) hx hb dX7_clears_56 hl (k := 2) rfl (v := (1 : Int32)) (by decide) (by decide) rfl (fun ls hl => ?_)
    refine lv_goto (tgt := 26) hx hb dX7_clears_59 (by decide) ?_
    exact hs26 c0_25 x1 (x2 + (1 : Int32)) H locs ls hP hD hS (lv_sub hl [1, 2, 0] rfl) hf
  have k26 : ∀ n : Nat, ∀ (c0_25 : (Nat → Int32)) (x1 : Int32) (x2 : Int32) (H : Heap) (locs : List Loc) (ls : Array Slot), va_P (dC, dI) vwCl (zW_7 cy h0 (ups w0 25 c0_25)) H → va_D A (zW_7 cy h0 (ups w0 25 c0_25)) → va_S A s.heap H locs → lv_has ls 3 [(0, .ref (h0 0)), (1, .int x1), (2, .int x2)] → (zl3 (fX7_clears_26 w0) n) c0_25 x1 x2 = some z → W p l e ({ frames := 6, cells := 0, slots := 0, locals := 147 } : Room) s m args below meth c H locs 0 0 (MQ below (va_Qi (fun (q : Int32) (v : (Nat → Int32)) => (q, v) = z) (fun v => aWR (dC, dI) vwCl [(cy, .int)] A (zW_7 cy h0 (ups w0 25 v))) A) args s 0 0 A) (F0 m 26 ls []) := by
    intro n
    induction n with
    | zero =>
      intro c0_25 x1 x2 H locs ls hP hD hS hl hf
      exact z_no hf
    | succ n hs26 =>
      intro c0_25 x1 x2 H locs ls hP hD hS hl hf
      have hf : fX7_clears_26 w0 (zl3 (fX7_clears_26 w0) n) c0_25 x1 x2 = some z := hf
      generalize zl3 (fX7_clears_26 w0) n = s26 at hs26 hf
      unfold fX7_clears_26 at hf
      refine lv_iload_n hx hb dX7_clears_26 rfl (lv_at hl 2 rfl) ?_
      refine lv_aload_n hx hb dX7_clears_27 rfl (lv_at hl 0 rfl) ?_
      refine zget hx hb hts hown hK hP hin_7 0 rfl rfl 1 (by decide) mw_142 (v := .ref (h0 3)) rfl dX7_clears_28 ?_
      refine zgetN hx hb hts hG hown hK hP hin_6 3 rfl rfl 0 (by decide) (host := "Embayed") (List.mem_of_getElem? (i := 26) rfl) (v := .ref (h0 4)) rfl dX7_clears_31 ?_
      obtain ⟨r6, hq5, hf⟩ := ob1_d hf
      refine zroV (q := (RX1, TX1, 3)) (As := []) (rest := [.int x2]) (r := r6) ⟨hx, hb, hml, hown, hts⟩ (kX1_cells l dC dI cy (sh 4 h0) (sh 4 w0) r6 hq5) mw_200 mw_201 mw_202 mw_4 mw_203 hdX1_cells rfl rfl ⟨Nat.le_of_ble_eq_true rfl, Nat.le_of_ble_eq_true rfl⟩ hP hK hG hS 4 rfl rfl [4, 5] rfl rfl hl.1 rfl (Nat.le_of_ble_eq_true rfl) dX7_clears_34 ⟨Nat.zero_le _, Nat.zero_le _⟩ ?_
      refine lv_icmp_ge (tgt := 62) hx hb dX7_clears_37 (by decide) (fun hc => ?_) (fun hc => ?_)
      · have hf := it_t hc hf
        refine lv_iload_n hx hb dX7_clears_62 rfl (lv_at hl 1 rfl) ?_
        exact zretI hx hb hr hlocks hP hK hD hS hf rfl dX7_clears_63
      · have hf := it_f hc hf
        refine lv_aload_n hx hb dX7_clears_40 rfl (lv_at hl 0 rfl) ?_
        refine zget hx hb hts hown hK hP hin_7 0 rfl rfl 6 (by decide) mw_147 (v := .ref (h0 24)) rfl dX7_clears_41 ?_
        refine lv_iload_n hx hb dX7_clears_44 rfl (lv_at hl 2 rfl) ?_
        obtain ⟨r8, hq7, hf⟩ := ob1_d hf
        refine zroV (q := (RX2, TX2, 1)) (As := [.int x2]) (rest := []) (r := r8) ⟨hx, hb, hml, hown, hts⟩ (kX2_movesFrom l dC dI cy (sh 24 h0) (sh 24 (ups w0 25 c0_25)) x2 r8 hq7) mw_436 mw_437 mw_438 mw_7 mw_439 hdX2_movesFrom rfl rfl ⟨Nat.le_of_ble_eq_true rfl, Nat.le_of_ble_eq_true rfl⟩ hP hK hG hS 24 rfl rfl [24, 25] rfl rfl hl.1 rfl (Nat.le_of_ble_eq_true rfl) dX7_clears_45 ⟨Nat.zero_le _, Nat.zero_le _⟩ ?_
        refine lv_bipush (v := (-9 : Int32)) hx hb dX7_clears_48 (by decide) ?_
        refine lv_icmp_eq (tgt := 56) hx hb dX7_clears_50 (by decide) (fun hc => ?_) (fun hc => ?_)
        · have hf := it_t hc hf
          exact k56 s26 hs26 c0_25 x1 x2 H locs ls hP hD hS (lv_sub hl [0, 1, 2] rfl) hf
        · have hf := it_f hc hf
          refine lv_zinc (lv' := [(1, .int (x1 + (1 : Int32))), (0, .ref (h0 0)), (2, .int x2)]) hx hb dX7_clears_53 hl (k := 1) rfl (v := (1 : Int32)) (by decide) (by decide) rfl (fun ls hl => ?_)
          exact k56 s26 hs26 c0_25 (x1 + (1 : Int32)) x2 H locs ls hP hD hS (lv_sub hl [1, 0, 2] rfl) hf
  obtain ⟨ls, hl, he⟩ := zent (m := m) (n := 3) (L := [(0, .ref (h0 0))]) ha (Nat.le_of_ble_eq_true rfl) rfl
  refine W.eq he ?_
  unfold fX7_clears at hf
  have kE : ∀ (H : Heap) (locs : List Loc), va_P (dC, dI) vwCl (zW_7 cy h0 (ups w0 25 (w0 25))) H → va_D A (zW_7 cy h0 (ups w0 25 (w0 25))) → va_S A s.heap H locs → W p l e ({ frames := 6, cells := 0, slots := 0, locals := 147 } : Room) s m args below meth c H locs 0 0 (MQ below (va_Qi (fun (q : Int32) (v : (Nat → Int32)) => (q, v) = z) (fun v => aWR (dC, dI) vwCl [(cy, .int)] A (zW_7 cy h0 (ups w0 25 v))) A) args s 0 0 A) (F0 m 0 ls []) := by
    intro H locs hP hD hS
    refine lv_aload_n hx hb dX7_clears_0 rfl (lv_at hl 0 rfl) ?_
    refine zget hx hb hts hown hK hP hin_7 0 rfl rfl 6 (by decide) mw_147 (v := .ref (h0 24)) rfl dX7_clears_1 ?_
    refine lv_aload_n hx hb dX7_clears_4 rfl (lv_at hl 0 rfl) ?_
    refine zget hx hb hts hown hK hP hin_7 0 rfl rfl 1 (by decide) mw_142 (v := .ref (h0 3)) rfl dX7_clears_5 ?_
    refine lv_aload_n hx hb dX7_clears_8 rfl (lv_at hl 0 rfl) ?_
    refine zget hx hb hts hown hK hP hin_7 0 rfl rfl 2 (by decide) mw_143 (v := .ref (h0 12)) rfl dX7_clears_9 ?_
    refine lv_aload_n hx hb dX7_clears_12 rfl (lv_at hl 0 rfl) ?_
    refine zget hx hb hts hown hK hP hin_7 0 rfl rfl 1 (by decide) mw_142 (v := .ref (h0 3)) rfl dX7_clears_13 ?_
    obtain ⟨r2, hq1, hf⟩ := ob1_d hf
    refine zroV (q := (RX5, TX5, 17)) (As := [.ref (h0 3)]) (rest := [.ref (h0 3), .ref (h0 24)]) (r := r2) ⟨hx, hb, hml, hown, hts⟩ (kX5_windIn l dC dI cy (h0 12) (w0 12) (sh 3 h0) (sh 3 w0) r2 hq1) mw_263 mw_264 mw_265 mw_6 mw_266 hdX5_windIn rfl rfl ⟨Nat.le_of_ble_eq_true rfl, Nat.le_of_ble_eq_true rfl⟩ hP hK hG hS 12 rfl rfl [12, 3, 4, 5, 6, 7, 8, 9, 10, 11] rfl rfl hl.1 rfl (Nat.le_of_ble_eq_true rfl) dX7_clears_16 ⟨Nat.zero_le _, Nat.zero_le _⟩ ?_
    obtain ⟨u4, hq3, hf⟩ := ob1_d hf
    refine zwvV (q := (RX2, TX2, 1)) (As := [.ref (h0 3), .int r2]) (rest := []) (u := u4) (wn := (zW_7 cy h0 (ups w0 25 u4))) ⟨hx, hb, hml, hown, hts⟩ (kX2_reckon l dC dI cy (sh 24 h0) (sh 24 (ups w0 25 (w0 25))) (sh 3 h0) (sh 3 w0) r2 H.size u4 hq3) mw_421 mw_422 mw_423 mw_7 mw_424 hdX2_reckon rfl rfl ⟨Nat.le_of_ble_eq_true rfl, Nat.le_of_ble_eq_true rfl⟩ hP hK hG hS 24 rfl rfl hD hA [24, 25, 3, 4, 5, 6, 7, 8, 9, 10, 11] [0, 1, 2, 12, 13, 14, 15, 16, 17, 18, 19, 20, 21, 22, 23, 26, 27, 28] [0, 1, 2, 20, 21, 22, 23, 24, 25, 26, 27, 28, 3, 4, 5, 6, 7, 8, 9, 10, 11, 12, 13, 14, 18, 19, 15, 16, 17] rfl rfl rfl rfl (by decide) rfl rfl rfl hl.1 rfl (Nat.le_of_ble_eq_true rfl) dX7_clears_19 ⟨Nat.zero_le _, Nat.zero_le _⟩ (fun H locs hP hD hS => ?_)
    refine lv_iconst (v := (0 : Int32)) hx hb dX7_clears_22 (by decide) ?_
    refine lv_istore_n (lv' := [(1, .int (0 : Int32)), (0, .ref (h0 0))]) hx hb dX7_clears_23 rfl hl (by decide) rfl (fun ls hl => ?_)
    refine lv_iconst (v := (0 : Int32)) hx hb dX7_clears_24 (by decide) ?_
    refine lv_istore_n (lv' := [(2, .int (0 : Int32)), (1, .int (0 : Int32)), (0, .ref (h0 0))]) hx hb dX7_clears_25 rfl hl (by decide) rfl (fun ls hl => ?_)
    exact k26 zFU u4 (0 : Int32) (0 : Int32) H locs ls hP hD hS (lv_sub hl [2, 1, 0] rfl) hf
  exact kE s.heap [] hP hD hS
set_option maxHeartbeats 4000000 in
set_option maxRecDepth 100000 in
theorem kX7_line (l : Launch) (dC : Nat → ClassId) (dI : Nat → Nat → Nat) (cy : ClassId) (h0 : Nat → Nat) (w0 : Nat → Nat → Int32) (sz : Nat) (z : Int32 × (Nat → Int32) × (Nat → Int32)) (hf : fX7_line w0 = some z) : Met l yX7_line (wsM yX7_line cX7_line 2 (some .int)) ({ frames := 6, cells := 0, slots := 0, locals := 138 } : Room) (va_Pc [.ref (h0 0)] (pWR (dC, dI) vwCl [(cy, .int)] (zW_7 cy h0 w0) sz)) (va_Qi (fun (q : Int32) (v : (Nat → Int32) × (Nat → Int32)) => (q, v) = z) (fun v => aWR (dC, dI) vwCl [(cy, .int)] (va_A (zW_7 cy h0 w0) sz) (zW_7 cy h0 (ups (ups w0 13 v.1) 28 v.2))) (va_A (zW_7 cy h0 w0) sz)) 0 0 (va_A (zW_7 cy h0 w0) sz) := by
  refine Met.ofW (cc := cX7_line) (maxL := 2) (ret := (some .int)) (by decide) rfl ?_
  intro p e s m args below meth c s₁ B hml hv
  obtain ⟨ha, hsz, hP, hK, hD0, hG⟩ := hv
  have hx := B.exec
  have hb := B.bytes
  have hr := B.returns
  have hts : ∀ w ∈ wsA, w.before args s = true := fun w h => atoms_spec (ws := wsM yX7_line cX7_line 2 (some .int)) B.pre w (List.mem_cons_of_mem _ h)
  have hown : s.vm.findClass RX7 = some m.cls := findClass_of_methodNamed B.named
  have hlocks := B.notSynchronized
  subst hsz
  have hD := hD0.self (sz := s.heap.size)
  generalize hAe : va_A (zW_7 cy h0 w0) s.heap.size = A at hD hG ⊢
  have hA : ∀ q : Nat, s.heap.size ≤ q → A q := fun q h => by rw [← hAe]; exact Or.inr h
  have hS : va_S A s.heap s.heap [] := va_S.rf
  have hP : va_P (dC, dI) vwCl (zW_7 cy h0 (ups (ups w0 13 (w0 13)) 28 (w0 28))) s.heap := hP
  have hD : va_D A (zW_7 cy h0 (ups (ups w0 13 (w0 13)) 28 (w0 28))) := hD
  have k19 : ∀ n : Nat, ∀ (c0_13 : (Nat → Int32)) (c0_28 : (Nat → Int32)) (x1 : Int32) (H : Heap) (locs : List Loc) (ls : Array Slot), va_P (dC, dI) vwCl (zW_7 cy h0 (ups (ups w0 13 c0_13) 28 c0_28)) H → va_D A (zW_7 cy h0 (ups (ups w0 13 c0_13) 28 c0_28)) → va_S A s.heap H locs → lv_has ls 2 [(0, .ref (h0 0)), (1, .int x1)] → (zl3 (fX7_line_19 w0) n) c0_13 c0_28 x1 = some z → W p l e ({ frames := 6, cells := 0, slots := 0, locals := 138 } : Room) s m args below meth c H locs 0 0 (MQ below (va_Qi (fun (q : Int32) (v : (Nat → Int32) × (Nat → Int32)) => (q, v) = z) (fun v => aWR (dC, dI) vwCl [(cy, .int)] A (zW_7 cy h0 (ups (ups w0 13 v.1) 28 v.2))) A) args s 0 0 A) (F0 m 19 ls []) := by
    intro n
    induction n with
    | zero =>
      intro c0_13 c0_28 x1 H locs ls hP hD hS hl hf
      exact z_no hf
    | succ n hs19 =>
      intro c0_13 c0_28 x1 H locs ls hP hD hS hl hf
      have hf : fX7_line_19 w0 (zl3 (fX7_line_19 w0) n) c0_13 c0_28 x1 = some z := hf
      generalize zl3 (fX7_line_19 w0) n = s19 at hs19 hf
      unfold fX7_line_19 at hf
      refine lv_iload_n hx hb dX7_line_19 rfl (lv_at hl 1 rfl) ?_
      refine lv_iconst (v := (3 : Int32)) hx hb dX7_line_20 (by decide) ?_
      refine lv_icmp_gt (tgt := 76) hx hb dX7_line_21 (by decide) (fun hc => ?_) (fun hc => ?_)
      · have hf := it_t hc hf
        refine lv_bipush (v := (-9 : Int32)) hx hb dX7_line_76 (by decide) ?_
        exact zretI hx hb hr hlocks hP hK hD hS hf rfl dX7_line_78
      · have hf := it_f hc hf
        refine lv_aload_n hx hb dX7_line_24 rfl (lv_at hl 0 rfl) ?_
        refine zget hx hb hts hown hK hP hin_7 0 rfl rfl 3 (by decide) mw_144 (v := .ref (h0 13)) rfl dX7_line_25 ?_
        refine lv_aload_n hx hb dX7_line_28 rfl (lv_at hl 0 rfl) ?_
        refine zget hx hb hts hown hK hP hin_7 0 rfl rfl 2 (by decide) mw_143 (v := .ref (h0 12)) rfl dX7_line_29 ?_
        obtain ⟨u2, hq1, hf⟩ := ob1_d hf
        refine zwvV (q := (RX5, TX5, 17)) (As := [.ref (h0 12)]) (rest := []) (u := u2) (wn := (zW_7 cy h0 (ups (ups w0 13 u2) 28 c0_28))) ⟨hx, hb, hml, hown, hts⟩ (kX5_copyFrom l dC dI cy (h0 13) c0_13 (h0 12) (w0 12) H.size u2 hq1) mw_448 mw_449 mw_450 mw_6 mw_451 hdX5_copyFrom rfl rfl ⟨Nat.le_of_ble_eq_true rfl, Nat.le_of_ble_eq_true rfl⟩ hP hK hG hS 13 rfl rfl hD hA [13, 12] [0, 1, 2, 3, 4, 5, 6, 7, 8, 9, 10, 11, 14, 15, 16, 17, 18, 19, 20, 21, 22, 23, 24, 25, 26, 27, 28] [0, 1, 2, 3, 4, 5, 6, 7, 8, 9, 10, 11, 28, 27, 12, 13, 14, 15, 16, 17, 18, 19, 20, 21, 22, 23, 24, 25, 26] rfl rfl rfl rfl (by decide) rfl rfl rfl hl.1 rfl (Nat.le_of_ble_eq_true rfl) dX7_line_32 ⟨Nat.zero_le _, Nat.zero_le _⟩ (fun H locs hP hD hS => ?_)
        refine lv_aload_n hx hb dX7_line_35 rfl (lv_at hl 0 rfl) ?_
        refine zget hx hb hts hown hK hP hin_7 0 rfl rfl 3 (by decide) mw_144 (v := .ref (h0 13)) rfl dX7_line_36 ?_
        refine lv_iload_n hx hb dX7_line_39 rfl (lv_at hl 1 rfl) ?_
        refine zputN hx hb hts hG hown hK hP hD hS hin_5 tyX5 tyX5_ok nmX5 13 rfl rfl 3 (by decide) (host := "Embayed") (List.mem_of_getElem? (i := 46) rfl) rfl (v := .int x1) rfl rfl (Nat.le_of_ble_eq_true rfl) (wn := (zW_7 cy h0 (ups (ups w0 13 (ups u2 3 x1)) 28 c0_28))) rfl dX7_line_40 (fun H locs hP hD hS => ?_)
        refine lv_aload_n hx hb dX7_line_43 rfl (lv_at hl 0 rfl) ?_
        refine zget hx hb hts hown hK hP hin_7 0 rfl rfl 3 (by decide) mw_144 (v := .ref (h0 13)) rfl dX7_line_44 ?_
        refine lv_aload_n hx hb dX7_line_47 rfl (lv_at hl 0 rfl) ?_
        refine zget hx hb hts hown hK hP hin_7 0 rfl rfl 1 (by decide) mw_142 (v := .ref (h0 3)) rfl dX7_line_48 ?_
        refine lv_bipush (v := (60 : Int32)) hx hb dX7_line_51 (by decide) ?_
        obtain ⟨u4, hq3, hf⟩ := ob1_d hf
        refine zwvV (q := (RX5, TX5, 17)) (As := [.ref (h0 3), .int (60 : Int32)]) (rest := []) (u := u4) (wn := (zW_7 cy h0 (ups (ups w0 13 u4) 28 c0_28))) ⟨hx, hb, hml, hown, hts⟩ (kX5_passTens l dC dI cy (h0 13) (ups u2 3 x1) (sh 3 h0) (sh 3 w0) (60 : Int32) H.size u4 hq3) mw_300 mw_301 mw_302 mw_6 mw_303 hdX5_passTens rfl rfl ⟨Nat.le_of_ble_eq_true rfl, Nat.le_of_ble_eq_true rfl⟩ hP hK hG hS 13 rfl rfl hD hA [13, 3, 4, 5, 6, 7, 8, 9, 10, 11] [0, 1, 2, 12, 14, 15, 16, 17, 18, 19, 20, 21, 22, 23, 24, 25, 26, 27, 28] [0, 1, 2, 20, 21, 22, 23, 24, 25, 26, 27, 28, 3, 19, 4, 5, 6, 7, 8, 9, 10, 11, 12, 13, 14, 15, 16, 17, 18] rfl rfl rfl rfl (by decide) rfl rfl rfl hl.1 rfl (Nat.le_of_ble_eq_true rfl) dX7_line_53 ⟨Nat.zero_le _, Nat.zero_le _⟩ (fun H locs hP hD hS => ?_)
        refine lv_aload_n hx hb dX7_line_56 rfl (lv_at hl 0 rfl) ?_
        refine zget hx hb hts hown hK hP hin_7 0 rfl rfl 3 (by decide) mw_144 (v := .ref (h0 13)) rfl dX7_line_57 ?_
        refine zgetN hx hb hts hG hown hK hP hin_5 13 rfl rfl 10 (by decide) (host := "Embayed") (List.mem_of_getElem? (i := 53) rfl) (v := .int (u4 10)) rfl dX7_line_60 ?_
        refine lv_bipush (v := (8 : Int32)) hx hb dX7_line_63 (by decide) ?_
        refine lv_icmp_ne (tgt := 70) hx hb dX7_line_65 (by decide) (fun hc => ?_) (fun hc => ?_)
        · have hf := it_f hc hf
          refine lv_zinc (lv' := [(1, .int (x1 + (1 : Int32))), (0, .ref (h0 0))]) hx hb dX7_line_70 hl (k := 1) rfl (v := (1 : Int32)) (by decide) (by decide) rfl (fun ls hl => ?_)
          refine lv_goto (tgt := 19) hx hb dX7_line_73 (by decide) ?_
          exact hs19 u4 c0_28 (x1 + (1 : Int32)) H locs ls hP hD hS (lv_sub hl [1, 0] rfl) hf
        · have hf := it_t hc hf
          refine lv_iload_n hx hb dX7_line_68 rfl (lv_at hl 1 rfl) ?_
          exact zretI hx hb hr hlocks hP hK hD hS hf rfl dX7_line_69
  obtain ⟨ls, hl, he⟩ := zent (m := m) (n := 2) (L := [(0, .ref (h0 0))]) ha (Nat.le_of_ble_eq_true rfl) rfl
  refine W.eq he ?_
  unfold fX7_line at hf
  have kE : ∀ (H : Heap) (locs : List Loc), va_P (dC, dI) vwCl (zW_7 cy h0 (ups (ups w0 13 (w0 13)) 28 (w0 28))) H → va_D A (zW_7 cy h0 (ups (ups w0 13 (w0 13)) 28 (w0 28))) → va_S A s.heap H locs → W p l e ({ frames := 6, cells := 0, slots := 0, locals := 138 } : Room) s m args below meth c H locs 0 0 (MQ below (va_Qi (fun (q : Int32) (v : (Nat → Int32) × (Nat → Int32)) => (q, v) = z) (fun v => aWR (dC, dI) vwCl [(cy, .int)] A (zW_7 cy h0 (ups (ups w0 13 v.1) 28 v.2))) A) args s 0 0 A) (F0 m 0 ls []) := by
    intro H locs hP hD hS
    refine lv_aload_n hx hb dX7_line_0 rfl (lv_at hl 0 rfl) ?_
    refine zget hx hb hts hown hK hP hin_7 0 rfl rfl 2 (by decide) mw_143 (v := .ref (h0 12)) rfl dX7_line_1 ?_
    refine zgetN hx hb hts hG hown hK hP hin_5 12 rfl rfl 0 (by decide) (host := "Embayed") (List.mem_of_getElem? (i := 42) rfl) (v := .int (w0 12 0)) rfl dX7_line_4 ?_
    refine lv_if_ne (tgt := 17) hx hb dX7_line_7 (by decide) (fun hc => ?_) (fun hc => ?_)
    · have hf := it_f hc hf
      refine lv_iconst (v := (1 : Int32)) hx hb dX7_line_17 (by decide) ?_
      refine lv_istore_n (lv' := [(1, .int (1 : Int32)), (0, .ref (h0 0))]) hx hb dX7_line_18 rfl hl (by decide) rfl (fun ls hl => ?_)
      exact k19 zFU (w0 13) (w0 28) (1 : Int32) H locs ls hP hD hS (lv_sub hl [1, 0] rfl) hf
    · have hf := it_t hc hf
      refine lv_aload_n hx hb dX7_line_10 rfl (lv_at hl 0 rfl) ?_
      refine lv_bipush (v := (-3 : Int32)) hx hb dX7_line_11 (by decide) ?_
      obtain ⟨r6, u7, hq5, hf⟩ := ob2_d hf
      refine zwiV (q := (RX7, TX7, 10)) (As := [.int (-3 : Int32)]) (rest := []) (r := r6) (u := u7) (wn := (zW_7 cy h0 (ups (ups w0 13 (w0 13)) 28 u7))) ⟨hx, hb, hml, hown, hts⟩ (kX7_refuse l dC dI cy h0 (ups (ups w0 13 (w0 13)) 28 (w0 28)) (-3 : Int32) H.size (r6, u7) hq5) mw_165 mw_166 mw_883 mw_1 mw_167 hdX7_refuse rfl rfl ⟨Nat.le_of_ble_eq_true rfl, Nat.le_of_ble_eq_true rfl⟩ hP hK hG hS 0 rfl rfl hD hA [0, 1, 2, 3, 4, 5, 6, 7, 8, 9, 10, 11, 12, 13, 14, 15, 16, 17, 18, 19, 20, 21, 22, 23, 24, 25, 26, 27, 28] [] [0, 1, 2, 3, 4, 5, 6, 7, 8, 9, 10, 11, 12, 13, 14, 15, 16, 17, 18, 19, 20, 21, 22, 23, 24, 25, 26, 27, 28] rfl rfl rfl rfl (by decide) rfl rfl rfl hl.1 rfl (Nat.le_of_ble_eq_true rfl) dX7_line_13 ⟨Nat.zero_le _, Nat.zero_le _⟩ (fun H locs hP hD hS => ?_)
      exact zretI hx hb hr hlocks hP hK hD hS hf rfl dX7_line_16
  exact kE s.heap [] hP hD hS
set_option maxHeartbeats 4000000 in
set_option maxRecDepth 100000 in
theorem kX7_lighter (l : Launch) (dC : Nat → ClassId) (dI : Nat → Nat → Nat) (cy : ClassId) (h0 : Nat → Nat) (w0 : Nat → Nat → Int32) (sz : Nat) (z : Int32 × (Nat → Int32) × (Nat → Int32)) (hf : fX7_lighter w0 = some z) : Met l yX7_lighter (wsM yX7_lighter cX7_lighter 2 (some .int)) ({ frames := 6, cells := 0, slots := 0, locals := 137 } : Room) (va_Pc [.ref (h0 0)] (pWR (dC, dI) vwCl [(cy, .int)] (zW_7 cy h0 w0) sz)) (va_Qi (fun (q : Int32) (v : (Nat → Int32) × (Nat → Int32)) => (q, v) = z) (fun v => aWR (dC, dI) vwCl [(cy, .int)] (va_A (zW_7 cy h0 w0) sz) (zW_7 cy h0 (ups (ups w0 13 v.1) 28 v.2))) (va_A (zW_7 cy h0 w0) sz)) 0 0 (va_A (zW_7 cy h0 w0) sz) := by
  refine Met.ofW (cc := cX7_lighter) (maxL := 2) (ret := (some .int)) (by decide) rfl ?_
  intro p e s m args below meth c s₁ B hml hv
  obtain ⟨ha, hsz, hP, hK, hD0, hG⟩ := hv
  have hx := B.exec
  have hb := B.bytes
  have hr := B.returns
  have hts : ∀ w ∈ wsA, w.before args s = true := fun w h => atoms_spec (ws := wsM yX7_lighter cX7_lighter 2 (some .int)) B.pre w (List.mem_cons_of_mem _ h)
  have hown : s.vm.findClass RX7 = some m.cls := findClass_of_methodNamed B.named
  have hlocks := B.notSynchronized
  subst hsz
  have hD := hD0.self (sz := s.heap.size)
  generalize hAe : va_A (zW_7 cy h0 w0) s.heap.size = A at hD hG ⊢
  have hA : ∀ q : Nat, s.heap.size ≤ q → A q := fun q h => by rw [← hAe]; exact Or.inr h
  have hS : va_S A s.heap s.heap [] := va_S.rf
  have hP : va_P (dC, dI) vwCl (zW_7 cy h0 (ups (ups w0 13 (w0 13)) 28 (w0 28))) s.heap := hP
  have hD : va_D A (zW_7 cy h0 (ups (ups w0 13 (w0 13)) 28 (w0 28))) := hD
  obtain ⟨ls, hl, he⟩ := zent (m := m) (n := 2) (L := [(0, .ref (h0 0))]) ha (Nat.le_of_ble_eq_true rfl) rfl
  refine W.eq he ?_
  unfold fX7_lighter at hf
  have kE : ∀ (H : Heap) (locs : List Loc), va_P (dC, dI) vwCl (zW_7 cy h0 (ups (ups w0 13 (w0 13)) 28 (w0 28))) H → va_D A (zW_7 cy h0 (ups (ups w0 13 (w0 13)) 28 (w0 28))) → va_S A s.heap H locs → W p l e ({ frames := 6, cells := 0, slots := 0, locals := 137 } : Room) s m args below meth c H locs 0 0 (MQ below (va_Qi (fun (q : Int32) (v : (Nat → Int32) × (Nat → Int32)) => (q, v) = z) (fun v => aWR (dC, dI) vwCl [(cy, .int)] A (zW_7 cy h0 (ups (ups w0 13 v.1) 28 v.2))) A) args s 0 0 A) (F0 m 0 ls []) := by
    intro H locs hP hD hS
    refine lv_aload_n hx hb dX7_lighter_0 rfl (lv_at hl 0 rfl) ?_
    refine zget hx hb hts hown hK hP hin_7 0 rfl rfl 2 (by decide) mw_143 (v := .ref (h0 12)) rfl dX7_lighter_1 ?_
    refine zgetN hx hb hts hG hown hK hP hin_5 12 rfl rfl 0 (by decide) (host := "Embayed") (List.mem_of_getElem? (i := 42) rfl) (v := .int (w0 12 0)) rfl dX7_lighter_4 ?_
    refine lv_if_ne (tgt := 20) hx hb dX7_lighter_7 (by decide) (fun hc => ?_) (fun hc => ?_)
    · have hf := it_f hc hf
      refine lv_aload_n hx hb dX7_lighter_20 rfl (lv_at hl 0 rfl) ?_
      refine zget hx hb hts hown hK hP hin_7 0 rfl rfl 3 (by decide) mw_144 (v := .ref (h0 13)) rfl dX7_lighter_21 ?_
      refine lv_aload_n hx hb dX7_lighter_24 rfl (lv_at hl 0 rfl) ?_
      refine zget hx hb hts hown hK hP hin_7 0 rfl rfl 2 (by decide) mw_143 (v := .ref (h0 12)) rfl dX7_lighter_25 ?_
      obtain ⟨u2, hq1, hf⟩ := ob1_d hf
      refine zwvV (q := (RX5, TX5, 17)) (As := [.ref (h0 12)]) (rest := []) (u := u2) (wn := (zW_7 cy h0 (ups (ups w0 13 u2) 28 (w0 28)))) ⟨hx, hb, hml, hown, hts⟩ (kX5_copyFrom l dC dI cy (h0 13) (w0 13) (h0 12) (w0 12) H.size u2 hq1) mw_448 mw_449 mw_450 mw_6 mw_451 hdX5_copyFrom rfl rfl ⟨Nat.le_of_ble_eq_true rfl, Nat.le_of_ble_eq_true rfl⟩ hP hK hG hS 13 rfl rfl hD hA [13, 12] [0, 1, 2, 3, 4, 5, 6, 7, 8, 9, 10, 11, 14, 15, 16, 17, 18, 19, 20, 21, 22, 23, 24, 25, 26, 27, 28] [0, 1, 2, 3, 4, 5, 6, 7, 8, 9, 10, 11, 28, 27, 12, 13, 14, 15, 16, 17, 18, 19, 20, 21, 22, 23, 24, 25, 26] rfl rfl rfl rfl (by decide) rfl rfl rfl hl.1 rfl (Nat.le_of_ble_eq_true rfl) dX7_lighter_28 ⟨Nat.zero_le _, Nat.zero_le _⟩ (fun H locs hP hD hS => ?_)
      refine lv_aload_n hx hb dX7_lighter_31 rfl (lv_at hl 0 rfl) ?_
      refine zget hx hb hts hown hK hP hin_7 0 rfl rfl 3 (by decide) mw_144 (v := .ref (h0 13)) rfl dX7_lighter_32 ?_
      refine lv_iconst (v := (1 : Int32)) hx hb dX7_lighter_35 (by decide) ?_
      refine zputN hx hb hts hG hown hK hP hD hS hin_5 tyX5 tyX5_ok nmX5 13 rfl rfl 13 (by decide) (host := "Embayed") (List.mem_of_getElem? (i := 54) rfl) rfl (v := .int (1 : Int32)) rfl rfl (Nat.le_of_ble_eq_true rfl) (wn := (zW_7 cy h0 (ups (ups w0 13 (ups u2 13 (1 : Int32))) 28 (w0 28)))) rfl dX7_lighter_36 (fun H locs hP hD hS => ?_)
      refine lv_aload_n hx hb dX7_lighter_39 rfl (lv_at hl 0 rfl) ?_
      refine zget hx hb hts hown hK hP hin_7 0 rfl rfl 3 (by decide) mw_144 (v := .ref (h0 13)) rfl dX7_lighter_40 ?_
      refine lv_aload_n hx hb dX7_lighter_43 rfl (lv_at hl 0 rfl) ?_
      refine zget hx hb hts hown hK hP hin_7 0 rfl rfl 1 (by decide) mw_142 (v := .ref (h0 3)) rfl dX7_lighter_44 ?_
      obtain ⟨r4, u5, hq3, hf⟩ := ob2_d hf
      refine zwiV (q := (RX5, TX5, 17)) (As := [.ref (h0 3)]) (rest := []) (r := r4) (u := u5) (wn := (zW_7 cy h0 (ups (ups w0 13 u5) 28 (w0 28)))) ⟨hx, hb, hml, hown, hts⟩ (kX5_tensTillEnded l dC dI cy (h0 13) (ups u2 13 (1 : Int32)) (sh 3 h0) (sh 3 w0) H.size (r4, u5) hq3) mw_457 mw_458 mw_459 mw_6 mw_460 hdX5_tensTillEnded rfl rfl ⟨Nat.le_of_ble_eq_true rfl, Nat.le_of_ble_eq_true rfl⟩ hP hK hG hS 13 rfl rfl hD hA [13, 3, 4, 5, 6, 7, 8, 9, 10, 11] [0, 1, 2, 12, 14, 15, 16, 17, 18, 19, 20, 21, 22, 23, 24, 25, 26, 27, 28] [0, 1, 2, 20, 21, 22, 23, 24, 25, 26, 27, 28, 3, 19, 4, 5, 6, 7, 8, 9, 10, 11, 12, 13, 14, 15, 16, 17, 18] rfl rfl rfl rfl (by decide) rfl rfl rfl hl.1 rfl (Nat.le_of_ble_eq_true rfl) dX7_lighter_47 ⟨Nat.zero_le _, Nat.zero_le _⟩ (fun H locs hP hD hS => ?_)
      refine lv_istore_n (lv' := [(1, .int r4), (0, .ref (h0 0))]) hx hb dX7_lighter_50 rfl hl (by decide) rfl (fun ls hl => ?_)
      refine lv_aload_n hx hb dX7_lighter_51 rfl (lv_at hl 1 rfl) ?_
      refine zget hx hb hts hown hK hP hin_7 0 rfl rfl 3 (by decide) mw_144 (v := .ref (h0 13)) rfl dX7_lighter_52 ?_
      refine lv_aload_n hx hb dX7_lighter_55 rfl (lv_at hl 1 rfl) ?_
      refine zget hx hb hts hown hK hP hin_7 0 rfl rfl 2 (by decide) mw_143 (v := .ref (h0 12)) rfl dX7_lighter_56 ?_
      obtain ⟨u7, hq6, hf⟩ := ob1_d hf
      refine zwvV (q := (RX5, TX5, 17)) (As := [.ref (h0 12)]) (rest := []) (u := u7) (wn := (zW_7 cy h0 (ups (ups w0 13 u7) 28 (w0 28)))) ⟨hx, hb, hml, hown, hts⟩ (kX5_copyFrom l dC dI cy (h0 13) u5 (h0 12) (w0 12) H.size u7 hq6) mw_448 mw_449 mw_450 mw_6 mw_451 hdX5_copyFrom rfl rfl ⟨Nat.le_of_ble_eq_true rfl, Nat.le_of_ble_eq_true rfl⟩ hP hK hG hS 13 rfl rfl hD hA [13, 12] [0, 1, 2, 3, 4, 5, 6, 7, 8, 9, 10, 11, 14, 15, 16, 17, 18, 19, 20, 21, 22, 23, 24, 25, 26, 27, 28] [0, 1, 2, 3, 4, 5, 6, 7, 8, 9, 10, 11, 28, 27, 12, 13, 14, 15, 16, 17, 18, 19, 20, 21, 22, 23, 24, 25, 26] rfl rfl rfl rfl (by decide) rfl rfl rfl hl.1 rfl (Nat.le_of_ble_eq_true rfl) dX7_lighter_59 ⟨Nat.zero_le _, Nat.zero_le _⟩ (fun H locs hP hD hS => ?_)
      refine lv_iload_n hx hb dX7_lighter_62 rfl (lv_at hl 0 rfl) ?_
      refine lv_aload_n hx hb dX7_lighter_63 rfl (lv_at hl 1 rfl) ?_
      refine zget hx hb hts hown hK hP hin_7 0 rfl rfl 3 (by decide) mw_144 (v := .ref (h0 13)) rfl dX7_lighter_64 ?_
      refine lv_aload_n hx hb dX7_lighter_67 rfl (lv_at hl 1 rfl) ?_
      refine zget hx hb hts hown hK hP hin_7 0 rfl rfl 1 (by decide) mw_142 (v := .ref (h0 3)) rfl dX7_lighter_68 ?_
      obtain ⟨r9, u10, hq8, hf⟩ := ob2_d hf
      refine zwiV (q := (RX5, TX5, 17)) (As := [.ref (h0 3)]) (rest := [.int r4]) (r := r9) (u := u10) (wn := (zW_7 cy h0 (ups (ups w0 13 u10) 28 (w0 28)))) ⟨hx, hb, hml, hown, hts⟩ (kX5_tensTillEnded l dC dI cy (h0 13) u7 (sh 3 h0) (sh 3 w0) H.size (r9, u10) hq8) mw_457 mw_458 mw_459 mw_6 mw_460 hdX5_tensTillEnded rfl rfl ⟨Nat.le_of_ble_eq_true rfl, Nat.le_of_ble_eq_true rfl⟩ hP hK hG hS 13 rfl rfl hD hA [13, 3, 4, 5, 6, 7, 8, 9, 10, 11] [0, 1, 2, 12, 14, 15, 16, 17, 18, 19, 20, 21, 22, 23, 24, 25, 26, 27, 28] [0, 1, 2, 20, 21, 22, 23, 24, 25, 26, 27, 28, 3, 19, 4, 5, 6, 7, 8, 9, 10, 11, 12, 13, 14, 15, 16, 17, 18] rfl rfl rfl rfl (by decide) rfl rfl rfl hl.1 rfl (Nat.le_of_ble_eq_true rfl) dX7_lighter_71 ⟨Nat.zero_le _, Nat.zero_le _⟩ (fun H locs hP hD hS => ?_)
      refine lv_isub hx hb dX7_lighter_74 ?_
      exact zretI hx hb hr hlocks hP hK hD hS hf rfl dX7_lighter_75
    · have hf := it_t hc hf
      refine lv_ldc (v := (1000000000 : Int32)) hx hb hown (hts _ mw_456) dX7_lighter_10 ?_
      refine lv_aload_n hx hb dX7_lighter_12 rfl (lv_at hl 0 rfl) ?_
      refine lv_bipush (v := (-3 : Int32)) hx hb dX7_lighter_13 (by decide) ?_
      obtain ⟨r12, u13, hq11, hf⟩ := ob2_d hf
      refine zwiV (q := (RX7, TX7, 10)) (As := [.int (-3 : Int32)]) (rest := [.int (1000000000 : Int32)]) (r := r12) (u := u13) (wn := (zW_7 cy h0 (ups (ups w0 13 (w0 13)) 28 u13))) ⟨hx, hb, hml, hown, hts⟩ (kX7_refuse l dC dI cy h0 (ups (ups w0 13 (w0 13)) 28 (w0 28)) (-3 : Int32) H.size (r12, u13) hq11) mw_165 mw_166 mw_883 mw_1 mw_167 hdX7_refuse rfl rfl ⟨Nat.le_of_ble_eq_true rfl, Nat.le_of_ble_eq_true rfl⟩ hP hK hG hS 0 rfl rfl hD hA [0, 1, 2, 3, 4, 5, 6, 7, 8, 9, 10, 11, 12, 13, 14, 15, 16, 17, 18, 19, 20, 21, 22, 23, 24, 25, 26, 27, 28] [] [0, 1, 2, 3, 4, 5, 6, 7, 8, 9, 10, 11, 12, 13, 14, 15, 16, 17, 18, 19, 20, 21, 22, 23, 24, 25, 26, 27, 28] rfl rfl rfl rfl (by decide) rfl rfl rfl hl.1 rfl (Nat.le_of_ble_eq_true rfl) dX7_lighter_15 ⟨Nat.zero_le _, Nat.zero_le _⟩ (fun H locs hP hD hS => ?_)
      refine lv_isub hx hb dX7_lighter_18 ?_
      exact zretI hx hb hr hlocks hP hK hD hS hf rfl dX7_lighter_19
  exact kE s.heap [] hP hD hS
set_option maxHeartbeats 4000000 in
set_option maxRecDepth 100000 in
theorem kX7_holds (l : Launch) (dC : Nat → ClassId) (dI : Nat → Nat → Nat) (cy : ClassId) (h0 : Nat → Nat) (w0 : Nat → Nat → Int32) (x1 : Int32) (x2 : Int32) (x3 : Int32) (sz : Nat) (z : Int32 × (Nat → Int32)) (hf : fX7_holds w0 x1 x2 x3 = some z) : Met l yX7_holds (wsM yX7_holds cX7_holds 6 (some .int)) ({ frames := 2, cells := 0, slots := 0, locals := 42 } : Room) (va_Pc [.ref (h0 0), .int x1, .int x2, .int x3] (pWR (dC, dI) vwCl [(cy, .int)] (zW_7 cy h0 w0) sz)) (va_Qi (fun (q : Int32) (v : (Nat → Int32)) => (q, v) = z) (fun v => aWR (dC, dI) vwCl [(cy, .int)] (va_A (zW_7 cy h0 w0) sz) (zW_7 cy h0 (ups w0 28 v))) (va_A (zW_7 cy h0 w0) sz)) 0 0 (va_A (zW_7 cy h0 w0) sz) := by
  refine Met.ofW (cc := cX7_holds) (maxL := 6) (ret := (some .int)) (by decide) rfl ?_
  intro p e s m args below meth c s₁ B hml hv
  obtain ⟨ha, hsz, hP, hK, hD0, hG⟩ := hv
  have hx := B.exec
  have hb := B.bytes
  have hr := B.returns
  have hts : ∀ w ∈ wsA, w.before args s = true := fun w h => atoms_spec (ws := wsM yX7_holds cX7_holds 6 (some .int)) B.pre w (List.mem_cons_of_mem _ h)
  have hown : s.vm.findClass RX7 = some m.cls := findClass_of_methodNamed B.named
  have hlocks := B.notSynchronized
  subst hsz
  have hD := hD0.self (sz := s.heap.size)
  generalize hAe : va_A (zW_7 cy h0 w0) s.heap.size = A at hD hG ⊢
  have hA : ∀ q : Nat, s.heap.size ≤ q → A q := fun q h => by rw [← hAe]; exact Or.inr h
  have hS : va_S A s.heap s.heap [] := va_S.rf
  have hP : va_P (dC, dI) vwCl (zW_7 cy h0 (ups w0 28 (w0 28))) s.heap := hP
  have hD : va_D A (zW_7 cy h0 (ups w0 28 (w0 28))) := hD
  have k28 : ∀ (c0_28 : (Nat → Int32)) (H : Heap) (locs : List Loc) (ls : Array Slot), va_P (dC, dI) vwCl (zW_7 cy h0 (ups w0 28 c0_28)) H → va_D A (zW_7 cy h0 (ups w0 28 c0_28)) → va_S A s.heap H locs → lv_has ls 6 [(0, .ref (h0 0))] → (fX7_holds_28 w0) c0_28 = some z → W p l e ({ frames := 2, cells := 0, slots := 0, locals := 42 } : Room) s m args below meth c H locs 0 0 (MQ below (va_Qi (fun (q : Int32) (v : (Nat → Int32)) => (q, v) = z) (fun v => aWR (dC, dI) vwCl [(cy, .int)] A (zW_7 cy h0 (ups w0 28 v))) A) args s 0 0 A) (F0 m 28 ls []) := by
    intro c0_28 H locs ls hP hD hS hl hf
    unfold fX7_holds_28 at hf
    refine lv_aload_n hx hb dX7_holds_28 rfl (lv_at hl 0 rfl) ?_
    refine lv_bipush (v := (-4 : Int32)) hx hb dX7_holds_29 (by decide) ?_
    obtain ⟨r4, u5, hq3, hf⟩ := ob2_d hf
    refine zwiV (q := (RX7, TX7, 10)) (As := [.int (-4 : Int32)]) (rest := []) (r := r4) (u := u5) (wn := (zW_7 cy h0 (ups w0 28 u5))) ⟨hx, hb, hml, hown, hts⟩ (kX7_refuse l dC dI cy h0 (ups w0 28 c0_28) (-4 : Int32) H.size (r4, u5) hq3) mw_165 mw_166 mw_883 mw_1 mw_167 hdX7_refuse rfl rfl ⟨Nat.le_of_ble_eq_true rfl, Nat.le_of_ble_eq_true rfl⟩ hP hK hG hS 0 rfl rfl hD hA [0, 1, 2, 3, 4, 5, 6, 7, 8, 9, 10, 11, 12, 13, 14, 15, 16, 17, 18, 19, 20, 21, 22, 23, 24, 25, 26, 27, 28] [] [0, 1, 2, 3, 4, 5, 6, 7, 8, 9, 10, 11, 12, 13, 14, 15, 16, 17, 18, 19, 20, 21, 22, 23, 24, 25, 26, 27, 28] rfl rfl rfl rfl (by decide) rfl rfl rfl hl.1 rfl (Nat.le_of_ble_eq_true rfl) dX7_holds_31 ⟨Nat.zero_le _, Nat.zero_le _⟩ (fun H locs hP hD hS => ?_)
    exact zretI hx hb hr hlocks hP hK hD hS hf rfl dX7_holds_34
  have k45 : ∀ (c0_28 : (Nat → Int32)) (H : Heap) (locs : List Loc) (ls : Array Slot), va_P (dC, dI) vwCl (zW_7 cy h0 (ups w0 28 c0_28)) H → va_D A (zW_7 cy h0 (ups w0 28 c0_28)) → va_S A s.heap H locs → lv_has ls 6 [(0, .ref (h0 0))] → (fX7_holds_45 w0) c0_28 = some z → W p l e ({ frames := 2, cells := 0, slots := 0, locals := 42 } : Room) s m args below meth c H locs 0 0 (MQ below (va_Qi (fun (q : Int32) (v : (Nat → Int32)) => (q, v) = z) (fun v => aWR (dC, dI) vwCl [(cy, .int)] A (zW_7 cy h0 (ups w0 28 v))) A) args s 0 0 A) (F0 m 45 ls []) := by
    intro c0_28 H locs ls hP hD hS hl hf
    unfold fX7_holds_45 at hf
    refine lv_aload_n hx hb dX7_holds_45 rfl (lv_at hl 0 rfl) ?_
    refine lv_bipush (v := (-6 : Int32)) hx hb dX7_holds_46 (by decide) ?_
    obtain ⟨r7, u8, hq6, hf⟩ := ob2_d hf
    refine zwiV (q := (RX7, TX7, 10)) (As := [.int (-6 : Int32)]) (rest := []) (r := r7) (u := u8) (wn := (zW_7 cy h0 (ups w0 28 u8))) ⟨hx, hb, hml, hown, hts⟩ (kX7_refuse l dC dI cy h0 (ups w0 28 c0_28) (-6 : Int32) H.size (r7, u8) hq6) mw_165 mw_166 mw_883 mw_1 mw_167 hdX7_refuse rfl rfl ⟨Nat.le_of_ble_eq_true rfl, Nat.le_of_ble_eq_true rfl⟩ hP hK hG hS 0 rfl rfl hD hA [0, 1, 2, 3, 4, 5, 6, 7, 8, 9, 10, 11, 12, 13, 14, 15, 16, 17, 18, 19, 20, 21, 22, 23, 24, 25, 26, 27, 28] [] [0, 1, 2, 3, 4, 5, 6, 7, 8, 9, 10, 11, 12, 13, 14, 15, 16, 17, 18, 19, 20, 21, 22, 23, 24, 25, 26, 27, 28] rfl rfl rfl rfl (by decide) rfl rfl rfl hl.1 rfl (Nat.le_of_ble_eq_true rfl) dX7_holds_48 ⟨Nat.zero_le _, Nat.zero_le _⟩ (fun H locs hP hD hS => ?_)
    exact zretI hx hb hr hlocks hP hK hD hS hf rfl dX7_holds_51
  have k84 : ∀ n : Nat, ∀ (c0_28 : (Nat → Int32)) (x2 : Int32) (x3 : Int32) (x4 : Int32) (x5 : Int32) (H : Heap) (locs : List Loc) (ls : Array Slot), va_P (dC, dI) vwCl (zW_7 cy h0 (ups w0 28 c0_28)) H → va_D A (zW_7 cy h0 (ups w0 28 c0_28)) → va_S A s.heap H locs → lv_has ls 6 [(2, .int x2), (3, .int x3), (4, .int x4), (5, .int x5)] → (zl5 (fX7_holds_84 w0) n) c0_28 x2 x3 x4 x5 = some z → W p l e ({ frames := 2, cells := 0, slots := 0, locals := 42 } : Room) s m args below meth c H locs 0 0 (MQ below (va_Qi (fun (q : Int32) (v : (Nat → Int32)) => (q, v) = z) (fun v => aWR (dC, dI) vwCl [(cy, .int)] A (zW_7 cy h0 (ups w0 28 v))) A) args s 0 0 A) (F0 m 84 ls []) := by
    intro n
    induction n with
    | zero =>
      intro c0_28 x2 x3 x4 x5 H locs ls hP hD hS hl hf
      exact z_no hf
    | succ n hs84 =>
      intro c0_28 x2 x3 x4 x5 H locs ls hP hD hS hl hf
      have hf : fX7_holds_84 w0 (zl5 (fX7_holds_84 w0) n) c0_28 x2 x3 x4 x5 = some z := hf
      generalize zl5 (fX7_holds_84 w0) n = s84 at hs84 hf
      unfold fX7_holds_84 at hf
      refine lv_iload hx hb dX7_holds_84 (lv_at hl 3 rfl) ?_
      refine lv_if_lt (tgt := 113) hx hb dX7_holds_86 (by decide) (fun hc => ?_) (fun hc => ?_)
      · have hf := it_t hc hf
        refine lv_bipush (v := (-9 : Int32)) hx hb dX7_holds_113 (by decide) ?_
        exact zretI hx hb hr hlocks hP hK hD hS hf rfl dX7_holds_115
      · have hf := it_f hc hf
        refine lv_iload hx hb dX7_holds_89 (lv_at hl 3 rfl) ?_
        refine lv_iload_n hx hb dX7_holds_91 rfl (lv_at hl 0 rfl) ?_
        obtain ⟨r14, hq13, hf⟩ := ob1_d hf
        refine zroS (As := [.int x5, .int x2]) (rest := []) (r := r14) ⟨hx, hb, hml, hown, hts⟩ (kX7_loadOf l dC dI cy x5 x2 r14 hq13) mw_466 mw_327 mw_1 mw_328 hdX7_loadOf rfl rfl ⟨Nat.le_of_ble_eq_true rfl, Nat.le_of_ble_eq_true rfl⟩ hP hK hG hS [] rfl rfl hl.1 rfl (Nat.le_of_ble_eq_true rfl) dX7_holds_92 ⟨Nat.zero_le _, Nat.zero_le _⟩ ?_
        refine lv_iload hx hb dX7_holds_95 (lv_at hl 2 rfl) ?_
        refine lv_iload_n hx hb dX7_holds_97 rfl (lv_at hl 1 rfl) ?_
        obtain ⟨r16, hq15, hf⟩ := ob1_d hf
        refine zroS (As := [.int x4, .int x3]) (rest := [.int r14]) (r := r16) ⟨hx, hb, hml, hown, hts⟩ (kX7_holdOf l dC dI cy x4 x3 r16 hq15) mw_467 mw_325 mw_1 mw_326 hdX7_holdOf rfl rfl ⟨Nat.le_of_ble_eq_true rfl, Nat.le_of_ble_eq_true rfl⟩ hP hK hG hS [] rfl rfl hl.1 rfl (Nat.le_of_ble_eq_true rfl) dX7_holds_98 ⟨Nat.zero_le _, Nat.zero_le _⟩ ?_
        refine lv_icmp_gt (tgt := 107) hx hb dX7_holds_101 (by decide) (fun hc => ?_) (fun hc => ?_)
        · have hf := it_t hc hf
          refine lv_zinc (lv' := [(5, .int (x5 + (-1 : Int32))), (2, .int x2), (3, .int x3), (4, .int x4)]) hx hb dX7_holds_107 hl (k := 3) rfl (v := (-1 : Int32)) (by decide) (by decide) rfl (fun ls hl => ?_)
          refine lv_goto (tgt := 84) hx hb dX7_holds_110 (by decide) ?_
          exact hs84 c0_28 x2 x3 x4 (x5 + (-1 : Int32)) H locs ls hP hD hS (lv_sub hl [1, 2, 3, 0] rfl) hf
        · have hf := it_f hc hf
          refine lv_iload hx hb dX7_holds_104 (lv_at hl 3 rfl) ?_
          exact zretI hx hb hr hlocks hP hK hD hS hf rfl dX7_holds_106
  obtain ⟨ls, hl, he⟩ := zent (m := m) (n := 6) (L := [(0, .ref (h0 0)), (1, .int x1), (2, .int x2), (3, .int x3)]) ha (Nat.le_of_ble_eq_true rfl) rfl
  refine W.eq he ?_
  unfold fX7_holds at hf
  have kE : ∀ (H : Heap) (locs : List Loc), va_P (dC, dI) vwCl (zW_7 cy h0 (ups w0 28 (w0 28))) H → va_D A (zW_7 cy h0 (ups w0 28 (w0 28))) → va_S A s.heap H locs → W p l e ({ frames := 2, cells := 0, slots := 0, locals := 42 } : Room) s m args below meth c H locs 0 0 (MQ below (va_Qi (fun (q : Int32) (v : (Nat → Int32)) => (q, v) = z) (fun v => aWR (dC, dI) vwCl [(cy, .int)] A (zW_7 cy h0 (ups w0 28 v))) A) args s 0 0 A) (F0 m 0 ls []) := by
    intro H locs hP hD hS
    refine lv_aload_n hx hb dX7_holds_0 rfl (lv_at hl 0 rfl) ?_
    refine zget hx hb hts hown hK hP hin_7 0 rfl rfl 1 (by decide) mw_142 (v := .ref (h0 3)) rfl dX7_holds_1 ?_
    refine zgetN hx hb hts hG hown hK hP hin_6 3 rfl rfl 0 (by decide) (host := "Embayed") (List.mem_of_getElem? (i := 26) rfl) (v := .ref (h0 4)) rfl dX7_holds_4 ?_
    refine lv_iload_n hx hb dX7_holds_7 rfl (lv_at hl 1 rfl) ?_
    obtain ⟨r2, hq1, hf⟩ := ob1_d hf
    refine zroV (q := (RX1, TX1, 3)) (As := [.int x1]) (rest := []) (r := r2) ⟨hx, hb, hml, hown, hts⟩ (kX1_has l dC dI cy (sh 4 h0) (sh 4 w0) x1 r2 hq1) mw_208 mw_209 mw_210 mw_4 mw_211 hdX1_has rfl rfl ⟨Nat.le_of_ble_eq_true rfl, Nat.le_of_ble_eq_true rfl⟩ hP hK hG hS 4 rfl rfl [4, 5] rfl rfl hl.1 rfl (Nat.le_of_ble_eq_true rfl) dX7_holds_8 ⟨Nat.zero_le _, Nat.zero_le _⟩ ?_
    refine lv_if_ne (tgt := 20) hx hb dX7_holds_11 (by decide) (fun hc => ?_) (fun hc => ?_)
    · have hf := it_f hc hf
      refine lv_iload_n hx hb dX7_holds_20 rfl (lv_at hl 2 rfl) ?_
      refine lv_if_lt (tgt := 28) hx hb dX7_holds_21 (by decide) (fun hc => ?_) (fun hc => ?_)
      · have hf := it_t hc hf
        exact k28 (w0 28) H locs ls hP hD hS (lv_sub hl [0] rfl) hf
      · have hf := it_f hc hf
        refine lv_iload_n hx hb dX7_holds_24 rfl (lv_at hl 3 rfl) ?_
        refine lv_if_ge (tgt := 35) hx hb dX7_holds_25 (by decide) (fun hc => ?_) (fun hc => ?_)
        · have hf := it_t hc hf
          refine lv_iload_n hx hb dX7_holds_35 rfl (lv_at hl 2 rfl) ?_
          refine lv_iconst (v := (3 : Int32)) hx hb dX7_holds_36 (by decide) ?_
          refine lv_icmp_gt (tgt := 45) hx hb dX7_holds_37 (by decide) (fun hc => ?_) (fun hc => ?_)
          · have hf := it_t hc hf
            exact k45 (w0 28) H locs ls hP hD hS (lv_sub hl [0] rfl) hf
          · have hf := it_f hc hf
            refine lv_iload_n hx hb dX7_holds_40 rfl (lv_at hl 3 rfl) ?_
            refine lv_iconst (v := (5 : Int32)) hx hb dX7_holds_41 (by decide) ?_
            refine lv_icmp_le (tgt := 52) hx hb dX7_holds_42 (by decide) (fun hc => ?_) (fun hc => ?_)
            · have hf := it_t hc hf
              refine lv_aload_n hx hb dX7_holds_52 rfl (lv_at hl 0 rfl) ?_
              refine zget hx hb hts hown hK hP hin_7 0 rfl rfl 1 (by decide) mw_142 (v := .ref (h0 3)) rfl dX7_holds_53 ?_
              refine zgetN hx hb hts hG hown hK hP hin_6 3 rfl rfl 0 (by decide) (host := "Embayed") (List.mem_of_getElem? (i := 26) rfl) (v := .ref (h0 4)) rfl dX7_holds_56 ?_
              refine lv_iload_n hx hb dX7_holds_59 rfl (lv_at hl 1 rfl) ?_
              obtain ⟨r10, hq9, hf⟩ := ob1_d hf
              refine zroV (q := (RX1, TX1, 3)) (As := [.int x1]) (rest := []) (r := r10) ⟨hx, hb, hml, hown, hts⟩ (kX1_groundAt l dC dI cy (sh 4 h0) (sh 4 w0) x1 r10 hq9) mw_212 mw_213 mw_214 mw_4 mw_215 hdX1_groundAt rfl rfl ⟨Nat.le_of_ble_eq_true rfl, Nat.le_of_ble_eq_true rfl⟩ hP hK hG hS 4 rfl rfl [4, 5] rfl rfl hl.1 rfl (Nat.le_of_ble_eq_true rfl) dX7_holds_60 ⟨Nat.zero_le _, Nat.zero_le _⟩ ?_
              refine lv_istore (lv' := [(4, .int r10), (0, .ref (h0 0)), (1, .int x1), (2, .int x2), (3, .int x3)]) hx hb dX7_holds_63 hl (by decide) rfl (fun ls hl => ?_)
              refine lv_iload hx hb dX7_holds_65 (lv_at hl 0 rfl) ?_
              obtain ⟨r12, hq11, hf⟩ := ob1_d hf
              refine zroS (As := [.int r10]) (rest := []) (r := r12) ⟨hx, hb, hml, hown, hts⟩ (kX7_isSea l dC dI cy r10 r12 hq11) mw_465 mw_260 mw_1 mw_261 hdX7_isSea rfl rfl ⟨Nat.le_of_ble_eq_true rfl, Nat.le_of_ble_eq_true rfl⟩ hP hK hG hS [] rfl rfl hl.1 rfl (Nat.le_of_ble_eq_true rfl) dX7_holds_67 ⟨Nat.zero_le _, Nat.zero_le _⟩ ?_
              refine lv_if_ne (tgt := 80) hx hb dX7_holds_70 (by decide) (fun hc => ?_) (fun hc => ?_)
              · have hf := it_f hc hf
                refine lv_bipush (v := (9 : Int32)) hx hb dX7_holds_80 (by decide) ?_
                refine lv_istore (lv' := [(5, .int (9 : Int32)), (4, .int r10), (0, .ref (h0 0)), (1, .int x1), (2, .int x2), (3, .int x3)]) hx hb dX7_holds_82 hl (by decide) rfl (fun ls hl => ?_)
                exact k84 zFU (w0 28) x2 x3 r10 (9 : Int32) H locs ls hP hD hS (lv_sub hl [4, 5, 1, 0] rfl) hf
              · have hf := it_t hc hf
                refine lv_aload_n hx hb dX7_holds_73 rfl (lv_at hl 1 rfl) ?_
                refine lv_bipush (v := (-3 : Int32)) hx hb dX7_holds_74 (by decide) ?_
                obtain ⟨r18, u19, hq17, hf⟩ := ob2_d hf
                refine zwiV (q := (RX7, TX7, 10)) (As := [.int (-3 : Int32)]) (rest := []) (r := r18) (u := u19) (wn := (zW_7 cy h0 (ups w0 28 u19))) ⟨hx, hb, hml, hown, hts⟩ (kX7_refuse l dC dI cy h0 (ups w0 28 (w0 28)) (-3 : Int32) H.size (r18, u19) hq17) mw_165 mw_166 mw_883 mw_1 mw_167 hdX7_refuse rfl rfl ⟨Nat.le_of_ble_eq_true rfl, Nat.le_of_ble_eq_true rfl⟩ hP hK hG hS 0 rfl rfl hD hA [0, 1, 2, 3, 4, 5, 6, 7, 8, 9, 10, 11, 12, 13, 14, 15, 16, 17, 18, 19, 20, 21, 22, 23, 24, 25, 26, 27, 28] [] [0, 1, 2, 3, 4, 5, 6, 7, 8, 9, 10, 11, 12, 13, 14, 15, 16, 17, 18, 19, 20, 21, 22, 23, 24, 25, 26, 27, 28] rfl rfl rfl rfl (by decide) rfl rfl rfl hl.1 rfl (Nat.le_of_ble_eq_true rfl) dX7_holds_76 ⟨Nat.zero_le _, Nat.zero_le _⟩ (fun H locs hP hD hS => ?_)
                exact zretI hx hb hr hlocks hP hK hD hS hf rfl dX7_holds_79
            · have hf := it_f hc hf
              exact k45 (w0 28) H locs ls hP hD hS (lv_sub hl [0] rfl) hf
        · have hf := it_f hc hf
          exact k28 (w0 28) H locs ls hP hD hS (lv_sub hl [0] rfl) hf
    · have hf := it_t hc hf
      refine lv_aload_n hx hb dX7_holds_14 rfl (lv_at hl 0 rfl) ?_
      refine lv_iconst (v := (-1 : Int32)) hx hb dX7_holds_15 (by decide) ?_
      obtain ⟨r21, u22, hq20, hf⟩ := ob2_d hf
      refine zwiV (q := (RX7, TX7, 10)) (As := [.int (-1 : Int32)]) (rest := []) (r := r21) (u := u22) (wn := (zW_7 cy h0 (ups w0 28 u22))) ⟨hx, hb, hml, hown, hts⟩ (kX7_refuse l dC dI cy h0 (ups w0 28 (w0 28)) (-1 : Int32) H.size (r21, u22) hq20) mw_165 mw_166 mw_883 mw_1 mw_167 hdX7_refuse rfl rfl ⟨Nat.le_of_ble_eq_true rfl, Nat.le_of_ble_eq_true rfl⟩ hP hK hG hS 0 rfl rfl hD hA [0, 1, 2, 3, 4, 5, 6, 7, 8, 9, 10, 11, 12, 13, 14, 15, 16, 17, 18, 19, 20, 21, 22, 23, 24, 25, 26, 27, 28] [] [0, 1, 2, 3, 4, 5, 6, 7, 8, 9, 10, 11, 12, 13, 14, 15, 16, 17, 18, 19, 20, 21, 22, 23, 24, 25, 26, 27, 28] rfl rfl rfl rfl (by decide) rfl rfl rfl hl.1 rfl (Nat.le_of_ble_eq_true rfl) dX7_holds_16 ⟨Nat.zero_le _, Nat.zero_le _⟩ (fun H locs hP hD hS => ?_)
      exact zretI hx hb hr hlocks hP hK hD hS hf rfl dX7_holds_19
  exact kE s.heap [] hP hD hS
set_option maxHeartbeats 4000000 in
set_option maxRecDepth 100000 in
theorem kX7_beachBest (l : Launch) (dC : Nat → ClassId) (dI : Nat → Nat → Nat) (cy : ClassId) (h0 : Nat → Nat) (w0 : Nat → Nat → Int32) (z : Int32) (hf : fX7_beachBest w0 = some z) : Met l yX7_beachBest (wsM yX7_beachBest cX7_beachBest 5 (some .int)) ({ frames := 2, cells := 0, slots := 0, locals := 44 } : Room) (va_Pc [.ref (h0 0)] (pRO (dC, dI) vwCl [(cy, .int)] (zW_7 cy h0 w0))) (vp_Si (fun q => q = z)) 0 0 (fun _ => False) := by
  refine Met.ofW (cc := cX7_beachBest) (maxL := 5) (ret := (some .int)) (by decide) rfl ?_
  intro p e s m args below meth c s₁ B hml hv
  obtain ⟨ha, hP, hK, hG⟩ := hv
  have hx := B.exec
  have hb := B.bytes
  have hr := B.returns
  have hts : ∀ w ∈ wsA, w.before args s = true := fun w h => atoms_spec (ws := wsM yX7_beachBest cX7_beachBest 5 (some .int)) B.pre w (List.mem_cons_of_mem _ h)
  have hown : s.vm.findClass RX7 = some m.cls := findClass_of_methodNamed B.named
  have hlocks := B.notSynchronized
  have hS : va_S (fun _ => False) s.heap s.heap [] := va_S.rf
  have k67 : ∀ (s22 : Int32 → Int32 → Int32 → Option (Int32)) (hs22 : ∀ (x1 : Int32) (x2 : Int32) (x3 : Int32) (ls : Array Slot), lv_has ls 5 [(0, .ref (h0 0)), (1, .int x1), (2, .int x2), (3, .int x3)] → s22 x1 x2 x3 = some z → W p l e ({ frames := 2, cells := 0, slots := 0, locals := 44 } : Room) s m args below meth c s.heap [] 0 0 (MQ below (vp_Si (fun q => q = z)) args s 0 0 (fun _ => False)) (F0 m 22 ls [])), ∀ (x1 : Int32) (x2 : Int32) (x3 : Int32) (ls : Array Slot), lv_has ls 5 [(0, .ref (h0 0)), (1, .int x1), (2, .int x2), (3, .int x3)] → (fX7_beachBest_67 w0 s22) x1 x2 x3 = some z → W p l e ({ frames := 2, cells := 0, slots := 0, locals := 44 } : Room) s m args below meth c s.heap [] 0 0 (MQ below (vp_Si (fun q => q = z)) args s 0 0 (fun _ => False)) (F0 m 67 ls []) := by
    intro s22 hs22
    intro x1 x2 x3 ls hl hf
    unfold fX7_beachBest_67 at hf
    refine lv_zinc (lv' := [(3, .int (x3 + (1 : Int32))), (0, .ref (h0 0)), (1, .int x1), (2, .int x2)]) hx hb dX7_beachBest_67 hl (k := 3) rfl (v := (1 : Int32)) (by decide) (by decide) rfl (fun ls hl => ?_)
    refine lv_goto (tgt := 22) hx hb dX7_beachBest_70 (by decide) ?_
    exact hs22 x1 x2 (x3 + (1 : Int32)) ls (lv_sub hl [1, 2, 3, 0] rfl) hf
  have k22 : ∀ n : Nat, ∀ (x1 : Int32) (x2 : Int32) (x3 : Int32) (ls : Array Slot), lv_has ls 5 [(0, .ref (h0 0)), (1, .int x1), (2, .int x2), (3, .int x3)] → (zl3 (fX7_beachBest_22 w0) n) x1 x2 x3 = some z → W p l e ({ frames := 2, cells := 0, slots := 0, locals := 44 } : Room) s m args below meth c s.heap [] 0 0 (MQ below (vp_Si (fun q => q = z)) args s 0 0 (fun _ => False)) (F0 m 22 ls []) := by
    intro n
    induction n with
    | zero =>
      intro x1 x2 x3 ls hl hf
      exact z_no hf
    | succ n hs22 =>
      intro x1 x2 x3 ls hl hf
      have hf : fX7_beachBest_22 w0 (zl3 (fX7_beachBest_22 w0) n) x1 x2 x3 = some z := hf
      generalize zl3 (fX7_beachBest_22 w0) n = s22 at hs22 hf
      unfold fX7_beachBest_22 at hf
      refine lv_iload_n hx hb dX7_beachBest_22 rfl (lv_at hl 3 rfl) ?_
      refine lv_bipush (v := (30 : Int32)) hx hb dX7_beachBest_23 (by decide) ?_
      refine lv_icmp_gt (tgt := 73) hx hb dX7_beachBest_25 (by decide) (fun hc => ?_) (fun hc => ?_)
      · have hf := it_t hc hf
        refine lv_iload_n hx hb dX7_beachBest_73 rfl (lv_at hl 1 rfl) ?_
        exact zretR hx hb hr hlocks hf dX7_beachBest_74
      · have hf := it_f hc hf
        refine lv_aload_n hx hb dX7_beachBest_28 rfl (lv_at hl 0 rfl) ?_
        refine zget hx hb hts hown hK hP hin_7 0 rfl rfl 1 (by decide) mw_142 (v := .ref (h0 3)) rfl dX7_beachBest_29 ?_
        refine lv_aload_n hx hb dX7_beachBest_32 rfl (lv_at hl 0 rfl) ?_
        refine zget hx hb hts hown hK hP hin_7 0 rfl rfl 1 (by decide) mw_142 (v := .ref (h0 3)) rfl dX7_beachBest_33 ?_
        refine zgetN hx hb hts hG hown hK hP hin_6 3 rfl rfl 2 (by decide) (host := "Embayed") (List.mem_of_getElem? (i := 31) rfl) (v := .ref (h0 9)) rfl dX7_beachBest_36 ?_
        refine lv_iload_n hx hb dX7_beachBest_39 rfl (lv_at hl 3 rfl) ?_
        obtain ⟨r4, hq3, hf⟩ := ob1_d hf
        refine zroV (q := (RX0, TX0, 3)) (As := [.int x3]) (rest := [.ref (h0 3)]) (r := r4) ⟨hx, hb, hml, hown, hts⟩ (kX0_latestAt l dC dI cy (sh 9 h0) (sh 9 w0) x3 r4 hq3) mw_478 mw_268 mw_269 mw_5 mw_270 hdX0_latestAt rfl rfl ⟨Nat.le_of_ble_eq_true rfl, Nat.le_of_ble_eq_true rfl⟩ hP hK hG hS 9 rfl rfl [9, 10, 11] rfl rfl hl.1 rfl (Nat.le_of_ble_eq_true rfl) dX7_beachBest_40 ⟨Nat.zero_le _, Nat.zero_le _⟩ ?_
        refine lv_aload_n hx hb dX7_beachBest_43 rfl (lv_at hl 0 rfl) ?_
        refine zget hx hb hts hown hK hP hin_7 0 rfl rfl 1 (by decide) mw_142 (v := .ref (h0 3)) rfl dX7_beachBest_44 ?_
        refine lv_iload_n hx hb dX7_beachBest_47 rfl (lv_at hl 3 rfl) ?_
        obtain ⟨r6, hq5, hf⟩ := ob1_d hf
        refine zroV (q := (RX6, TX6, 10)) (As := [.int x3]) (rest := [.int r4, .ref (h0 3)]) (r := r6) ⟨hx, hb, hml, hown, hts⟩ (kX6_isDarkAt l dC dI cy (sh 3 h0) (sh 3 w0) x3 r6 hq5) mw_479 mw_338 mw_339 mw_3 mw_340 hdX6_isDarkAt rfl rfl ⟨Nat.le_of_ble_eq_true rfl, Nat.le_of_ble_eq_true rfl⟩ hP hK hG hS 3 rfl rfl [3, 4, 5, 6, 7, 8, 9, 10, 11] rfl rfl hl.1 rfl (Nat.le_of_ble_eq_true rfl) dX7_beachBest_48 ⟨Nat.zero_le _, Nat.zero_le _⟩ ?_
        obtain ⟨r8, hq7, hf⟩ := ob1_d hf
        refine zroV (q := (RX6, TX6, 10)) (As := [.int r4, .int r6]) (rest := []) (r := r8) ⟨hx, hb, hml, hown, hts⟩ (kX6_livesOnBeach l dC dI cy (sh 3 h0) (sh 3 w0) r4 r6 r8 hq7) mw_480 mw_290 mw_291 mw_3 mw_292 hdX6_livesOnBeach rfl rfl ⟨Nat.le_of_ble_eq_true rfl, Nat.le_of_ble_eq_true rfl⟩ hP hK hG hS 3 rfl rfl [3, 4, 5, 6, 7, 8, 9, 10, 11] rfl rfl hl.1 rfl (Nat.le_of_ble_eq_true rfl) dX7_beachBest_51 ⟨Nat.zero_le _, Nat.zero_le _⟩ ?_
        refine lv_istore (lv' := [(4, .int r8), (0, .ref (h0 0)), (1, .int x1), (2, .int x2), (3, .int x3)]) hx hb dX7_beachBest_54 hl (by decide) rfl (fun ls hl => ?_)
        refine lv_iload hx hb dX7_beachBest_56 (lv_at hl 0 rfl) ?_
        refine lv_iload_n hx hb dX7_beachBest_58 rfl (lv_at hl 3 rfl) ?_
        refine lv_icmp_le (tgt := 67) hx hb dX7_beachBest_59 (by decide) (fun hc => ?_) (fun hc => ?_)
        · have hf := it_t hc hf
          exact k67 s22 hs22 x1 x2 x3 ls (lv_sub hl [1, 2, 3, 4] rfl) hf
        · have hf := it_f hc hf
          refine lv_iload hx hb dX7_beachBest_62 (lv_at hl 0 rfl) ?_
          refine lv_istore_n (lv' := [(2, .int r8), (4, .int r8), (0, .ref (h0 0)), (1, .int x1), (3, .int x3)]) hx hb dX7_beachBest_64 rfl hl (by decide) rfl (fun ls hl => ?_)
          refine lv_iload_n hx hb dX7_beachBest_65 rfl (lv_at hl 4 rfl) ?_
          refine lv_istore_n (lv' := [(1, .int x3), (2, .int r8), (4, .int r8), (0, .ref (h0 0)), (3, .int x3)]) hx hb dX7_beachBest_66 rfl hl (by decide) rfl (fun ls hl => ?_)
          exact k67 s22 hs22 x3 r8 x3 ls (lv_sub hl [3, 0, 1, 4] rfl) hf
  obtain ⟨ls, hl, he⟩ := zent (m := m) (n := 5) (L := [(0, .ref (h0 0))]) ha (Nat.le_of_ble_eq_true rfl) rfl
  refine W.eq he ?_
  unfold fX7_beachBest at hf
  have kE : W p l e ({ frames := 2, cells := 0, slots := 0, locals := 44 } : Room) s m args below meth c s.heap [] 0 0 (MQ below (vp_Si (fun q => q = z)) args s 0 0 (fun _ => False)) (F0 m 0 ls []) := by
    refine lv_aload_n hx hb dX7_beachBest_0 rfl (lv_at hl 0 rfl) ?_
    refine zget hx hb hts hown hK hP hin_7 0 rfl rfl 1 (by decide) mw_142 (v := .ref (h0 3)) rfl dX7_beachBest_1 ?_
    refine zgetN hx hb hts hG hown hK hP hin_6 3 rfl rfl 0 (by decide) (host := "Embayed") (List.mem_of_getElem? (i := 26) rfl) (v := .ref (h0 4)) rfl dX7_beachBest_4 ?_
    obtain ⟨r2, hq1, hf⟩ := ob1_d hf
    refine zroV (q := (RX1, TX1, 3)) (As := []) (rest := []) (r := r2) ⟨hx, hb, hml, hown, hts⟩ (kX1_hasBeach l dC dI cy (sh 4 h0) (sh 4 w0) r2 hq1) mw_472 mw_473 mw_474 mw_4 mw_475 hdX1_hasBeach rfl rfl ⟨Nat.le_of_ble_eq_true rfl, Nat.le_of_ble_eq_true rfl⟩ hP hK hG hS 4 rfl rfl [4, 5] rfl rfl hl.1 rfl (Nat.le_of_ble_eq_true rfl) dX7_beachBest_7 ⟨Nat.zero_le _, Nat.zero_le _⟩ ?_
    refine lv_if_ne (tgt := 16) hx hb dX7_beachBest_10 (by decide) (fun hc => ?_) (fun hc => ?_)
    · have hf := it_f hc hf
      refine lv_iconst (v := (0 : Int32)) hx hb dX7_beachBest_16 (by decide) ?_
      refine lv_istore_n (lv' := [(1, .int (0 : Int32)), (0, .ref (h0 0))]) hx hb dX7_beachBest_17 rfl hl (by decide) rfl (fun ls hl => ?_)
      refine lv_iconst (v := (-1 : Int32)) hx hb dX7_beachBest_18 (by decide) ?_
      refine lv_istore_n (lv' := [(2, .int (-1 : Int32)), (1, .int (0 : Int32)), (0, .ref (h0 0))]) hx hb dX7_beachBest_19 rfl hl (by decide) rfl (fun ls hl => ?_)
      refine lv_iconst (v := (0 : Int32)) hx hb dX7_beachBest_20 (by decide) ?_
      refine lv_istore_n (lv' := [(3, .int (0 : Int32)), (2, .int (-1 : Int32)), (1, .int (0 : Int32)), (0, .ref (h0 0))]) hx hb dX7_beachBest_21 rfl hl (by decide) rfl (fun ls hl => ?_)
      exact k22 zFU (0 : Int32) (-1 : Int32) (0 : Int32) ls (lv_sub hl [3, 2, 1, 0] rfl) hf
    · have hf := it_t hc hf
      refine lv_bipush (v := (-9 : Int32)) hx hb dX7_beachBest_13 (by decide) ?_
      exact zretR hx hb hr hlocks hf dX7_beachBest_15
  exact kE
set_option maxHeartbeats 4000000 in
set_option maxRecDepth 100000 in
theorem kX7_livesByActs (l : Launch) (dC : Nat → ClassId) (dI : Nat → Nat → Nat) (cy : ClassId) (h0 : Nat → Nat) (w0 : Nat → Nat → Int32) (x1 : Int32) (x2 : Int32) (sz : Nat) (z : Int32 × (Nat → Int32)) (hf : fX7_livesByActs w0 x1 x2 = some z) : Met l yX7_livesByActs (wsM yX7_livesByActs cX7_livesByActs 4 (some .int)) ({ frames := 5, cells := 0, slots := 0, locals := 115 } : Room) (va_Pc [.ref (h0 0), .int x1, .int x2] (pWR (dC, dI) vwCl [(cy, .int)] (zW_7 cy h0 w0) sz)) (va_Qi (fun (q : Int32) (v : (Nat → Int32)) => (q, v) = z) (fun v => aWR (dC, dI) vwCl [(cy, .int)] (va_A (zW_7 cy h0 w0) sz) (zW_7 cy h0 (ups w0 13 v))) (va_A (zW_7 cy h0 w0) sz)) 0 0 (va_A (zW_7 cy h0 w0) sz) := by
  refine Met.ofW (cc := cX7_livesByActs) (maxL := 4) (ret := (some .int)) (by decide) rfl ?_
  intro p e s m args below meth c s₁ B hml hv
  obtain ⟨ha, hsz, hP, hK, hD0, hG⟩ := hv
  have hx := B.exec
  have hb := B.bytes
  have hr := B.returns
  have hts : ∀ w ∈ wsA, w.before args s = true := fun w h => atoms_spec (ws := wsM yX7_livesByActs cX7_livesByActs 4 (some .int)) B.pre w (List.mem_cons_of_mem _ h)
  have hown : s.vm.findClass RX7 = some m.cls := findClass_of_methodNamed B.named
  have hlocks := B.notSynchronized
  subst hsz
  have hD := hD0.self (sz := s.heap.size)
  generalize hAe : va_A (zW_7 cy h0 w0) s.heap.size = A at hD hG ⊢
  have hA : ∀ q : Nat, s.heap.size ≤ q → A q := fun q h => by rw [← hAe]; exact Or.inr h
  have hS : va_S A s.heap s.heap [] := va_S.rf
  have hP : va_P (dC, dI) vwCl (zW_7 cy h0 (ups w0 13 (w0 13))) s.heap := hP
  have hD : va_D A (zW_7 cy h0 (ups w0 13 (w0 13))) := hD
  have k68 : ∀ (c0_13 : (Nat → Int32)) (H : Heap) (locs : List Loc) (ls : Array Slot), va_P (dC, dI) vwCl (zW_7 cy h0 (ups w0 13 c0_13)) H → va_D A (zW_7 cy h0 (ups w0 13 c0_13)) → va_S A s.heap H locs → lv_has ls 4 [(0, .ref (h0 0))] → (fX7_livesByActs_68 w0) c0_13 = some z → W p l e ({ frames := 5, cells := 0, slots := 0, locals := 115 } : Room) s m args below meth c H locs 0 0 (MQ below (va_Qi (fun (q : Int32) (v : (Nat → Int32)) => (q, v) = z) (fun v => aWR (dC, dI) vwCl [(cy, .int)] A (zW_7 cy h0 (ups w0 13 v))) A) args s 0 0 A) (F0 m 68 ls []) := by
    intro c0_13 H locs ls hP hD hS hl hf
    unfold fX7_livesByActs_68 at hf
    refine lv_aload_n hx hb dX7_livesByActs_68 rfl (lv_at hl 0 rfl) ?_
    refine zget hx hb hts hown hK hP hin_7 0 rfl rfl 3 (by decide) mw_144 (v := .ref (h0 13)) rfl dX7_livesByActs_69 ?_
    refine lv_aload_n hx hb dX7_livesByActs_72 rfl (lv_at hl 0 rfl) ?_
    refine zget hx hb hts hown hK hP hin_7 0 rfl rfl 1 (by decide) mw_142 (v := .ref (h0 3)) rfl dX7_livesByActs_73 ?_
    obtain ⟨r4, hq3, hf⟩ := ob1_d hf
    refine zroV (q := (RX5, TX5, 17)) (As := [.ref (h0 3)]) (rest := []) (r := r4) ⟨hx, hb, hml, hown, hts⟩ (kX5_livesIn l dC dI cy (h0 13) c0_13 (sh 3 h0) (sh 3 w0) r4 hq3) mw_285 mw_286 mw_287 mw_6 mw_288 hdX5_livesIn rfl rfl ⟨Nat.le_of_ble_eq_true rfl, Nat.le_of_ble_eq_true rfl⟩ hP hK hG hS 13 rfl rfl [13, 3, 4, 5, 6, 7, 8, 9, 10, 11] rfl rfl hl.1 rfl (Nat.le_of_ble_eq_true rfl) dX7_livesByActs_76 ⟨Nat.zero_le _, Nat.zero_le _⟩ ?_
    exact zretI hx hb hr hlocks hP hK hD hS hf rfl dX7_livesByActs_79
  have k51 : ∀ (s13 : (Nat → Int32) → Int32 → Int32 → Int32 → Option (Int32 × (Nat → Int32))) (hs13 : ∀ (c0_13 : (Nat → Int32)) (x1 : Int32) (x2 : Int32) (x3 : Int32) (H : Heap) (locs : List Loc) (ls : Array Slot), va_P (dC, dI) vwCl (zW_7 cy h0 (ups w0 13 c0_13)) H → va_D A (zW_7 cy h0 (ups w0 13 c0_13)) → va_S A s.heap H locs → lv_has ls 4 [(0, .ref (h0 0)), (1, .int x1), (2, .int x2), (3, .int x3)] → s13 c0_13 x1 x2 x3 = some z → W p l e ({ frames := 5, cells := 0, slots := 0, locals := 115 } : Room) s m args below meth c H locs 0 0 (MQ below (va_Qi (fun (q : Int32) (v : (Nat → Int32)) => (q, v) = z) (fun v => aWR (dC, dI) vwCl [(cy, .int)] A (zW_7 cy h0 (ups w0 13 v))) A) args s 0 0 A) (F0 m 13 ls [])), ∀ (c0_13 : (Nat → Int32)) (x1 : Int32) (x2 : Int32) (x3 : Int32) (H : Heap) (locs : List Loc) (ls : Array Slot), va_P (dC, dI) vwCl (zW_7 cy h0 (ups w0 13 c0_13)) H → va_D A (zW_7 cy h0 (ups w0 13 c0_13)) → va_S A s.heap H locs → lv_has ls 4 [(0, .ref (h0 0)), (1, .int x1), (2, .int x2), (3, .int x3)] → (fX7_livesByActs_51 w0 s13) c0_13 x1 x2 x3 = some z → W p l e ({ frames := 5, cells := 0, slots := 0, locals := 115 } : Room) s m args below meth c H locs 0 0 (MQ below (va_Qi (fun (q : Int32) (v : (Nat → Int32)) => (q, v) = z) (fun v => aWR (dC, dI) vwCl [(cy, .int)] A (zW_7 cy h0 (ups w0 13 v))) A) args s 0 0 A) (F0 m 51 ls []) := by
    intro s13 hs13
    intro c0_13 x1 x2 x3 H locs ls hP hD hS hl hf
    unfold fX7_livesByActs_51 at hf
    refine lv_aload_n hx hb dX7_livesByActs_51 rfl (lv_at hl 0 rfl) ?_
    refine zget hx hb hts hown hK hP hin_7 0 rfl rfl 3 (by decide) mw_144 (v := .ref (h0 13)) rfl dX7_livesByActs_52 ?_
    refine lv_aload_n hx hb dX7_livesByActs_55 rfl (lv_at hl 0 rfl) ?_
    refine zget hx hb hts hown hK hP hin_7 0 rfl rfl 1 (by decide) mw_142 (v := .ref (h0 3)) rfl dX7_livesByActs_56 ?_
    obtain ⟨u8, hq7, hf⟩ := ob1_d hf
    refine zwvV (q := (RX5, TX5, 17)) (As := [.ref (h0 3)]) (rest := []) (u := u8) (wn := (zW_7 cy h0 (ups w0 13 u8))) ⟨hx, hb, hml, hown, hts⟩ (kX5_passTen l dC dI cy (h0 13) c0_13 (sh 3 h0) (sh 3 w0) H.size u8 hq7) mw_503 mw_305 mw_306 mw_6 mw_307 hdX5_passTen rfl rfl ⟨Nat.le_of_ble_eq_true rfl, Nat.le_of_ble_eq_true rfl⟩ hP hK hG hS 13 rfl rfl hD hA [13, 3, 4, 5, 6, 7, 8, 9, 10, 11] [0, 1, 2, 12, 14, 15, 16, 17, 18, 19, 20, 21, 22, 23, 24, 25, 26, 27, 28] [0, 1, 2, 20, 21, 22, 23, 24, 25, 26, 27, 28, 3, 19, 4, 5, 6, 7, 8, 9, 10, 11, 12, 13, 14, 15, 16, 17, 18] rfl rfl rfl rfl (by decide) rfl rfl rfl hl.1 rfl (Nat.le_of_ble_eq_true rfl) dX7_livesByActs_59 ⟨Nat.zero_le _, Nat.zero_le _⟩ (fun H locs hP hD hS => ?_)
    refine lv_zinc (lv' := [(3, .int (x3 + (1 : Int32))), (0, .ref (h0 0)), (1, .int x1), (2, .int x2)]) hx hb dX7_livesByActs_62 hl (k := 3) rfl (v := (1 : Int32)) (by decide) (by decide) rfl (fun ls hl => ?_)
    refine lv_goto (tgt := 13) hx hb dX7_livesByActs_65 (by decide) ?_
    exact hs13 u8 x1 x2 (x3 + (1 : Int32)) H locs ls hP hD hS (lv_sub hl [1, 2, 3, 0] rfl) hf
  have k13 : ∀ n : Nat, ∀ (c0_13 : (Nat → Int32)) (x1 : Int32) (x2 : Int32) (x3 : Int32) (H : Heap) (locs : List Loc) (ls : Array Slot), va_P (dC, dI) vwCl (zW_7 cy h0 (ups w0 13 c0_13)) H → va_D A (zW_7 cy h0 (ups w0 13 c0_13)) → va_S A s.heap H locs → lv_has ls 4 [(0, .ref (h0 0)), (1, .int x1), (2, .int x2), (3, .int x3)] → (zl4 (fX7_livesByActs_13 w0) n) c0_13 x1 x2 x3 = some z → W p l e ({ frames := 5, cells := 0, slots := 0, locals := 115 } : Room) s m args below meth c H locs 0 0 (MQ below (va_Qi (fun (q : Int32) (v : (Nat → Int32)) => (q, v) = z) (fun v => aWR (dC, dI) vwCl [(cy, .int)] A (zW_7 cy h0 (ups w0 13 v))) A) args s 0 0 A) (F0 m 13 ls []) := by
    intro n
    induction n with
    | zero =>
      intro c0_13 x1 x2 x3 H locs ls hP hD hS hl hf
      exact z_no hf
    | succ n hs13 =>
      intro c0_13 x1 x2 x3 H locs ls hP hD hS hl hf
      have hf : fX7_livesByActs_13 w0 (zl4 (fX7_livesByActs_13 w0) n) c0_13 x1 x2 x3 = some z := hf
      generalize zl4 (fX7_livesByActs_13 w0) n = s13 at hs13 hf
      unfold fX7_livesByActs_13 at hf
      refine lv_iload_n hx hb dX7_livesByActs_13 rfl (lv_at hl 3 rfl) ?_
      refine lv_bipush (v := (20 : Int32)) hx hb dX7_livesByActs_14 (by decide) ?_
      refine lv_icmp_ge (tgt := 68) hx hb dX7_livesByActs_16 (by decide) (fun hc => ?_) (fun hc => ?_)
      · have hf := it_t hc hf
        exact k68 c0_13 H locs ls hP hD hS (lv_sub hl [0] rfl) hf
      · have hf := it_f hc hf
        refine lv_aload_n hx hb dX7_livesByActs_19 rfl (lv_at hl 0 rfl) ?_
        refine zget hx hb hts hown hK hP hin_7 0 rfl rfl 3 (by decide) mw_144 (v := .ref (h0 13)) rfl dX7_livesByActs_20 ?_
        obtain ⟨r6, hq5, hf⟩ := ob1_d hf
        refine zroV (q := (RX5, TX5, 17)) (As := []) (rest := []) (r := r6) ⟨hx, hb, hml, hown, hts⟩ (kX5_isEnded l dC dI cy (h0 13) c0_13 r6 hq5) mw_492 mw_309 mw_310 mw_6 mw_311 hdX5_isEnded rfl rfl ⟨Nat.le_of_ble_eq_true rfl, Nat.le_of_ble_eq_true rfl⟩ hP hK hG hS 13 rfl rfl [13] rfl rfl hl.1 rfl (Nat.le_of_ble_eq_true rfl) dX7_livesByActs_23 ⟨Nat.zero_le _, Nat.zero_le _⟩ ?_
        refine lv_if_ne (tgt := 68) hx hb dX7_livesByActs_26 (by decide) (fun hc => ?_) (fun hc => ?_)
        · have hf := it_f hc hf
          exact k68 c0_13 H locs ls hP hD hS (lv_sub hl [0] rfl) hf
        · have hf := it_t hc hf
          refine lv_iload_n hx hb dX7_livesByActs_29 rfl (lv_at hl 3 rfl) ?_
          refine lv_iload_n hx hb dX7_livesByActs_30 rfl (lv_at hl 1 rfl) ?_
          refine lv_icmp_ge (tgt := 51) hx hb dX7_livesByActs_31 (by decide) (fun hc => ?_) (fun hc => ?_)
          · have hf := it_t hc hf
            exact k51 s13 hs13 c0_13 x1 x2 x3 H locs ls hP hD hS (lv_sub hl [0, 1, 2, 3] rfl) hf
          · have hf := it_f hc hf
            refine lv_aload_n hx hb dX7_livesByActs_34 rfl (lv_at hl 0 rfl) ?_
            refine zget hx hb hts hown hK hP hin_7 0 rfl rfl 3 (by decide) mw_144 (v := .ref (h0 13)) rfl dX7_livesByActs_35 ?_
            refine lv_aload_n hx hb dX7_livesByActs_38 rfl (lv_at hl 0 rfl) ?_
            refine zget hx hb hts hown hK hP hin_7 0 rfl rfl 1 (by decide) mw_142 (v := .ref (h0 3)) rfl dX7_livesByActs_39 ?_
            refine lv_iload_n hx hb dX7_livesByActs_42 rfl (lv_at hl 1 rfl) ?_
            refine lv_iload_n hx hb dX7_livesByActs_43 rfl (lv_at hl 2 rfl) ?_
            refine lv_iload_n hx hb dX7_livesByActs_44 rfl (lv_at hl 3 rfl) ?_
            obtain ⟨r10, hq9, hf⟩ := ob1_d hf
            refine zroS (As := [.int x1, .int x2, .int x3]) (rest := [.ref (h0 3), .ref (h0 13)]) (r := r10) ⟨hx, hb, hml, hown, hts⟩ (kX7_actInRow l dC dI cy x1 x2 x3 r10 hq9) mw_493 mw_494 mw_1 mw_495 hdX7_actInRow rfl rfl ⟨Nat.le_of_ble_eq_true rfl, Nat.le_of_ble_eq_true rfl⟩ hP hK hG hS [] rfl rfl hl.1 rfl (Nat.le_of_ble_eq_true rfl) dX7_livesByActs_45 ⟨Nat.zero_le _, Nat.zero_le _⟩ ?_
            obtain ⟨u12, hq11, hf⟩ := ob1_d hf
            refine zwvV (q := (RX5, TX5, 17)) (As := [.ref (h0 3), .int r10]) (rest := []) (u := u12) (wn := (zW_7 cy h0 (ups w0 13 u12))) ⟨hx, hb, hml, hown, hts⟩ (kX5_tryAct l dC dI cy (h0 13) c0_13 (sh 3 h0) (sh 3 w0) r10 H.size u12 hq11) mw_496 mw_497 mw_498 mw_6 mw_499 hdX5_tryAct rfl rfl ⟨Nat.le_of_ble_eq_true rfl, Nat.le_of_ble_eq_true rfl⟩ hP hK hG hS 13 rfl rfl hD hA [13, 3, 4, 5, 6, 7, 8, 9, 10, 11] [0, 1, 2, 12, 14, 15, 16, 17, 18, 19, 20, 21, 22, 23, 24, 25, 26, 27, 28] [0, 1, 2, 20, 21, 22, 23, 24, 25, 26, 27, 28, 3, 19, 4, 5, 6, 7, 8, 9, 10, 11, 12, 13, 14, 15, 16, 17, 18] rfl rfl rfl rfl (by decide) rfl rfl rfl hl.1 rfl (Nat.le_of_ble_eq_true rfl) dX7_livesByActs_48 ⟨Nat.zero_le _, Nat.zero_le _⟩ (fun H locs hP hD hS => ?_)
            exact k51 s13 hs13 u12 x1 x2 x3 H locs ls hP hD hS (lv_sub hl [0, 1, 2, 3] rfl) hf
  obtain ⟨ls, hl, he⟩ := zent (m := m) (n := 4) (L := [(0, .ref (h0 0)), (1, .int x1), (2, .int x2)]) ha (Nat.le_of_ble_eq_true rfl) rfl
  refine W.eq he ?_
  unfold fX7_livesByActs at hf
  have kE : ∀ (H : Heap) (locs : List Loc), va_P (dC, dI) vwCl (zW_7 cy h0 (ups w0 13 (w0 13))) H → va_D A (zW_7 cy h0 (ups w0 13 (w0 13))) → va_S A s.heap H locs → W p l e ({ frames := 5, cells := 0, slots := 0, locals := 115 } : Room) s m args below meth c H locs 0 0 (MQ below (va_Qi (fun (q : Int32) (v : (Nat → Int32)) => (q, v) = z) (fun v => aWR (dC, dI) vwCl [(cy, .int)] A (zW_7 cy h0 (ups w0 13 v))) A) args s 0 0 A) (F0 m 0 ls []) := by
    intro H locs hP hD hS
    refine lv_aload_n hx hb dX7_livesByActs_0 rfl (lv_at hl 0 rfl) ?_
    refine zget hx hb hts hown hK hP hin_7 0 rfl rfl 3 (by decide) mw_144 (v := .ref (h0 13)) rfl dX7_livesByActs_1 ?_
    refine lv_aload_n hx hb dX7_livesByActs_4 rfl (lv_at hl 0 rfl) ?_
    refine zget hx hb hts hown hK hP hin_7 0 rfl rfl 2 (by decide) mw_143 (v := .ref (h0 12)) rfl dX7_livesByActs_5 ?_
    obtain ⟨u2, hq1, hf⟩ := ob1_d hf
    refine zwvV (q := (RX5, TX5, 17)) (As := [.ref (h0 12)]) (rest := []) (u := u2) (wn := (zW_7 cy h0 (ups w0 13 u2))) ⟨hx, hb, hml, hown, hts⟩ (kX5_copyFrom l dC dI cy (h0 13) (w0 13) (h0 12) (w0 12) H.size u2 hq1) mw_448 mw_449 mw_450 mw_6 mw_451 hdX5_copyFrom rfl rfl ⟨Nat.le_of_ble_eq_true rfl, Nat.le_of_ble_eq_true rfl⟩ hP hK hG hS 13 rfl rfl hD hA [13, 12] [0, 1, 2, 3, 4, 5, 6, 7, 8, 9, 10, 11, 14, 15, 16, 17, 18, 19, 20, 21, 22, 23, 24, 25, 26, 27, 28] [0, 1, 2, 3, 4, 5, 6, 7, 8, 9, 10, 11, 28, 27, 12, 13, 14, 15, 16, 17, 18, 19, 20, 21, 22, 23, 24, 25, 26] rfl rfl rfl rfl (by decide) rfl rfl rfl hl.1 rfl (Nat.le_of_ble_eq_true rfl) dX7_livesByActs_8 ⟨Nat.zero_le _, Nat.zero_le _⟩ (fun H locs hP hD hS => ?_)
    refine lv_iconst (v := (0 : Int32)) hx hb dX7_livesByActs_11 (by decide) ?_
    refine lv_istore_n (lv' := [(3, .int (0 : Int32)), (0, .ref (h0 0)), (1, .int x1), (2, .int x2)]) hx hb dX7_livesByActs_12 rfl hl (by decide) rfl (fun ls hl => ?_)
    exact k13 zFU u2 x1 x2 (0 : Int32) H locs ls hP hD hS (lv_sub hl [1, 2, 3, 0] rfl) hf
  exact kE s.heap [] hP hD hS
set_option maxHeartbeats 4000000 in
set_option maxRecDepth 100000 in
theorem kX7_bestRowOfActs (l : Launch) (dC : Nat → ClassId) (dI : Nat → Nat → Nat) (cy : ClassId) (h0 : Nat → Nat) (w0 : Nat → Nat → Int32) (x1 : Int32) (sz : Nat) (z : Int32 × (Nat → Int32)) (hf : fX7_bestRowOfActs w0 x1 = some z) : Met l yX7_bestRowOfActs (wsM yX7_bestRowOfActs cX7_bestRowOfActs 8 (some .int)) ({ frames := 6, cells := 0, slots := 0, locals := 138 } : Room) (va_Pc [.ref (h0 0), .int x1] (pWR (dC, dI) vwCl [(cy, .int)] (zW_7 cy h0 w0) sz)) (va_Qi (fun (q : Int32) (v : (Nat → Int32)) => (q, v) = z) (fun v => aWR (dC, dI) vwCl [(cy, .int)] (va_A (zW_7 cy h0 w0) sz) (zW_7 cy h0 (ups w0 13 v))) (va_A (zW_7 cy h0 w0) sz)) 0 0 (va_A (zW_7 cy h0 w0) sz) := by
  refine Met.ofW (cc := cX7_bestRowOfActs) (maxL := 8) (ret := (some .int)) (by decide) rfl ?_
  intro p e s m args below meth c s₁ B hml hv
  obtain ⟨ha, hsz, hP, hK, hD0, hG⟩ := hv
  have hx := B.exec
  have hb := B.bytes
  have hr := B.returns
  have hts : ∀ w ∈ wsA, w.before args s = true := fun w h => atoms_spec (ws := wsM yX7_bestRowOfActs cX7_bestRowOfActs 8 (some .int)) B.pre w (List.mem_cons_of_mem _ h)
  have hown : s.vm.findClass RX7 = some m.cls := findClass_of_methodNamed B.named
  have hlocks := B.notSynchronized
  subst hsz
  have hD := hD0.self (sz := s.heap.size)
  generalize hAe : va_A (zW_7 cy h0 w0) s.heap.size = A at hD hG ⊢
  have hA : ∀ q : Nat, s.heap.size ≤ q → A q := fun q h => by rw [← hAe]; exact Or.inr h
  have hS : va_S A s.heap s.heap [] := va_S.rf
  have hP : va_P (dC, dI) vwCl (zW_7 cy h0 (ups w0 13 (w0 13))) s.heap := hP
  have hD : va_D A (zW_7 cy h0 (ups w0 13 (w0 13))) := hD
  have k61 : ∀ (s25 : (Nat → Int32) → Int32 → Int32 → Int32 → Int32 → Int32 → Int32 → Option (Int32 × (Nat → Int32))) (hs25 : ∀ (c0_13 : (Nat → Int32)) (x1 : Int32) (x2 : Int32) (x3 : Int32) (x4 : Int32) (x5 : Int32) (x6 : Int32) (H : Heap) (locs : List Loc) (ls : Array Slot), va_P (dC, dI) vwCl (zW_7 cy h0 (ups w0 13 c0_13)) H → va_D A (zW_7 cy h0 (ups w0 13 c0_13)) → va_S A s.heap H locs → lv_has ls 8 [(0, .ref (h0 0)), (1, .int x1), (2, .int x2), (3, .int x3), (4, .int x4), (5, .int x5), (6, .int x6)] → s25 c0_13 x1 x2 x3 x4 x5 x6 = some z → W p l e ({ frames := 6, cells := 0, slots := 0, locals := 138 } : Room) s m args below meth c H locs 0 0 (MQ below (va_Qi (fun (q : Int32) (v : (Nat → Int32)) => (q, v) = z) (fun v => aWR (dC, dI) vwCl [(cy, .int)] A (zW_7 cy h0 (ups w0 13 v))) A) args s 0 0 A) (F0 m 25 ls [])), ∀ (c0_13 : (Nat → Int32)) (x1 : Int32) (x2 : Int32) (x3 : Int32) (x4 : Int32) (x5 : Int32) (x6 : Int32) (H : Heap) (locs : List Loc) (ls : Array Slot), va_P (dC, dI) vwCl (zW_7 cy h0 (ups w0 13 c0_13)) H → va_D A (zW_7 cy h0 (ups w0 13 c0_13)) → va_S A s.heap H locs → lv_has ls 8 [(0, .ref (h0 0)), (1, .int x1), (2, .int x2), (3, .int x3), (4, .int x4), (5, .int x5), (6, .int x6)] → (fX7_bestRowOfActs_61 w0 s25) c0_13 x1 x2 x3 x4 x5 x6 = some z → W p l e ({ frames := 6, cells := 0, slots := 0, locals := 138 } : Room) s m args below meth c H locs 0 0 (MQ below (va_Qi (fun (q : Int32) (v : (Nat → Int32)) => (q, v) = z) (fun v => aWR (dC, dI) vwCl [(cy, .int)] A (zW_7 cy h0 (ups w0 13 v))) A) args s 0 0 A) (F0 m 61 ls []) := by
    intro s25 hs25
    intro c0_13 x1 x2 x3 x4 x5 x6 H locs ls hP hD hS hl hf
    unfold fX7_bestRowOfActs_61 at hf
    refine lv_zinc (lv' := [(6, .int (x6 + (1 : Int32))), (0, .ref (h0 0)), (1, .int x1), (2, .int x2), (3, .int x3), (4, .int x4), (5, .int x5)]) hx hb dX7_bestRowOfActs_61 hl (k := 6) rfl (v := (1 : Int32)) (by decide) (by decide) rfl (fun ls hl => ?_)
    refine lv_goto (tgt := 25) hx hb dX7_bestRowOfActs_64 (by decide) ?_
    exact hs25 c0_13 x1 x2 x3 x4 x5 (x6 + (1 : Int32)) H locs ls hP hD hS (lv_sub hl [1, 2, 3, 4, 5, 6, 0] rfl) hf
  have k25 : ∀ n : Nat, ∀ (c0_13 : (Nat → Int32)) (x1 : Int32) (x2 : Int32) (x3 : Int32) (x4 : Int32) (x5 : Int32) (x6 : Int32) (H : Heap) (locs : List Loc) (ls : Array Slot), va_P (dC, dI) vwCl (zW_7 cy h0 (ups w0 13 c0_13)) H → va_D A (zW_7 cy h0 (ups w0 13 c0_13)) → va_S A s.heap H locs → lv_has ls 8 [(0, .ref (h0 0)), (1, .int x1), (2, .int x2), (3, .int x3), (4, .int x4), (5, .int x5), (6, .int x6)] → (zl7 (fX7_bestRowOfActs_25 w0) n) c0_13 x1 x2 x3 x4 x5 x6 = some z → W p l e ({ frames := 6, cells := 0, slots := 0, locals := 138 } : Room) s m args below meth c H locs 0 0 (MQ below (va_Qi (fun (q : Int32) (v : (Nat → Int32)) => (q, v) = z) (fun v => aWR (dC, dI) vwCl [(cy, .int)] A (zW_7 cy h0 (ups w0 13 v))) A) args s 0 0 A) (F0 m 25 ls []) := by
    intro n
    induction n with
    | zero =>
      intro c0_13 x1 x2 x3 x4 x5 x6 H locs ls hP hD hS hl hf
      exact z_no hf
    | succ n hs25 =>
      intro c0_13 x1 x2 x3 x4 x5 x6 H locs ls hP hD hS hl hf
      have hf : fX7_bestRowOfActs_25 w0 (zl7 (fX7_bestRowOfActs_25 w0) n) c0_13 x1 x2 x3 x4 x5 x6 = some z := hf
      generalize zl7 (fX7_bestRowOfActs_25 w0) n = s25 at hs25 hf
      unfold fX7_bestRowOfActs_25 at hf
      refine lv_iload hx hb dX7_bestRowOfActs_25 (lv_at hl 6 rfl) ?_
      refine lv_iload_n hx hb dX7_bestRowOfActs_27 rfl (lv_at hl 2 rfl) ?_
      refine lv_icmp_ge (tgt := 67) hx hb dX7_bestRowOfActs_28 (by decide) (fun hc => ?_) (fun hc => ?_)
      · have hf := it_t hc hf
        refine lv_iload hx hb dX7_bestRowOfActs_67 (lv_at hl 4 rfl) ?_
        exact zretI hx hb hr hlocks hP hK hD hS hf rfl dX7_bestRowOfActs_69
      · have hf := it_f hc hf
        refine lv_iload hx hb dX7_bestRowOfActs_31 (lv_at hl 5 rfl) ?_
        refine lv_iload_n hx hb dX7_bestRowOfActs_33 rfl (lv_at hl 3 rfl) ?_
        refine lv_icmp_ge (tgt := 67) hx hb dX7_bestRowOfActs_34 (by decide) (fun hc => ?_) (fun hc => ?_)
        · have hf := it_t hc hf
          refine lv_iload hx hb dX7_bestRowOfActs_67 (lv_at hl 4 rfl) ?_
          exact zretI hx hb hr hlocks hP hK hD hS hf rfl dX7_bestRowOfActs_69
        · have hf := it_f hc hf
          refine lv_aload_n hx hb dX7_bestRowOfActs_37 rfl (lv_at hl 0 rfl) ?_
          refine lv_iload_n hx hb dX7_bestRowOfActs_38 rfl (lv_at hl 1 rfl) ?_
          refine lv_iload hx hb dX7_bestRowOfActs_39 (lv_at hl 6 rfl) ?_
          obtain ⟨r5, u6, hq4, hf⟩ := ob2_d hf
          refine zwiV (q := (RX7, TX7, 10)) (As := [.int x1, .int x6]) (rest := []) (r := r5) (u := u6) (wn := (zW_7 cy h0 (ups w0 13 u6))) ⟨hx, hb, hml, hown, hts⟩ (kX7_livesByActs l dC dI cy h0 (ups w0 13 c0_13) x1 x6 H.size (r5, u6) hq4) mw_489 mw_490 mw_896 mw_1 mw_491 hdX7_livesByActs rfl rfl ⟨Nat.le_of_ble_eq_true rfl, Nat.le_of_ble_eq_true rfl⟩ hP hK hG hS 0 rfl rfl hD hA [0, 1, 2, 3, 4, 5, 6, 7, 8, 9, 10, 11, 12, 13, 14, 15, 16, 17, 18, 19, 20, 21, 22, 23, 24, 25, 26, 27, 28] [] [0, 1, 2, 3, 4, 5, 6, 7, 8, 9, 10, 11, 12, 13, 14, 15, 16, 17, 18, 19, 20, 21, 22, 23, 24, 25, 26, 27, 28] rfl rfl rfl rfl (by decide) rfl rfl rfl hl.1 rfl (Nat.le_of_ble_eq_true rfl) dX7_bestRowOfActs_41 ⟨Nat.zero_le _, Nat.zero_le _⟩ (fun H locs hP hD hS => ?_)
          refine lv_istore (lv' := [(7, .int r5), (0, .ref (h0 0)), (1, .int x1), (2, .int x2), (3, .int x3), (4, .int x4), (5, .int x5), (6, .int x6)]) hx hb dX7_bestRowOfActs_44 hl (by decide) rfl (fun ls hl => ?_)
          refine lv_iload hx hb dX7_bestRowOfActs_46 (lv_at hl 0 rfl) ?_
          refine lv_iload hx hb dX7_bestRowOfActs_48 (lv_at hl 6 rfl) ?_
          refine lv_icmp_le (tgt := 61) hx hb dX7_bestRowOfActs_50 (by decide) (fun hc => ?_) (fun hc => ?_)
          · have hf := it_t hc hf
            exact k61 s25 hs25 u6 x1 x2 x3 x4 x5 x6 H locs ls hP hD hS (lv_sub hl [1, 2, 3, 4, 5, 6, 7] rfl) hf
          · have hf := it_f hc hf
            refine lv_iload hx hb dX7_bestRowOfActs_53 (lv_at hl 0 rfl) ?_
            refine lv_istore (lv' := [(5, .int r5), (7, .int r5), (0, .ref (h0 0)), (1, .int x1), (2, .int x2), (3, .int x3), (4, .int x4), (6, .int x6)]) hx hb dX7_bestRowOfActs_55 hl (by decide) rfl (fun ls hl => ?_)
            refine lv_iload hx hb dX7_bestRowOfActs_57 (lv_at hl 7 rfl) ?_
            refine lv_istore (lv' := [(4, .int x6), (5, .int r5), (7, .int r5), (0, .ref (h0 0)), (1, .int x1), (2, .int x2), (3, .int x3), (6, .int x6)]) hx hb dX7_bestRowOfActs_59 hl (by decide) rfl (fun ls hl => ?_)
            exact k61 s25 hs25 u6 x1 x2 x3 x6 r5 x6 H locs ls hP hD hS (lv_sub hl [3, 4, 5, 6, 0, 1, 7] rfl) hf
  obtain ⟨ls, hl, he⟩ := zent (m := m) (n := 8) (L := [(0, .ref (h0 0)), (1, .int x1)]) ha (Nat.le_of_ble_eq_true rfl) rfl
  refine W.eq he ?_
  unfold fX7_bestRowOfActs at hf
  have kE : ∀ (H : Heap) (locs : List Loc), va_P (dC, dI) vwCl (zW_7 cy h0 (ups w0 13 (w0 13))) H → va_D A (zW_7 cy h0 (ups w0 13 (w0 13))) → va_S A s.heap H locs → W p l e ({ frames := 6, cells := 0, slots := 0, locals := 138 } : Room) s m args below meth c H locs 0 0 (MQ below (va_Qi (fun (q : Int32) (v : (Nat → Int32)) => (q, v) = z) (fun v => aWR (dC, dI) vwCl [(cy, .int)] A (zW_7 cy h0 (ups w0 13 v))) A) args s 0 0 A) (F0 m 0 ls []) := by
    intro H locs hP hD hS
    obtain ⟨t1, hZ1, hT1⟩ := hG.2.2.2.2.1
    refine va_gets hx hb hZ1 hS hown (hts _ mw_488) (fun _ h => h) dX7_bestRowOfActs_0 ?_
    refine lv_iload_n hx hb dX7_bestRowOfActs_3 rfl (lv_at hl 1 rfl) ?_
    obtain ⟨r3, hq2, hf⟩ := ob1_d hf
    refine zroTS (As := [.ref t1, .int x1]) (rest := []) (r := r3) ⟨hx, hb, hml, hown, hts⟩ (kX7_valueAt_s l t1 5 sROWS_OF_ACTS x1 r3 hq2) mw_221 mw_184 mw_1 mw_185 hdX7_valueAt rfl rfl ⟨Nat.le_of_ble_eq_true rfl, Nat.le_of_ble_eq_true rfl⟩ hT1 hS rfl hl.1 rfl (Nat.le_of_ble_eq_true rfl) dX7_bestRowOfActs_4 ⟨Nat.zero_le _, Nat.zero_le _⟩ ?_
    refine lv_istore_n (lv' := [(2, .int r3), (0, .ref (h0 0)), (1, .int x1)]) hx hb dX7_bestRowOfActs_7 rfl hl (by decide) rfl (fun ls hl => ?_)
    refine lv_aload_n hx hb dX7_bestRowOfActs_8 rfl (lv_at hl 1 rfl) ?_
    refine zget hx hb hts hown hK hP hin_7 0 rfl rfl 1 (by decide) mw_142 (v := .ref (h0 3)) rfl dX7_bestRowOfActs_9 ?_
    refine zgetN hx hb hts hG hown hK hP hin_6 3 rfl rfl 6 (by decide) (host := "Embayed") (List.mem_of_getElem? (i := 37) rfl) (v := .int (w0 3 6)) rfl dX7_bestRowOfActs_12 ?_
    refine lv_istore_n (lv' := [(3, .int (w0 3 6)), (2, .int r3), (0, .ref (h0 0)), (1, .int x1)]) hx hb dX7_bestRowOfActs_15 rfl hl (by decide) rfl (fun ls hl => ?_)
    refine lv_iconst (v := (0 : Int32)) hx hb dX7_bestRowOfActs_16 (by decide) ?_
    refine lv_istore (lv' := [(4, .int (0 : Int32)), (3, .int (w0 3 6)), (2, .int r3), (0, .ref (h0 0)), (1, .int x1)]) hx hb dX7_bestRowOfActs_17 hl (by decide) rfl (fun ls hl => ?_)
    refine lv_iconst (v := (-1 : Int32)) hx hb dX7_bestRowOfActs_19 (by decide) ?_
    refine lv_istore (lv' := [(5, .int (-1 : Int32)), (4, .int (0 : Int32)), (3, .int (w0 3 6)), (2, .int r3), (0, .ref (h0 0)), (1, .int x1)]) hx hb dX7_bestRowOfActs_20 hl (by decide) rfl (fun ls hl => ?_)
    refine lv_iconst (v := (0 : Int32)) hx hb dX7_bestRowOfActs_22 (by decide) ?_
    refine lv_istore (lv' := [(6, .int (0 : Int32)), (5, .int (-1 : Int32)), (4, .int (0 : Int32)), (3, .int (w0 3 6)), (2, .int r3), (0, .ref (h0 0)), (1, .int x1)]) hx hb dX7_bestRowOfActs_23 hl (by decide) rfl (fun ls hl => ?_)
    exact k25 zFU (w0 13) x1 r3 (w0 3 6) (0 : Int32) (-1 : Int32) (0 : Int32) H locs ls hP hD hS (lv_sub hl [5, 6, 4, 3, 2, 1, 0] rfl) hf
  exact kE s.heap [] hP hD hS
set_option maxHeartbeats 4000000 in
set_option maxRecDepth 100000 in
theorem kX7_plan (l : Launch) (dC : Nat → ClassId) (dI : Nat → Nat → Nat) (cy : ClassId) (h0 : Nat → Nat) (w0 : Nat → Nat → Int32) (x1 : Int32) (x2 : Int32) (sz : Nat) (z : Int32 × (Nat → Int32) × (Nat → Int32)) (hf : fX7_plan w0 x1 x2 = some z) : Met l yX7_plan (wsM yX7_plan cX7_plan 4 (some .int)) ({ frames := 7, cells := 0, slots := 0, locals := 165 } : Room) (va_Pc [.ref (h0 0), .int x1, .int x2] (pWR (dC, dI) vwCl [(cy, .int)] (zW_7 cy h0 w0) sz)) (va_Qi (fun (q : Int32) (v : (Nat → Int32) × (Nat → Int32)) => (q, v) = z) (fun v => aWR (dC, dI) vwCl [(cy, .int)] (va_A (zW_7 cy h0 w0) sz) (zW_7 cy h0 (ups (ups w0 13 v.1) 28 v.2))) (va_A (zW_7 cy h0 w0) sz)) 0 0 (va_A (zW_7 cy h0 w0) sz) := by
  refine Met.ofW (cc := cX7_plan) (maxL := 4) (ret := (some .int)) (by decide) rfl ?_
  intro p e s m args below meth c s₁ B hml hv
  obtain ⟨ha, hsz, hP, hK, hD0, hG⟩ := hv
  have hx := B.exec
  have hb := B.bytes
  have hr := B.returns
  have hts : ∀ w ∈ wsA, w.before args s = true := fun w h => atoms_spec (ws := wsM yX7_plan cX7_plan 4 (some .int)) B.pre w (List.mem_cons_of_mem _ h)
  have hown : s.vm.findClass RX7 = some m.cls := findClass_of_methodNamed B.named
  have hlocks := B.notSynchronized
  subst hsz
  have hD := hD0.self (sz := s.heap.size)
  generalize hAe : va_A (zW_7 cy h0 w0) s.heap.size = A at hD hG ⊢
  have hA : ∀ q : Nat, s.heap.size ≤ q → A q := fun q h => by rw [← hAe]; exact Or.inr h
  have hS : va_S A s.heap s.heap [] := va_S.rf
  have hP : va_P (dC, dI) vwCl (zW_7 cy h0 (ups (ups w0 13 (w0 13)) 28 (w0 28))) s.heap := hP
  have hD : va_D A (zW_7 cy h0 (ups (ups w0 13 (w0 13)) 28 (w0 28))) := hD
  have k9 : ∀ (c0_13 : (Nat → Int32)) (c0_28 : (Nat → Int32)) (H : Heap) (locs : List Loc) (ls : Array Slot), va_P (dC, dI) vwCl (zW_7 cy h0 (ups (ups w0 13 c0_13) 28 c0_28)) H → va_D A (zW_7 cy h0 (ups (ups w0 13 c0_13) 28 c0_28)) → va_S A s.heap H locs → lv_has ls 4 [(0, .ref (h0 0))] → (fX7_plan_9 w0) c0_13 c0_28 = some z → W p l e ({ frames := 7, cells := 0, slots := 0, locals := 165 } : Room) s m args below meth c H locs 0 0 (MQ below (va_Qi (fun (q : Int32) (v : (Nat → Int32) × (Nat → Int32)) => (q, v) = z) (fun v => aWR (dC, dI) vwCl [(cy, .int)] A (zW_7 cy h0 (ups (ups w0 13 v.1) 28 v.2))) A) args s 0 0 A) (F0 m 9 ls []) := by
    intro c0_13 c0_28 H locs ls hP hD hS hl hf
    unfold fX7_plan_9 at hf
    refine lv_aload_n hx hb dX7_plan_9 rfl (lv_at hl 0 rfl) ?_
    refine lv_bipush (v := (-4 : Int32)) hx hb dX7_plan_10 (by decide) ?_
    obtain ⟨r2, u3, hq1, hf⟩ := ob2_d hf
    refine zwiV (q := (RX7, TX7, 10)) (As := [.int (-4 : Int32)]) (rest := []) (r := r2) (u := u3) (wn := (zW_7 cy h0 (ups (ups w0 13 c0_13) 28 u3))) ⟨hx, hb, hml, hown, hts⟩ (kX7_refuse l dC dI cy h0 (ups (ups w0 13 c0_13) 28 c0_28) (-4 : Int32) H.size (r2, u3) hq1) mw_165 mw_166 mw_883 mw_1 mw_167 hdX7_refuse rfl rfl ⟨Nat.le_of_ble_eq_true rfl, Nat.le_of_ble_eq_true rfl⟩ hP hK hG hS 0 rfl rfl hD hA [0, 1, 2, 3, 4, 5, 6, 7, 8, 9, 10, 11, 12, 13, 14, 15, 16, 17, 18, 19, 20, 21, 22, 23, 24, 25, 26, 27, 28] [] [0, 1, 2, 3, 4, 5, 6, 7, 8, 9, 10, 11, 12, 13, 14, 15, 16, 17, 18, 19, 20, 21, 22, 23, 24, 25, 26, 27, 28] rfl rfl rfl rfl (by decide) rfl rfl rfl hl.1 rfl (Nat.le_of_ble_eq_true rfl) dX7_plan_12 ⟨Nat.zero_le _, Nat.zero_le _⟩ (fun H locs hP hD hS => ?_)
    exact zretI hx hb hr hlocks hP hK hD hS hf rfl dX7_plan_15
  obtain ⟨ls, hl, he⟩ := zent (m := m) (n := 4) (L := [(0, .ref (h0 0)), (1, .int x1), (2, .int x2)]) ha (Nat.le_of_ble_eq_true rfl) rfl
  refine W.eq he ?_
  unfold fX7_plan at hf
  have kE : ∀ (H : Heap) (locs : List Loc), va_P (dC, dI) vwCl (zW_7 cy h0 (ups (ups w0 13 (w0 13)) 28 (w0 28))) H → va_D A (zW_7 cy h0 (ups (ups w0 13 (w0 13)) 28 (w0 28))) → va_S A s.heap H locs → W p l e ({ frames := 7, cells := 0, slots := 0, locals := 165 } : Room) s m args below meth c H locs 0 0 (MQ below (va_Qi (fun (q : Int32) (v : (Nat → Int32) × (Nat → Int32)) => (q, v) = z) (fun v => aWR (dC, dI) vwCl [(cy, .int)] A (zW_7 cy h0 (ups (ups w0 13 v.1) 28 v.2))) A) args s 0 0 A) (F0 m 0 ls []) := by
    intro H locs hP hD hS
    refine lv_iload_n hx hb dX7_plan_0 rfl (lv_at hl 1 rfl) ?_
    refine lv_if_lt (tgt := 9) hx hb dX7_plan_1 (by decide) (fun hc => ?_) (fun hc => ?_)
    · have hf := it_t hc hf
      exact k9 (w0 13) (w0 28) H locs ls hP hD hS (lv_sub hl [0] rfl) hf
    · have hf := it_f hc hf
      refine lv_iload_n hx hb dX7_plan_4 rfl (lv_at hl 2 rfl) ?_
      refine lv_iconst (v := (-1 : Int32)) hx hb dX7_plan_5 (by decide) ?_
      refine lv_icmp_ge (tgt := 16) hx hb dX7_plan_6 (by decide) (fun hc => ?_) (fun hc => ?_)
      · have hf := it_t hc hf
        refine lv_iload_n hx hb dX7_plan_16 rfl (lv_at hl 1 rfl) ?_
        refine lv_iconst (v := (4 : Int32)) hx hb dX7_plan_17 (by decide) ?_
        refine lv_icmp_le (tgt := 28) hx hb dX7_plan_18 (by decide) (fun hc => ?_) (fun hc => ?_)
        · have hf := it_t hc hf
          refine lv_aload_n hx hb dX7_plan_28 rfl (lv_at hl 0 rfl) ?_
          refine zget hx hb hts hown hK hP hin_7 0 rfl rfl 2 (by decide) mw_143 (v := .ref (h0 12)) rfl dX7_plan_29 ?_
          refine zgetN hx hb hts hG hown hK hP hin_5 12 rfl rfl 0 (by decide) (host := "Embayed") (List.mem_of_getElem? (i := 42) rfl) (v := .int (w0 12 0)) rfl dX7_plan_32 ?_
          refine lv_if_ne (tgt := 45) hx hb dX7_plan_35 (by decide) (fun hc => ?_) (fun hc => ?_)
          · have hf := it_f hc hf
            refine lv_iload_n hx hb dX7_plan_45 rfl (lv_at hl 2 rfl) ?_
            refine lv_iload_n hx hb dX7_plan_46 rfl (lv_at hl 1 rfl) ?_
            refine lv_icmp_lt (tgt := 53) hx hb dX7_plan_47 (by decide) (fun hc => ?_) (fun hc => ?_)
            · have hf := it_t hc hf
              refine lv_aload_n hx hb dX7_plan_53 rfl (lv_at hl 0 rfl) ?_
              refine lv_iload_n hx hb dX7_plan_54 rfl (lv_at hl 1 rfl) ?_
              obtain ⟨r5, u6, hq4, hf⟩ := ob2_d hf
              refine zwiV (q := (RX7, TX7, 10)) (As := [.int x1]) (rest := []) (r := r5) (u := u6) (wn := (zW_7 cy h0 (ups (ups w0 13 u6) 28 (w0 28)))) ⟨hx, hb, hml, hown, hts⟩ (kX7_bestRowOfActs l dC dI cy h0 (ups (ups w0 13 (w0 13)) 28 (w0 28)) x1 H.size (r5, u6) hq4) mw_485 mw_486 mw_895 mw_1 mw_487 hdX7_bestRowOfActs rfl rfl ⟨Nat.le_of_ble_eq_true rfl, Nat.le_of_ble_eq_true rfl⟩ hP hK hG hS 0 rfl rfl hD hA [0, 1, 2, 3, 4, 5, 6, 7, 8, 9, 10, 11, 12, 13, 14, 15, 16, 17, 18, 19, 20, 21, 22, 23, 24, 25, 26, 27, 28] [] [0, 1, 2, 3, 4, 5, 6, 7, 8, 9, 10, 11, 12, 13, 14, 15, 16, 17, 18, 19, 20, 21, 22, 23, 24, 25, 26, 27, 28] rfl rfl rfl rfl (by decide) rfl rfl rfl hl.1 rfl (Nat.le_of_ble_eq_true rfl) dX7_plan_55 ⟨Nat.zero_le _, Nat.zero_le _⟩ (fun H locs hP hD hS => ?_)
              refine lv_istore_n (lv' := [(3, .int r5), (0, .ref (h0 0)), (1, .int x1), (2, .int x2)]) hx hb dX7_plan_58 rfl hl (by decide) rfl (fun ls hl => ?_)
              refine lv_iload_n hx hb dX7_plan_59 rfl (lv_at hl 3 rfl) ?_
              refine lv_if_ge (tgt := 72) hx hb dX7_plan_60 (by decide) (fun hc => ?_) (fun hc => ?_)
              · have hf := it_t hc hf
                refine lv_iload_n hx hb dX7_plan_72 rfl (lv_at hl 2 rfl) ?_
                refine lv_iload_n hx hb dX7_plan_73 rfl (lv_at hl 0 rfl) ?_
                refine lv_iload_n hx hb dX7_plan_74 rfl (lv_at hl 3 rfl) ?_
                obtain ⟨r8, hq7, hf⟩ := ob1_d hf
                refine zroS (As := [.int x1, .int r5, .int x2]) (rest := []) (r := r8) ⟨hx, hb, hml, hown, hts⟩ (kX7_actInRow l dC dI cy x1 r5 x2 r8 hq7) mw_493 mw_494 mw_1 mw_495 hdX7_actInRow rfl rfl ⟨Nat.le_of_ble_eq_true rfl, Nat.le_of_ble_eq_true rfl⟩ hP hK hG hS [] rfl rfl hl.1 rfl (Nat.le_of_ble_eq_true rfl) dX7_plan_75 ⟨Nat.zero_le _, Nat.zero_le _⟩ ?_
                exact zretI hx hb hr hlocks hP hK hD hS hf rfl dX7_plan_78
              · have hf := it_f hc hf
                refine lv_aload_n hx hb dX7_plan_63 rfl (lv_at hl 1 rfl) ?_
                refine lv_iload_n hx hb dX7_plan_64 rfl (lv_at hl 2 rfl) ?_
                refine lv_iload_n hx hb dX7_plan_65 rfl (lv_at hl 0 rfl) ?_
                obtain ⟨r10, u11, hq9, hf⟩ := ob2_d hf
                refine zwiV (q := (RX7, TX7, 10)) (As := [.int x1, .int r5]) (rest := []) (r := r10) (u := u11) (wn := (zW_7 cy h0 (ups (ups w0 13 u11) 28 (w0 28)))) ⟨hx, hb, hml, hown, hts⟩ (kX7_livesByActs l dC dI cy h0 (ups (ups w0 13 u6) 28 (w0 28)) x1 r5 H.size (r10, u11) hq9) mw_489 mw_490 mw_896 mw_1 mw_491 hdX7_livesByActs rfl rfl ⟨Nat.le_of_ble_eq_true rfl, Nat.le_of_ble_eq_true rfl⟩ hP hK hG hS 0 rfl rfl hD hA [0, 1, 2, 3, 4, 5, 6, 7, 8, 9, 10, 11, 12, 13, 14, 15, 16, 17, 18, 19, 20, 21, 22, 23, 24, 25, 26, 27, 28] [] [0, 1, 2, 3, 4, 5, 6, 7, 8, 9, 10, 11, 12, 13, 14, 15, 16, 17, 18, 19, 20, 21, 22, 23, 24, 25, 26, 27, 28] rfl rfl rfl rfl (by decide) rfl rfl rfl hl.1 rfl (Nat.le_of_ble_eq_true rfl) dX7_plan_66 ⟨Nat.zero_le _, Nat.zero_le _⟩ (fun H locs hP hD hS => ?_)
                refine lv_goto (tgt := 78) hx hb dX7_plan_69 (by decide) ?_
                exact zretI hx hb hr hlocks hP hK hD hS hf rfl dX7_plan_78
            · have hf := it_f hc hf
              refine lv_bipush (v := (-9 : Int32)) hx hb dX7_plan_50 (by decide) ?_
              exact zretI hx hb hr hlocks hP hK hD hS hf rfl dX7_plan_52
          · have hf := it_t hc hf
            refine lv_aload_n hx hb dX7_plan_38 rfl (lv_at hl 0 rfl) ?_
            refine lv_bipush (v := (-3 : Int32)) hx hb dX7_plan_39 (by decide) ?_
            obtain ⟨r13, u14, hq12, hf⟩ := ob2_d hf
            refine zwiV (q := (RX7, TX7, 10)) (As := [.int (-3 : Int32)]) (rest := []) (r := r13) (u := u14) (wn := (zW_7 cy h0 (ups (ups w0 13 (w0 13)) 28 u14))) ⟨hx, hb, hml, hown, hts⟩ (kX7_refuse l dC dI cy h0 (ups (ups w0 13 (w0 13)) 28 (w0 28)) (-3 : Int32) H.size (r13, u14) hq12) mw_165 mw_166 mw_883 mw_1 mw_167 hdX7_refuse rfl rfl ⟨Nat.le_of_ble_eq_true rfl, Nat.le_of_ble_eq_true rfl⟩ hP hK hG hS 0 rfl rfl hD hA [0, 1, 2, 3, 4, 5, 6, 7, 8, 9, 10, 11, 12, 13, 14, 15, 16, 17, 18, 19, 20, 21, 22, 23, 24, 25, 26, 27, 28] [] [0, 1, 2, 3, 4, 5, 6, 7, 8, 9, 10, 11, 12, 13, 14, 15, 16, 17, 18, 19, 20, 21, 22, 23, 24, 25, 26, 27, 28] rfl rfl rfl rfl (by decide) rfl rfl rfl hl.1 rfl (Nat.le_of_ble_eq_true rfl) dX7_plan_41 ⟨Nat.zero_le _, Nat.zero_le _⟩ (fun H locs hP hD hS => ?_)
            exact zretI hx hb hr hlocks hP hK hD hS hf rfl dX7_plan_44
        · have hf := it_f hc hf
          refine lv_aload_n hx hb dX7_plan_21 rfl (lv_at hl 0 rfl) ?_
          refine lv_bipush (v := (-6 : Int32)) hx hb dX7_plan_22 (by decide) ?_
          obtain ⟨r16, u17, hq15, hf⟩ := ob2_d hf
          refine zwiV (q := (RX7, TX7, 10)) (As := [.int (-6 : Int32)]) (rest := []) (r := r16) (u := u17) (wn := (zW_7 cy h0 (ups (ups w0 13 (w0 13)) 28 u17))) ⟨hx, hb, hml, hown, hts⟩ (kX7_refuse l dC dI cy h0 (ups (ups w0 13 (w0 13)) 28 (w0 28)) (-6 : Int32) H.size (r16, u17) hq15) mw_165 mw_166 mw_883 mw_1 mw_167 hdX7_refuse rfl rfl ⟨Nat.le_of_ble_eq_true rfl, Nat.le_of_ble_eq_true rfl⟩ hP hK hG hS 0 rfl rfl hD hA [0, 1, 2, 3, 4, 5, 6, 7, 8, 9, 10, 11, 12, 13, 14, 15, 16, 17, 18, 19, 20, 21, 22, 23, 24, 25, 26, 27, 28] [] [0, 1, 2, 3, 4, 5, 6, 7, 8, 9, 10, 11, 12, 13, 14, 15, 16, 17, 18, 19, 20, 21, 22, 23, 24, 25, 26, 27, 28] rfl rfl rfl rfl (by decide) rfl rfl rfl hl.1 rfl (Nat.le_of_ble_eq_true rfl) dX7_plan_24 ⟨Nat.zero_le _, Nat.zero_le _⟩ (fun H locs hP hD hS => ?_)
          exact zretI hx hb hr hlocks hP hK hD hS hf rfl dX7_plan_27
      · have hf := it_f hc hf
        exact k9 (w0 13) (w0 28) H locs ls hP hD hS (lv_sub hl [0] rfl) hf
  exact kE s.heap [] hP hD hS
set_option maxHeartbeats 4000000 in
set_option maxRecDepth 100000 in
theorem kX7_stood (l : Launch) (dC : Nat → ClassId) (dI : Nat → Nat → Nat) (cy : ClassId) (h0 : Nat → Nat) (w0 : Nat → Nat → Int32) (x1 : Int32) (x2 : Int32) (sz : Nat) (z : Int32 × (Nat → Int32) × (Nat → Int32)) (hf : fX7_stood w0 x1 x2 = some z) : Met l yX7_stood (wsM yX7_stood cX7_stood 4 (some .int)) ({ frames := 6, cells := 0, slots := 0, locals := 138 } : Room) (va_Pc [.ref (h0 0), .int x1, .int x2] (pWR (dC, dI) vwCl [(cy, .int)] (zW_7 cy h0 w0) sz)) (va_Qi (fun (q : Int32) (v : (Nat → Int32) × (Nat → Int32)) => (q, v) = z) (fun v => aWR (dC, dI) vwCl [(cy, .int)] (va_A (zW_7 cy h0 w0) sz) (zW_7 cy h0 (ups (ups w0 13 v.1) 28 v.2))) (va_A (zW_7 cy h0 w0) sz)) 0 0 (va_A (zW_7 cy h0 w0) sz) := by
  refine Met.ofW (cc := cX7_stood) (maxL := 4) (ret := (some .int)) (by decide) rfl ?_
  intro p e s m args below meth c s₁ B hml hv
  obtain ⟨ha, hsz, hP, hK, hD0, hG⟩ := hv
  have hx := B.exec
  have hb := B.bytes
  have hr := B.returns
  have hts : ∀ w ∈ wsA, w.before args s = true := fun w h => atoms_spec (ws := wsM yX7_stood cX7_stood 4 (some .int)) B.pre w (List.mem_cons_of_mem _ h)
  have hown : s.vm.findClass RX7 = some m.cls := findClass_of_methodNamed B.named
  have hlocks := B.notSynchronized
  subst hsz
  have hD := hD0.self (sz := s.heap.size)
  generalize hAe : va_A (zW_7 cy h0 w0) s.heap.size = A at hD hG ⊢
  have hA : ∀ q : Nat, s.heap.size ≤ q → A q := fun q h => by rw [← hAe]; exact Or.inr h
  have hS : va_S A s.heap s.heap [] := va_S.rf
  have hP : va_P (dC, dI) vwCl (zW_7 cy h0 (ups (ups w0 13 (w0 13)) 28 (w0 28))) s.heap := hP
  have hD : va_D A (zW_7 cy h0 (ups (ups w0 13 (w0 13)) 28 (w0 28))) := hD
  have k21 : ∀ (c0_13 : (Nat → Int32)) (c0_28 : (Nat → Int32)) (H : Heap) (locs : List Loc) (ls : Array Slot), va_P (dC, dI) vwCl (zW_7 cy h0 (ups (ups w0 13 c0_13) 28 c0_28)) H → va_D A (zW_7 cy h0 (ups (ups w0 13 c0_13) 28 c0_28)) → va_S A s.heap H locs → lv_has ls 4 [(0, .ref (h0 0))] → (fX7_stood_21 w0) c0_13 c0_28 = some z → W p l e ({ frames := 6, cells := 0, slots := 0, locals := 138 } : Room) s m args below meth c H locs 0 0 (MQ below (va_Qi (fun (q : Int32) (v : (Nat → Int32) × (Nat → Int32)) => (q, v) = z) (fun v => aWR (dC, dI) vwCl [(cy, .int)] A (zW_7 cy h0 (ups (ups w0 13 v.1) 28 v.2))) A) args s 0 0 A) (F0 m 21 ls []) := by
    intro c0_13 c0_28 H locs ls hP hD hS hl hf
    unfold fX7_stood_21 at hf
    refine lv_aload_n hx hb dX7_stood_21 rfl (lv_at hl 0 rfl) ?_
    refine lv_iconst (v := (-1 : Int32)) hx hb dX7_stood_22 (by decide) ?_
    obtain ⟨r4, u5, hq3, hf⟩ := ob2_d hf
    refine zwiV (q := (RX7, TX7, 10)) (As := [.int (-1 : Int32)]) (rest := []) (r := r4) (u := u5) (wn := (zW_7 cy h0 (ups (ups w0 13 c0_13) 28 u5))) ⟨hx, hb, hml, hown, hts⟩ (kX7_refuse l dC dI cy h0 (ups (ups w0 13 c0_13) 28 c0_28) (-1 : Int32) H.size (r4, u5) hq3) mw_165 mw_166 mw_883 mw_1 mw_167 hdX7_refuse rfl rfl ⟨Nat.le_of_ble_eq_true rfl, Nat.le_of_ble_eq_true rfl⟩ hP hK hG hS 0 rfl rfl hD hA [0, 1, 2, 3, 4, 5, 6, 7, 8, 9, 10, 11, 12, 13, 14, 15, 16, 17, 18, 19, 20, 21, 22, 23, 24, 25, 26, 27, 28] [] [0, 1, 2, 3, 4, 5, 6, 7, 8, 9, 10, 11, 12, 13, 14, 15, 16, 17, 18, 19, 20, 21, 22, 23, 24, 25, 26, 27, 28] rfl rfl rfl rfl (by decide) rfl rfl rfl hl.1 rfl (Nat.le_of_ble_eq_true rfl) dX7_stood_23 ⟨Nat.zero_le _, Nat.zero_le _⟩ (fun H locs hP hD hS => ?_)
    exact zretI hx hb hr hlocks hP hK hD hS hf rfl dX7_stood_26
  have k48 : ∀ (c0_13 : (Nat → Int32)) (c0_28 : (Nat → Int32)) (H : Heap) (locs : List Loc) (ls : Array Slot), va_P (dC, dI) vwCl (zW_7 cy h0 (ups (ups w0 13 c0_13) 28 c0_28)) H → va_D A (zW_7 cy h0 (ups (ups w0 13 c0_13) 28 c0_28)) → va_S A s.heap H locs → lv_has ls 4 [(0, .ref (h0 0))] → (fX7_stood_48 w0) c0_13 c0_28 = some z → W p l e ({ frames := 6, cells := 0, slots := 0, locals := 138 } : Room) s m args below meth c H locs 0 0 (MQ below (va_Qi (fun (q : Int32) (v : (Nat → Int32) × (Nat → Int32)) => (q, v) = z) (fun v => aWR (dC, dI) vwCl [(cy, .int)] A (zW_7 cy h0 (ups (ups w0 13 v.1) 28 v.2))) A) args s 0 0 A) (F0 m 48 ls []) := by
    intro c0_13 c0_28 H locs ls hP hD hS hl hf
    unfold fX7_stood_48 at hf
    refine lv_aload_n hx hb dX7_stood_48 rfl (lv_at hl 0 rfl) ?_
    refine lv_bipush (v := (-3 : Int32)) hx hb dX7_stood_49 (by decide) ?_
    obtain ⟨r11, u12, hq10, hf⟩ := ob2_d hf
    refine zwiV (q := (RX7, TX7, 10)) (As := [.int (-3 : Int32)]) (rest := []) (r := r11) (u := u12) (wn := (zW_7 cy h0 (ups (ups w0 13 c0_13) 28 u12))) ⟨hx, hb, hml, hown, hts⟩ (kX7_refuse l dC dI cy h0 (ups (ups w0 13 c0_13) 28 c0_28) (-3 : Int32) H.size (r11, u12) hq10) mw_165 mw_166 mw_883 mw_1 mw_167 hdX7_refuse rfl rfl ⟨Nat.le_of_ble_eq_true rfl, Nat.le_of_ble_eq_true rfl⟩ hP hK hG hS 0 rfl rfl hD hA [0, 1, 2, 3, 4, 5, 6, 7, 8, 9, 10, 11, 12, 13, 14, 15, 16, 17, 18, 19, 20, 21, 22, 23, 24, 25, 26, 27, 28] [] [0, 1, 2, 3, 4, 5, 6, 7, 8, 9, 10, 11, 12, 13, 14, 15, 16, 17, 18, 19, 20, 21, 22, 23, 24, 25, 26, 27, 28] rfl rfl rfl rfl (by decide) rfl rfl rfl hl.1 rfl (Nat.le_of_ble_eq_true rfl) dX7_stood_51 ⟨Nat.zero_le _, Nat.zero_le _⟩ (fun H locs hP hD hS => ?_)
    exact zretI hx hb hr hlocks hP hK hD hS hf rfl dX7_stood_54
  have k58 : ∀ n : Nat, ∀ (c0_13 : (Nat → Int32)) (c0_28 : (Nat → Int32)) (x1 : Int32) (x2 : Int32) (x3 : Int32) (H : Heap) (locs : List Loc) (ls : Array Slot), va_P (dC, dI) vwCl (zW_7 cy h0 (ups (ups w0 13 c0_13) 28 c0_28)) H → va_D A (zW_7 cy h0 (ups (ups w0 13 c0_13) 28 c0_28)) → va_S A s.heap H locs → lv_has ls 4 [(0, .ref (h0 0)), (1, .int x1), (2, .int x2), (3, .int x3)] → (zl5 (fX7_stood_58 w0) n) c0_13 c0_28 x1 x2 x3 = some z → W p l e ({ frames := 6, cells := 0, slots := 0, locals := 138 } : Room) s m args below meth c H locs 0 0 (MQ below (va_Qi (fun (q : Int32) (v : (Nat → Int32) × (Nat → Int32)) => (q, v) = z) (fun v => aWR (dC, dI) vwCl [(cy, .int)] A (zW_7 cy h0 (ups (ups w0 13 v.1) 28 v.2))) A) args s 0 0 A) (F0 m 58 ls []) := by
    intro n
    induction n with
    | zero =>
      intro c0_13 c0_28 x1 x2 x3 H locs ls hP hD hS hl hf
      exact z_no hf
    | succ n hs58 =>
      intro c0_13 c0_28 x1 x2 x3 H locs ls hP hD hS hl hf
      have hf : fX7_stood_58 w0 (zl5 (fX7_stood_58 w0) n) c0_13 c0_28 x1 x2 x3 = some z := hf
      generalize zl5 (fX7_stood_58 w0) n = s58 at hs58 hf
      unfold fX7_stood_58 at hf
      refine lv_iload_n hx hb dX7_stood_58 rfl (lv_at hl 3 rfl) ?_
      refine lv_if_lt (tgt := 133) hx hb dX7_stood_59 (by decide) (fun hc => ?_) (fun hc => ?_)
      · have hf := it_t hc hf
        refine lv_bipush (v := (-9 : Int32)) hx hb dX7_stood_133 (by decide) ?_
        exact zretI hx hb hr hlocks hP hK hD hS hf rfl dX7_stood_135
      · have hf := it_f hc hf
        refine lv_aload_n hx hb dX7_stood_62 rfl (lv_at hl 0 rfl) ?_
        refine zget hx hb hts hown hK hP hin_7 0 rfl rfl 3 (by decide) mw_144 (v := .ref (h0 13)) rfl dX7_stood_63 ?_
        refine lv_iload_n hx hb dX7_stood_66 rfl (lv_at hl 1 rfl) ?_
        obtain ⟨u14, hq13, hf⟩ := ob1_d hf
        refine zwvV (q := (RX5, TX5, 17)) (As := [.int x1]) (rest := []) (u := u14) (wn := (zW_7 cy h0 (ups (ups w0 13 u14) 28 c0_28))) ⟨hx, hb, hml, hown, hts⟩ (kX5_layIn l dC dI cy (h0 13) c0_13 x1 H.size u14 hq13) mw_262 mw_87 mw_88 mw_6 mw_89 hdX5_layIn rfl rfl ⟨Nat.le_of_ble_eq_true rfl, Nat.le_of_ble_eq_true rfl⟩ hP hK hG hS 13 rfl rfl hD hA [13] [0, 1, 2, 3, 4, 5, 6, 7, 8, 9, 10, 11, 12, 14, 15, 16, 17, 18, 19, 20, 21, 22, 23, 24, 25, 26, 27, 28] [0, 1, 2, 3, 4, 5, 6, 7, 8, 9, 10, 11, 12, 28, 13, 14, 15, 16, 17, 18, 19, 20, 21, 22, 23, 24, 25, 26, 27] rfl rfl rfl rfl (by decide) rfl rfl rfl hl.1 rfl (Nat.le_of_ble_eq_true rfl) dX7_stood_67 ⟨Nat.zero_le _, Nat.zero_le _⟩ (fun H locs hP hD hS => ?_)
        refine lv_aload_n hx hb dX7_stood_70 rfl (lv_at hl 0 rfl) ?_
        refine zget hx hb hts hown hK hP hin_7 0 rfl rfl 3 (by decide) mw_144 (v := .ref (h0 13)) rfl dX7_stood_71 ?_
        refine lv_iload_n hx hb dX7_stood_74 rfl (lv_at hl 2 rfl) ?_
        refine zputN hx hb hts hG hown hK hP hD hS hin_5 tyX5 tyX5_ok nmX5 13 rfl rfl 2 (by decide) (host := "Embayed") (List.mem_of_getElem? (i := 45) rfl) rfl (v := .int x2) rfl rfl (Nat.le_of_ble_eq_true rfl) (wn := (zW_7 cy h0 (ups (ups w0 13 (ups u14 2 x2)) 28 c0_28))) rfl dX7_stood_75 (fun H locs hP hD hS => ?_)
        refine lv_aload_n hx hb dX7_stood_78 rfl (lv_at hl 0 rfl) ?_
        refine zget hx hb hts hown hK hP hin_7 0 rfl rfl 3 (by decide) mw_144 (v := .ref (h0 13)) rfl dX7_stood_79 ?_
        refine lv_aload_n hx hb dX7_stood_82 rfl (lv_at hl 0 rfl) ?_
        refine zget hx hb hts hown hK hP hin_7 0 rfl rfl 2 (by decide) mw_143 (v := .ref (h0 12)) rfl dX7_stood_83 ?_
        refine zgetN hx hb hts hG hown hK hP hin_5 12 rfl rfl 3 (by decide) (host := "Embayed") (List.mem_of_getElem? (i := 46) rfl) (v := .int (w0 12 3)) rfl dX7_stood_86 ?_
        refine zputN hx hb hts hG hown hK hP hD hS hin_5 tyX5 tyX5_ok nmX5 13 rfl rfl 3 (by decide) (host := "Embayed") (List.mem_of_getElem? (i := 46) rfl) rfl (v := .int (w0 12 3)) rfl rfl (Nat.le_of_ble_eq_true rfl) (wn := (zW_7 cy h0 (ups (ups w0 13 (ups (ups u14 2 x2) 3 (w0 12 3))) 28 c0_28))) rfl dX7_stood_89 (fun H locs hP hD hS => ?_)
        refine lv_aload_n hx hb dX7_stood_92 rfl (lv_at hl 0 rfl) ?_
        refine zget hx hb hts hown hK hP hin_7 0 rfl rfl 3 (by decide) mw_144 (v := .ref (h0 13)) rfl dX7_stood_93 ?_
        refine lv_iload_n hx hb dX7_stood_96 rfl (lv_at hl 3 rfl) ?_
        refine zputN hx hb hts hG hown hK hP hD hS hin_5 tyX5 tyX5_ok nmX5 13 rfl rfl 9 (by decide) (host := "Embayed") (List.mem_of_getElem? (i := 52) rfl) rfl (v := .int x3) rfl rfl (Nat.le_of_ble_eq_true rfl) (wn := (zW_7 cy h0 (ups (ups w0 13 (ups (ups (ups u14 2 x2) 3 (w0 12 3)) 9 x3)) 28 c0_28))) rfl dX7_stood_97 (fun H locs hP hD hS => ?_)
        refine lv_aload_n hx hb dX7_stood_100 rfl (lv_at hl 0 rfl) ?_
        refine zget hx hb hts hown hK hP hin_7 0 rfl rfl 3 (by decide) mw_144 (v := .ref (h0 13)) rfl dX7_stood_101 ?_
        refine lv_aload_n hx hb dX7_stood_104 rfl (lv_at hl 0 rfl) ?_
        refine zget hx hb hts hown hK hP hin_7 0 rfl rfl 1 (by decide) mw_142 (v := .ref (h0 3)) rfl dX7_stood_105 ?_
        refine lv_bipush (v := (60 : Int32)) hx hb dX7_stood_108 (by decide) ?_
        obtain ⟨u16, hq15, hf⟩ := ob1_d hf
        refine zwvV (q := (RX5, TX5, 17)) (As := [.ref (h0 3), .int (60 : Int32)]) (rest := []) (u := u16) (wn := (zW_7 cy h0 (ups (ups w0 13 u16) 28 c0_28))) ⟨hx, hb, hml, hown, hts⟩ (kX5_passTens l dC dI cy (h0 13) (ups (ups (ups u14 2 x2) 3 (w0 12 3)) 9 x3) (sh 3 h0) (sh 3 w0) (60 : Int32) H.size u16 hq15) mw_300 mw_301 mw_302 mw_6 mw_303 hdX5_passTens rfl rfl ⟨Nat.le_of_ble_eq_true rfl, Nat.le_of_ble_eq_true rfl⟩ hP hK hG hS 13 rfl rfl hD hA [13, 3, 4, 5, 6, 7, 8, 9, 10, 11] [0, 1, 2, 12, 14, 15, 16, 17, 18, 19, 20, 21, 22, 23, 24, 25, 26, 27, 28] [0, 1, 2, 20, 21, 22, 23, 24, 25, 26, 27, 28, 3, 19, 4, 5, 6, 7, 8, 9, 10, 11, 12, 13, 14, 15, 16, 17, 18] rfl rfl rfl rfl (by decide) rfl rfl rfl hl.1 rfl (Nat.le_of_ble_eq_true rfl) dX7_stood_110 ⟨Nat.zero_le _, Nat.zero_le _⟩ (fun H locs hP hD hS => ?_)
        refine lv_aload_n hx hb dX7_stood_113 rfl (lv_at hl 0 rfl) ?_
        refine zget hx hb hts hown hK hP hin_7 0 rfl rfl 3 (by decide) mw_144 (v := .ref (h0 13)) rfl dX7_stood_114 ?_
        refine zgetN hx hb hts hG hown hK hP hin_5 13 rfl rfl 10 (by decide) (host := "Embayed") (List.mem_of_getElem? (i := 53) rfl) (v := .int (u16 10)) rfl dX7_stood_117 ?_
        refine lv_bipush (v := (8 : Int32)) hx hb dX7_stood_120 (by decide) ?_
        refine lv_icmp_ne (tgt := 127) hx hb dX7_stood_122 (by decide) (fun hc => ?_) (fun hc => ?_)
        · have hf := it_f hc hf
          refine lv_zinc (lv' := [(3, .int (x3 + (-1 : Int32))), (0, .ref (h0 0)), (1, .int x1), (2, .int x2)]) hx hb dX7_stood_127 hl (k := 3) rfl (v := (-1 : Int32)) (by decide) (by decide) rfl (fun ls hl => ?_)
          refine lv_goto (tgt := 58) hx hb dX7_stood_130 (by decide) ?_
          exact hs58 u16 c0_28 x1 x2 (x3 + (-1 : Int32)) H locs ls hP hD hS (lv_sub hl [1, 2, 3, 0] rfl) hf
        · have hf := it_t hc hf
          refine lv_iload_n hx hb dX7_stood_125 rfl (lv_at hl 3 rfl) ?_
          exact zretI hx hb hr hlocks hP hK hD hS hf rfl dX7_stood_126
  obtain ⟨ls, hl, he⟩ := zent (m := m) (n := 4) (L := [(0, .ref (h0 0)), (1, .int x1), (2, .int x2)]) ha (Nat.le_of_ble_eq_true rfl) rfl
  refine W.eq he ?_
  unfold fX7_stood at hf
  have kE : ∀ (H : Heap) (locs : List Loc), va_P (dC, dI) vwCl (zW_7 cy h0 (ups (ups w0 13 (w0 13)) 28 (w0 28))) H → va_D A (zW_7 cy h0 (ups (ups w0 13 (w0 13)) 28 (w0 28))) → va_S A s.heap H locs → W p l e ({ frames := 6, cells := 0, slots := 0, locals := 138 } : Room) s m args below meth c H locs 0 0 (MQ below (va_Qi (fun (q : Int32) (v : (Nat → Int32) × (Nat → Int32)) => (q, v) = z) (fun v => aWR (dC, dI) vwCl [(cy, .int)] A (zW_7 cy h0 (ups (ups w0 13 v.1) 28 v.2))) A) args s 0 0 A) (F0 m 0 ls []) := by
    intro H locs hP hD hS
    refine lv_aload_n hx hb dX7_stood_0 rfl (lv_at hl 0 rfl) ?_
    refine zget hx hb hts hown hK hP hin_7 0 rfl rfl 1 (by decide) mw_142 (v := .ref (h0 3)) rfl dX7_stood_1 ?_
    refine zgetN hx hb hts hG hown hK hP hin_6 3 rfl rfl 0 (by decide) (host := "Embayed") (List.mem_of_getElem? (i := 26) rfl) (v := .ref (h0 4)) rfl dX7_stood_4 ?_
    refine lv_iload_n hx hb dX7_stood_7 rfl (lv_at hl 1 rfl) ?_
    obtain ⟨r2, hq1, hf⟩ := ob1_d hf
    refine zroV (q := (RX1, TX1, 3)) (As := [.int x1]) (rest := []) (r := r2) ⟨hx, hb, hml, hown, hts⟩ (kX1_has l dC dI cy (sh 4 h0) (sh 4 w0) x1 r2 hq1) mw_208 mw_209 mw_210 mw_4 mw_211 hdX1_has rfl rfl ⟨Nat.le_of_ble_eq_true rfl, Nat.le_of_ble_eq_true rfl⟩ hP hK hG hS 4 rfl rfl [4, 5] rfl rfl hl.1 rfl (Nat.le_of_ble_eq_true rfl) dX7_stood_8 ⟨Nat.zero_le _, Nat.zero_le _⟩ ?_
    refine lv_if_eq (tgt := 21) hx hb dX7_stood_11 (by decide) (fun hc => ?_) (fun hc => ?_)
    · have hf := it_t hc hf
      exact k21 (w0 13) (w0 28) H locs ls hP hD hS (lv_sub hl [0] rfl) hf
    · have hf := it_f hc hf
      refine lv_iload_n hx hb dX7_stood_14 rfl (lv_at hl 2 rfl) ?_
      obtain ⟨r7, hq6, hf⟩ := ob1_d hf
      refine zroS (As := [.int x2]) (rest := []) (r := r7) ⟨hx, hb, hml, hown, hts⟩ (kX7_isDirection l dC dI cy x2 r7 hq6) mw_235 mw_236 mw_1 mw_237 hdX7_isDirection rfl rfl ⟨Nat.le_of_ble_eq_true rfl, Nat.le_of_ble_eq_true rfl⟩ hP hK hG hS [] rfl rfl hl.1 rfl (Nat.le_of_ble_eq_true rfl) dX7_stood_15 ⟨Nat.zero_le _, Nat.zero_le _⟩ ?_
      refine lv_if_ne (tgt := 27) hx hb dX7_stood_18 (by decide) (fun hc => ?_) (fun hc => ?_)
      · have hf := it_f hc hf
        refine lv_aload_n hx hb dX7_stood_27 rfl (lv_at hl 0 rfl) ?_
        refine zget hx hb hts hown hK hP hin_7 0 rfl rfl 1 (by decide) mw_142 (v := .ref (h0 3)) rfl dX7_stood_28 ?_
        refine lv_iload_n hx hb dX7_stood_31 rfl (lv_at hl 1 rfl) ?_
        obtain ⟨r9, hq8, hf⟩ := ob1_d hf
        refine zroV (q := (RX6, TX6, 10)) (As := [.int x1]) (rest := []) (r := r9) ⟨hx, hb, hml, hown, hts⟩ (kX6_floatsAt l dC dI cy (sh 3 h0) (sh 3 w0) x1 r9 hq8) mw_254 mw_255 mw_256 mw_3 mw_257 hdX6_floatsAt rfl rfl ⟨Nat.le_of_ble_eq_true rfl, Nat.le_of_ble_eq_true rfl⟩ hP hK hG hS 3 rfl rfl [3, 4, 5, 6, 7, 8, 9, 10, 11] rfl rfl hl.1 rfl (Nat.le_of_ble_eq_true rfl) dX7_stood_32 ⟨Nat.zero_le _, Nat.zero_le _⟩ ?_
        refine lv_if_eq (tgt := 48) hx hb dX7_stood_35 (by decide) (fun hc => ?_) (fun hc => ?_)
        · have hf := it_t hc hf
          exact k48 (w0 13) (w0 28) H locs ls hP hD hS (lv_sub hl [0] rfl) hf
        · have hf := it_f hc hf
          refine lv_aload_n hx hb dX7_stood_38 rfl (lv_at hl 0 rfl) ?_
          refine zget hx hb hts hown hK hP hin_7 0 rfl rfl 2 (by decide) mw_143 (v := .ref (h0 12)) rfl dX7_stood_39 ?_
          refine zgetN hx hb hts hG hown hK hP hin_5 12 rfl rfl 0 (by decide) (host := "Embayed") (List.mem_of_getElem? (i := 42) rfl) (v := .int (w0 12 0)) rfl dX7_stood_42 ?_
          refine lv_if_ne (tgt := 55) hx hb dX7_stood_45 (by decide) (fun hc => ?_) (fun hc => ?_)
          · have hf := it_f hc hf
            refine lv_bipush (v := (40 : Int32)) hx hb dX7_stood_55 (by decide) ?_
            refine lv_istore_n (lv' := [(3, .int (40 : Int32)), (0, .ref (h0 0)), (1, .int x1), (2, .int x2)]) hx hb dX7_stood_57 rfl hl (by decide) rfl (fun ls hl => ?_)
            exact k58 zFU (w0 13) (w0 28) x1 x2 (40 : Int32) H locs ls hP hD hS (lv_sub hl [1, 2, 3, 0] rfl) hf
          · have hf := it_t hc hf
            exact k48 (w0 13) (w0 28) H locs ls hP hD hS (lv_sub hl [0] rfl) hf
      · have hf := it_t hc hf
        exact k21 (w0 13) (w0 28) H locs ls hP hD hS (lv_sub hl [0] rfl) hf
  exact kE s.heap [] hP hD hS
set_option maxHeartbeats 4000000 in
set_option maxRecDepth 100000 in
theorem kX7_worth (l : Launch) (dC : Nat → ClassId) (dI : Nat → Nat → Nat) (cy : ClassId) (h0 : Nat → Nat) (w0 : Nat → Nat → Int32) (x1 : Int32) (x2 : Int32) (sz : Nat) (z : Int32 × (Nat → Int32) × (Nat → Int32)) (hf : fX7_worth w0 x1 x2 = some z) : Met l yX7_worth (wsM yX7_worth cX7_worth 4 (some .int)) ({ frames := 6, cells := 0, slots := 0, locals := 138 } : Room) (va_Pc [.ref (h0 0), .int x1, .int x2] (pWR (dC, dI) vwCl [(cy, .int)] (zW_7 cy h0 w0) sz)) (va_Qi (fun (q : Int32) (v : (Nat → Int32) × (Nat → Int32)) => (q, v) = z) (fun v => aWR (dC, dI) vwCl [(cy, .int)] (va_A (zW_7 cy h0 w0) sz) (zW_7 cy h0 (ups (ups w0 13 v.1) 28 v.2))) (va_A (zW_7 cy h0 w0) sz)) 0 0 (va_A (zW_7 cy h0 w0) sz) := by
  refine Met.ofW (cc := cX7_worth) (maxL := 4) (ret := (some .int)) (by decide) rfl ?_
  intro p e s m args below meth c s₁ B hml hv
  obtain ⟨ha, hsz, hP, hK, hD0, hG⟩ := hv
  have hx := B.exec
  have hb := B.bytes
  have hr := B.returns
  have hts : ∀ w ∈ wsA, w.before args s = true := fun w h => atoms_spec (ws := wsM yX7_worth cX7_worth 4 (some .int)) B.pre w (List.mem_cons_of_mem _ h)
  have hown : s.vm.findClass RX7 = some m.cls := findClass_of_methodNamed B.named
  have hlocks := B.notSynchronized
  subst hsz
  have hD := hD0.self (sz := s.heap.size)
  generalize hAe : va_A (zW_7 cy h0 w0) s.heap.size = A at hD hG ⊢
  have hA : ∀ q : Nat, s.heap.size ≤ q → A q := fun q h => by rw [← hAe]; exact Or.inr h
  have hS : va_S A s.heap s.heap [] := va_S.rf
  have hP : va_P (dC, dI) vwCl (zW_7 cy h0 (ups (ups w0 13 (w0 13)) 28 (w0 28))) s.heap := hP
  have hD : va_D A (zW_7 cy h0 (ups (ups w0 13 (w0 13)) 28 (w0 28))) := hD
  obtain ⟨ls, hl, he⟩ := zent (m := m) (n := 4) (L := [(0, .ref (h0 0)), (1, .int x1), (2, .int x2)]) ha (Nat.le_of_ble_eq_true rfl) rfl
  refine W.eq he ?_
  unfold fX7_worth at hf
  have kE : ∀ (H : Heap) (locs : List Loc), va_P (dC, dI) vwCl (zW_7 cy h0 (ups (ups w0 13 (w0 13)) 28 (w0 28))) H → va_D A (zW_7 cy h0 (ups (ups w0 13 (w0 13)) 28 (w0 28))) → va_S A s.heap H locs → W p l e ({ frames := 6, cells := 0, slots := 0, locals := 138 } : Room) s m args below meth c H locs 0 0 (MQ below (va_Qi (fun (q : Int32) (v : (Nat → Int32) × (Nat → Int32)) => (q, v) = z) (fun v => aWR (dC, dI) vwCl [(cy, .int)] A (zW_7 cy h0 (ups (ups w0 13 v.1) 28 v.2))) A) args s 0 0 A) (F0 m 0 ls []) := by
    intro H locs hP hD hS
    refine lv_iload_n hx hb dX7_worth_0 rfl (lv_at hl 2 rfl) ?_
    obtain ⟨r2, hq1, hf⟩ := ob1_d hf
    refine zroS (As := [.int x2]) (rest := []) (r := r2) ⟨hx, hb, hml, hown, hts⟩ (kX7_isDirection l dC dI cy x2 r2 hq1) mw_235 mw_236 mw_1 mw_237 hdX7_isDirection rfl rfl ⟨Nat.le_of_ble_eq_true rfl, Nat.le_of_ble_eq_true rfl⟩ hP hK hG hS [] rfl rfl hl.1 rfl (Nat.le_of_ble_eq_true rfl) dX7_worth_1 ⟨Nat.zero_le _, Nat.zero_le _⟩ ?_
    refine lv_if_ne (tgt := 16) hx hb dX7_worth_4 (by decide) (fun hc => ?_) (fun hc => ?_)
    · have hf := it_f hc hf
      refine lv_iload_n hx hb dX7_worth_16 rfl (lv_at hl 1 rfl) ?_
      refine lv_if_ge (tgt := 30) hx hb dX7_worth_17 (by decide) (fun hc => ?_) (fun hc => ?_)
      · have hf := it_t hc hf
        refine lv_iload_n hx hb dX7_worth_30 rfl (lv_at hl 1 rfl) ?_
        refine lv_bipush (v := (30 : Int32)) hx hb dX7_worth_31 (by decide) ?_
        refine lv_icmp_lt (tgt := 46) hx hb dX7_worth_33 (by decide) (fun hc => ?_) (fun hc => ?_)
        · have hf := it_t hc hf
          refine lv_aload_n hx hb dX7_worth_46 rfl (lv_at hl 0 rfl) ?_
          refine zget hx hb hts hown hK hP hin_7 0 rfl rfl 2 (by decide) mw_143 (v := .ref (h0 12)) rfl dX7_worth_47 ?_
          refine zgetN hx hb hts hG hown hK hP hin_5 12 rfl rfl 0 (by decide) (host := "Embayed") (List.mem_of_getElem? (i := 42) rfl) (v := .int (w0 12 0)) rfl dX7_worth_50 ?_
          refine lv_if_ne (tgt := 66) hx hb dX7_worth_53 (by decide) (fun hc => ?_) (fun hc => ?_)
          · have hf := it_f hc hf
            refine lv_aload_n hx hb dX7_worth_66 rfl (lv_at hl 0 rfl) ?_
            refine zget hx hb hts hown hK hP hin_7 0 rfl rfl 3 (by decide) mw_144 (v := .ref (h0 13)) rfl dX7_worth_67 ?_
            refine lv_aload_n hx hb dX7_worth_70 rfl (lv_at hl 0 rfl) ?_
            refine zget hx hb hts hown hK hP hin_7 0 rfl rfl 2 (by decide) mw_143 (v := .ref (h0 12)) rfl dX7_worth_71 ?_
            obtain ⟨u4, hq3, hf⟩ := ob1_d hf
            refine zwvV (q := (RX5, TX5, 17)) (As := [.ref (h0 12)]) (rest := []) (u := u4) (wn := (zW_7 cy h0 (ups (ups w0 13 u4) 28 (w0 28)))) ⟨hx, hb, hml, hown, hts⟩ (kX5_copyFrom l dC dI cy (h0 13) (w0 13) (h0 12) (w0 12) H.size u4 hq3) mw_448 mw_449 mw_450 mw_6 mw_451 hdX5_copyFrom rfl rfl ⟨Nat.le_of_ble_eq_true rfl, Nat.le_of_ble_eq_true rfl⟩ hP hK hG hS 13 rfl rfl hD hA [13, 12] [0, 1, 2, 3, 4, 5, 6, 7, 8, 9, 10, 11, 14, 15, 16, 17, 18, 19, 20, 21, 22, 23, 24, 25, 26, 27, 28] [0, 1, 2, 3, 4, 5, 6, 7, 8, 9, 10, 11, 28, 27, 12, 13, 14, 15, 16, 17, 18, 19, 20, 21, 22, 23, 24, 25, 26] rfl rfl rfl rfl (by decide) rfl rfl rfl hl.1 rfl (Nat.le_of_ble_eq_true rfl) dX7_worth_74 ⟨Nat.zero_le _, Nat.zero_le _⟩ (fun H locs hP hD hS => ?_)
            refine lv_aload_n hx hb dX7_worth_77 rfl (lv_at hl 0 rfl) ?_
            refine zget hx hb hts hown hK hP hin_7 0 rfl rfl 3 (by decide) mw_144 (v := .ref (h0 13)) rfl dX7_worth_78 ?_
            refine lv_aload_n hx hb dX7_worth_81 rfl (lv_at hl 0 rfl) ?_
            refine zget hx hb hts hown hK hP hin_7 0 rfl rfl 2 (by decide) mw_143 (v := .ref (h0 12)) rfl dX7_worth_82 ?_
            refine zgetN hx hb hts hG hown hK hP hin_5 12 rfl rfl 9 (by decide) (host := "Embayed") (List.mem_of_getElem? (i := 52) rfl) (v := .int (w0 12 9)) rfl dX7_worth_85 ?_
            refine lv_iload_n hx hb dX7_worth_88 rfl (lv_at hl 1 rfl) ?_
            refine lv_iadd hx hb dX7_worth_89 ?_
            refine zputN hx hb hts hG hown hK hP hD hS hin_5 tyX5 tyX5_ok nmX5 13 rfl rfl 15 (by decide) (host := "Embayed") (List.mem_of_getElem? (i := 56) rfl) rfl (v := .int ((w0 12 9) + x1)) rfl rfl (Nat.le_of_ble_eq_true rfl) (wn := (zW_7 cy h0 (ups (ups w0 13 (ups u4 15 ((w0 12 9) + x1))) 28 (w0 28)))) rfl dX7_worth_90 (fun H locs hP hD hS => ?_)
            refine lv_aload_n hx hb dX7_worth_93 rfl (lv_at hl 0 rfl) ?_
            refine zget hx hb hts hown hK hP hin_7 0 rfl rfl 3 (by decide) mw_144 (v := .ref (h0 13)) rfl dX7_worth_94 ?_
            refine lv_iload_n hx hb dX7_worth_97 rfl (lv_at hl 2 rfl) ?_
            refine zputN hx hb hts hG hown hK hP hD hS hin_5 tyX5 tyX5_ok nmX5 13 rfl rfl 16 (by decide) (host := "Embayed") (List.mem_of_getElem? (i := 57) rfl) rfl (v := .int x2) rfl rfl (Nat.le_of_ble_eq_true rfl) (wn := (zW_7 cy h0 (ups (ups w0 13 (ups (ups u4 15 ((w0 12 9) + x1)) 16 x2)) 28 (w0 28)))) rfl dX7_worth_98 (fun H locs hP hD hS => ?_)
            refine lv_aload_n hx hb dX7_worth_101 rfl (lv_at hl 0 rfl) ?_
            refine zget hx hb hts hown hK hP hin_7 0 rfl rfl 3 (by decide) mw_144 (v := .ref (h0 13)) rfl dX7_worth_102 ?_
            refine lv_aload_n hx hb dX7_worth_105 rfl (lv_at hl 0 rfl) ?_
            refine zget hx hb hts hown hK hP hin_7 0 rfl rfl 1 (by decide) mw_142 (v := .ref (h0 3)) rfl dX7_worth_106 ?_
            refine lv_bipush (v := (30 : Int32)) hx hb dX7_worth_109 (by decide) ?_
            obtain ⟨u6, hq5, hf⟩ := ob1_d hf
            refine zwvV (q := (RX5, TX5, 17)) (As := [.ref (h0 3), .int (30 : Int32)]) (rest := []) (u := u6) (wn := (zW_7 cy h0 (ups (ups w0 13 u6) 28 (w0 28)))) ⟨hx, hb, hml, hown, hts⟩ (kX5_passTens l dC dI cy (h0 13) (ups (ups u4 15 ((w0 12 9) + x1)) 16 x2) (sh 3 h0) (sh 3 w0) (30 : Int32) H.size u6 hq5) mw_300 mw_301 mw_302 mw_6 mw_303 hdX5_passTens rfl rfl ⟨Nat.le_of_ble_eq_true rfl, Nat.le_of_ble_eq_true rfl⟩ hP hK hG hS 13 rfl rfl hD hA [13, 3, 4, 5, 6, 7, 8, 9, 10, 11] [0, 1, 2, 12, 14, 15, 16, 17, 18, 19, 20, 21, 22, 23, 24, 25, 26, 27, 28] [0, 1, 2, 20, 21, 22, 23, 24, 25, 26, 27, 28, 3, 19, 4, 5, 6, 7, 8, 9, 10, 11, 12, 13, 14, 15, 16, 17, 18] rfl rfl rfl rfl (by decide) rfl rfl rfl hl.1 rfl (Nat.le_of_ble_eq_true rfl) dX7_worth_111 ⟨Nat.zero_le _, Nat.zero_le _⟩ (fun H locs hP hD hS => ?_)
            refine lv_aload_n hx hb dX7_worth_114 rfl (lv_at hl 0 rfl) ?_
            refine zget hx hb hts hown hK hP hin_7 0 rfl rfl 3 (by decide) mw_144 (v := .ref (h0 13)) rfl dX7_worth_115 ?_
            refine lv_aload_n hx hb dX7_worth_118 rfl (lv_at hl 0 rfl) ?_
            refine zget hx hb hts hown hK hP hin_7 0 rfl rfl 1 (by decide) mw_142 (v := .ref (h0 3)) rfl dX7_worth_119 ?_
            obtain ⟨r8, hq7, hf⟩ := ob1_d hf
            refine zroV (q := (RX5, TX5, 17)) (As := [.ref (h0 3)]) (rest := []) (r := r8) ⟨hx, hb, hml, hown, hts⟩ (kX5_livesIn l dC dI cy (h0 13) u6 (sh 3 h0) (sh 3 w0) r8 hq7) mw_285 mw_286 mw_287 mw_6 mw_288 hdX5_livesIn rfl rfl ⟨Nat.le_of_ble_eq_true rfl, Nat.le_of_ble_eq_true rfl⟩ hP hK hG hS 13 rfl rfl [13, 3, 4, 5, 6, 7, 8, 9, 10, 11] rfl rfl hl.1 rfl (Nat.le_of_ble_eq_true rfl) dX7_worth_122 ⟨Nat.zero_le _, Nat.zero_le _⟩ ?_
            refine lv_istore_n (lv' := [(3, .int r8), (0, .ref (h0 0)), (1, .int x1), (2, .int x2)]) hx hb dX7_worth_125 rfl hl (by decide) rfl (fun ls hl => ?_)
            refine lv_aload_n hx hb dX7_worth_126 rfl (lv_at hl 1 rfl) ?_
            refine zget hx hb hts hown hK hP hin_7 0 rfl rfl 3 (by decide) mw_144 (v := .ref (h0 13)) rfl dX7_worth_127 ?_
            refine lv_aload_n hx hb dX7_worth_130 rfl (lv_at hl 1 rfl) ?_
            refine zget hx hb hts hown hK hP hin_7 0 rfl rfl 2 (by decide) mw_143 (v := .ref (h0 12)) rfl dX7_worth_131 ?_
            obtain ⟨u10, hq9, hf⟩ := ob1_d hf
            refine zwvV (q := (RX5, TX5, 17)) (As := [.ref (h0 12)]) (rest := []) (u := u10) (wn := (zW_7 cy h0 (ups (ups w0 13 u10) 28 (w0 28)))) ⟨hx, hb, hml, hown, hts⟩ (kX5_copyFrom l dC dI cy (h0 13) u6 (h0 12) (w0 12) H.size u10 hq9) mw_448 mw_449 mw_450 mw_6 mw_451 hdX5_copyFrom rfl rfl ⟨Nat.le_of_ble_eq_true rfl, Nat.le_of_ble_eq_true rfl⟩ hP hK hG hS 13 rfl rfl hD hA [13, 12] [0, 1, 2, 3, 4, 5, 6, 7, 8, 9, 10, 11, 14, 15, 16, 17, 18, 19, 20, 21, 22, 23, 24, 25, 26, 27, 28] [0, 1, 2, 3, 4, 5, 6, 7, 8, 9, 10, 11, 28, 27, 12, 13, 14, 15, 16, 17, 18, 19, 20, 21, 22, 23, 24, 25, 26] rfl rfl rfl rfl (by decide) rfl rfl rfl hl.1 rfl (Nat.le_of_ble_eq_true rfl) dX7_worth_134 ⟨Nat.zero_le _, Nat.zero_le _⟩ (fun H locs hP hD hS => ?_)
            refine lv_aload_n hx hb dX7_worth_137 rfl (lv_at hl 1 rfl) ?_
            refine zget hx hb hts hown hK hP hin_7 0 rfl rfl 3 (by decide) mw_144 (v := .ref (h0 13)) rfl dX7_worth_138 ?_
            refine lv_aload_n hx hb dX7_worth_141 rfl (lv_at hl 1 rfl) ?_
            refine zget hx hb hts hown hK hP hin_7 0 rfl rfl 1 (by decide) mw_142 (v := .ref (h0 3)) rfl dX7_worth_142 ?_
            refine lv_bipush (v := (30 : Int32)) hx hb dX7_worth_145 (by decide) ?_
            obtain ⟨u12, hq11, hf⟩ := ob1_d hf
            refine zwvV (q := (RX5, TX5, 17)) (As := [.ref (h0 3), .int (30 : Int32)]) (rest := []) (u := u12) (wn := (zW_7 cy h0 (ups (ups w0 13 u12) 28 (w0 28)))) ⟨hx, hb, hml, hown, hts⟩ (kX5_passTens l dC dI cy (h0 13) u10 (sh 3 h0) (sh 3 w0) (30 : Int32) H.size u12 hq11) mw_300 mw_301 mw_302 mw_6 mw_303 hdX5_passTens rfl rfl ⟨Nat.le_of_ble_eq_true rfl, Nat.le_of_ble_eq_true rfl⟩ hP hK hG hS 13 rfl rfl hD hA [13, 3, 4, 5, 6, 7, 8, 9, 10, 11] [0, 1, 2, 12, 14, 15, 16, 17, 18, 19, 20, 21, 22, 23, 24, 25, 26, 27, 28] [0, 1, 2, 20, 21, 22, 23, 24, 25, 26, 27, 28, 3, 19, 4, 5, 6, 7, 8, 9, 10, 11, 12, 13, 14, 15, 16, 17, 18] rfl rfl rfl rfl (by decide) rfl rfl rfl hl.1 rfl (Nat.le_of_ble_eq_true rfl) dX7_worth_147 ⟨Nat.zero_le _, Nat.zero_le _⟩ (fun H locs hP hD hS => ?_)
            refine lv_iload_n hx hb dX7_worth_150 rfl (lv_at hl 0 rfl) ?_
            refine lv_aload_n hx hb dX7_worth_151 rfl (lv_at hl 1 rfl) ?_
            refine zget hx hb hts hown hK hP hin_7 0 rfl rfl 3 (by decide) mw_144 (v := .ref (h0 13)) rfl dX7_worth_152 ?_
            refine lv_aload_n hx hb dX7_worth_155 rfl (lv_at hl 1 rfl) ?_
            refine zget hx hb hts hown hK hP hin_7 0 rfl rfl 1 (by decide) mw_142 (v := .ref (h0 3)) rfl dX7_worth_156 ?_
            obtain ⟨r14, hq13, hf⟩ := ob1_d hf
            refine zroV (q := (RX5, TX5, 17)) (As := [.ref (h0 3)]) (rest := [.int r8]) (r := r14) ⟨hx, hb, hml, hown, hts⟩ (kX5_livesIn l dC dI cy (h0 13) u12 (sh 3 h0) (sh 3 w0) r14 hq13) mw_285 mw_286 mw_287 mw_6 mw_288 hdX5_livesIn rfl rfl ⟨Nat.le_of_ble_eq_true rfl, Nat.le_of_ble_eq_true rfl⟩ hP hK hG hS 13 rfl rfl [13, 3, 4, 5, 6, 7, 8, 9, 10, 11] rfl rfl hl.1 rfl (Nat.le_of_ble_eq_true rfl) dX7_worth_159 ⟨Nat.zero_le _, Nat.zero_le _⟩ ?_
            refine lv_isub hx hb dX7_worth_162 ?_
            exact zretI hx hb hr hlocks hP hK hD hS hf rfl dX7_worth_163
          · have hf := it_t hc hf
            refine lv_ldc (v := (1000000000 : Int32)) hx hb hown (hts _ mw_456) dX7_worth_56 ?_
            refine lv_aload_n hx hb dX7_worth_58 rfl (lv_at hl 0 rfl) ?_
            refine lv_bipush (v := (-3 : Int32)) hx hb dX7_worth_59 (by decide) ?_
            obtain ⟨r16, u17, hq15, hf⟩ := ob2_d hf
            refine zwiV (q := (RX7, TX7, 10)) (As := [.int (-3 : Int32)]) (rest := [.int (1000000000 : Int32)]) (r := r16) (u := u17) (wn := (zW_7 cy h0 (ups (ups w0 13 (w0 13)) 28 u17))) ⟨hx, hb, hml, hown, hts⟩ (kX7_refuse l dC dI cy h0 (ups (ups w0 13 (w0 13)) 28 (w0 28)) (-3 : Int32) H.size (r16, u17) hq15) mw_165 mw_166 mw_883 mw_1 mw_167 hdX7_refuse rfl rfl ⟨Nat.le_of_ble_eq_true rfl, Nat.le_of_ble_eq_true rfl⟩ hP hK hG hS 0 rfl rfl hD hA [0, 1, 2, 3, 4, 5, 6, 7, 8, 9, 10, 11, 12, 13, 14, 15, 16, 17, 18, 19, 20, 21, 22, 23, 24, 25, 26, 27, 28] [] [0, 1, 2, 3, 4, 5, 6, 7, 8, 9, 10, 11, 12, 13, 14, 15, 16, 17, 18, 19, 20, 21, 22, 23, 24, 25, 26, 27, 28] rfl rfl rfl rfl (by decide) rfl rfl rfl hl.1 rfl (Nat.le_of_ble_eq_true rfl) dX7_worth_61 ⟨Nat.zero_le _, Nat.zero_le _⟩ (fun H locs hP hD hS => ?_)
            refine lv_isub hx hb dX7_worth_64 ?_
            exact zretI hx hb hr hlocks hP hK hD hS hf rfl dX7_worth_65
        · have hf := it_f hc hf
          refine lv_ldc (v := (1000000000 : Int32)) hx hb hown (hts _ mw_456) dX7_worth_36 ?_
          refine lv_aload_n hx hb dX7_worth_38 rfl (lv_at hl 0 rfl) ?_
          refine lv_bipush (v := (-6 : Int32)) hx hb dX7_worth_39 (by decide) ?_
          obtain ⟨r19, u20, hq18, hf⟩ := ob2_d hf
          refine zwiV (q := (RX7, TX7, 10)) (As := [.int (-6 : Int32)]) (rest := [.int (1000000000 : Int32)]) (r := r19) (u := u20) (wn := (zW_7 cy h0 (ups (ups w0 13 (w0 13)) 28 u20))) ⟨hx, hb, hml, hown, hts⟩ (kX7_refuse l dC dI cy h0 (ups (ups w0 13 (w0 13)) 28 (w0 28)) (-6 : Int32) H.size (r19, u20) hq18) mw_165 mw_166 mw_883 mw_1 mw_167 hdX7_refuse rfl rfl ⟨Nat.le_of_ble_eq_true rfl, Nat.le_of_ble_eq_true rfl⟩ hP hK hG hS 0 rfl rfl hD hA [0, 1, 2, 3, 4, 5, 6, 7, 8, 9, 10, 11, 12, 13, 14, 15, 16, 17, 18, 19, 20, 21, 22, 23, 24, 25, 26, 27, 28] [] [0, 1, 2, 3, 4, 5, 6, 7, 8, 9, 10, 11, 12, 13, 14, 15, 16, 17, 18, 19, 20, 21, 22, 23, 24, 25, 26, 27, 28] rfl rfl rfl rfl (by decide) rfl rfl rfl hl.1 rfl (Nat.le_of_ble_eq_true rfl) dX7_worth_41 ⟨Nat.zero_le _, Nat.zero_le _⟩ (fun H locs hP hD hS => ?_)
          refine lv_isub hx hb dX7_worth_44 ?_
          exact zretI hx hb hr hlocks hP hK hD hS hf rfl dX7_worth_45
      · have hf := it_f hc hf
        refine lv_ldc (v := (1000000000 : Int32)) hx hb hown (hts _ mw_456) dX7_worth_20 ?_
        refine lv_aload_n hx hb dX7_worth_22 rfl (lv_at hl 0 rfl) ?_
        refine lv_bipush (v := (-4 : Int32)) hx hb dX7_worth_23 (by decide) ?_
        obtain ⟨r22, u23, hq21, hf⟩ := ob2_d hf
        refine zwiV (q := (RX7, TX7, 10)) (As := [.int (-4 : Int32)]) (rest := [.int (1000000000 : Int32)]) (r := r22) (u := u23) (wn := (zW_7 cy h0 (ups (ups w0 13 (w0 13)) 28 u23))) ⟨hx, hb, hml, hown, hts⟩ (kX7_refuse l dC dI cy h0 (ups (ups w0 13 (w0 13)) 28 (w0 28)) (-4 : Int32) H.size (r22, u23) hq21) mw_165 mw_166 mw_883 mw_1 mw_167 hdX7_refuse rfl rfl ⟨Nat.le_of_ble_eq_true rfl, Nat.le_of_ble_eq_true rfl⟩ hP hK hG hS 0 rfl rfl hD hA [0, 1, 2, 3, 4, 5, 6, 7, 8, 9, 10, 11, 12, 13, 14, 15, 16, 17, 18, 19, 20, 21, 22, 23, 24, 25, 26, 27, 28] [] [0, 1, 2, 3, 4, 5, 6, 7, 8, 9, 10, 11, 12, 13, 14, 15, 16, 17, 18, 19, 20, 21, 22, 23, 24, 25, 26, 27, 28] rfl rfl rfl rfl (by decide) rfl rfl rfl hl.1 rfl (Nat.le_of_ble_eq_true rfl) dX7_worth_25 ⟨Nat.zero_le _, Nat.zero_le _⟩ (fun H locs hP hD hS => ?_)
        refine lv_isub hx hb dX7_worth_28 ?_
        exact zretI hx hb hr hlocks hP hK hD hS hf rfl dX7_worth_29
    · have hf := it_t hc hf
      refine lv_ldc (v := (1000000000 : Int32)) hx hb hown (hts _ mw_456) dX7_worth_7 ?_
      refine lv_aload_n hx hb dX7_worth_9 rfl (lv_at hl 0 rfl) ?_
      refine lv_iconst (v := (-1 : Int32)) hx hb dX7_worth_10 (by decide) ?_
      obtain ⟨r25, u26, hq24, hf⟩ := ob2_d hf
      refine zwiV (q := (RX7, TX7, 10)) (As := [.int (-1 : Int32)]) (rest := [.int (1000000000 : Int32)]) (r := r25) (u := u26) (wn := (zW_7 cy h0 (ups (ups w0 13 (w0 13)) 28 u26))) ⟨hx, hb, hml, hown, hts⟩ (kX7_refuse l dC dI cy h0 (ups (ups w0 13 (w0 13)) 28 (w0 28)) (-1 : Int32) H.size (r25, u26) hq24) mw_165 mw_166 mw_883 mw_1 mw_167 hdX7_refuse rfl rfl ⟨Nat.le_of_ble_eq_true rfl, Nat.le_of_ble_eq_true rfl⟩ hP hK hG hS 0 rfl rfl hD hA [0, 1, 2, 3, 4, 5, 6, 7, 8, 9, 10, 11, 12, 13, 14, 15, 16, 17, 18, 19, 20, 21, 22, 23, 24, 25, 26, 27, 28] [] [0, 1, 2, 3, 4, 5, 6, 7, 8, 9, 10, 11, 12, 13, 14, 15, 16, 17, 18, 19, 20, 21, 22, 23, 24, 25, 26, 27, 28] rfl rfl rfl rfl (by decide) rfl rfl rfl hl.1 rfl (Nat.le_of_ble_eq_true rfl) dX7_worth_11 ⟨Nat.zero_le _, Nat.zero_le _⟩ (fun H locs hP hD hS => ?_)
      refine lv_isub hx hb dX7_worth_14 ?_
      exact zretI hx hb hr hlocks hP hK hD hS hf rfl dX7_worth_15
  exact kE s.heap [] hP hD hS
set_option maxHeartbeats 4000000 in
set_option maxRecDepth 100000 in
theorem kX7_light (l : Launch) (dC : Nat → ClassId) (dI : Nat → Nat → Nat) (cy : ClassId) (h0 : Nat → Nat) (w0 : Nat → Nat → Int32) (z : Int32) (hf : fX7_light w0 = some z) : Met l yX7_light (wsM yX7_light cX7_light 5 (some .int)) ({ frames := 4, cells := 0, slots := 0, locals := 93 } : Room) (va_Pc [.ref (h0 0)] (pRO (dC, dI) vwCl [(cy, .int)] (zW_7 cy h0 w0))) (vp_Si (fun q => q = z)) 0 0 (fun _ => False) := by
  refine Met.ofW (cc := cX7_light) (maxL := 5) (ret := (some .int)) (by decide) rfl ?_
  intro p e s m args below meth c s₁ B hml hv
  obtain ⟨ha, hP, hK, hG⟩ := hv
  have hx := B.exec
  have hb := B.bytes
  have hr := B.returns
  have hts : ∀ w ∈ wsA, w.before args s = true := fun w h => atoms_spec (ws := wsM yX7_light cX7_light 5 (some .int)) B.pre w (List.mem_cons_of_mem _ h)
  have hown : s.vm.findClass RX7 = some m.cls := findClass_of_methodNamed B.named
  have hlocks := B.notSynchronized
  have hS : va_S (fun _ => False) s.heap s.heap [] := va_S.rf
  have k63 : ∀ (s7 : Int32 → Int32 → Int32 → Option (Int32)) (hs7 : ∀ (x1 : Int32) (x2 : Int32) (x3 : Int32) (ls : Array Slot), lv_has ls 5 [(0, .ref (h0 0)), (1, .int x1), (2, .int x2), (3, .int x3)] → s7 x1 x2 x3 = some z → W p l e ({ frames := 4, cells := 0, slots := 0, locals := 93 } : Room) s m args below meth c s.heap [] 0 0 (MQ below (vp_Si (fun q => q = z)) args s 0 0 (fun _ => False)) (F0 m 7 ls [])), ∀ (x1 : Int32) (x2 : Int32) (x3 : Int32) (ls : Array Slot), lv_has ls 5 [(0, .ref (h0 0)), (1, .int x1), (2, .int x2), (3, .int x3)] → (fX7_light_63 w0 s7) x1 x2 x3 = some z → W p l e ({ frames := 4, cells := 0, slots := 0, locals := 93 } : Room) s m args below meth c s.heap [] 0 0 (MQ below (vp_Si (fun q => q = z)) args s 0 0 (fun _ => False)) (F0 m 63 ls []) := by
    intro s7 hs7
    intro x1 x2 x3 ls hl hf
    unfold fX7_light_63 at hf
    refine lv_zinc (lv' := [(3, .int (x3 + (1 : Int32))), (0, .ref (h0 0)), (1, .int x1), (2, .int x2)]) hx hb dX7_light_63 hl (k := 3) rfl (v := (1 : Int32)) (by decide) (by decide) rfl (fun ls hl => ?_)
    refine lv_goto (tgt := 7) hx hb dX7_light_66 (by decide) ?_
    exact hs7 x1 x2 (x3 + (1 : Int32)) ls (lv_sub hl [1, 2, 3, 0] rfl) hf
  have k50 : ∀ (s7 : Int32 → Int32 → Int32 → Option (Int32)) (hs7 : ∀ (x1 : Int32) (x2 : Int32) (x3 : Int32) (ls : Array Slot), lv_has ls 5 [(0, .ref (h0 0)), (1, .int x1), (2, .int x2), (3, .int x3)] → s7 x1 x2 x3 = some z → W p l e ({ frames := 4, cells := 0, slots := 0, locals := 93 } : Room) s m args below meth c s.heap [] 0 0 (MQ below (vp_Si (fun q => q = z)) args s 0 0 (fun _ => False)) (F0 m 7 ls [])), ∀ (x1 : Int32) (x2 : Int32) (x3 : Int32) (t0 : Int32) (ls : Array Slot), lv_has ls 5 [(0, .ref (h0 0)), (1, .int x1), (2, .int x2), (3, .int x3)] → (fX7_light_50 w0 s7) x1 x2 x3 t0 = some z → W p l e ({ frames := 4, cells := 0, slots := 0, locals := 93 } : Room) s m args below meth c s.heap [] 0 0 (MQ below (vp_Si (fun q => q = z)) args s 0 0 (fun _ => False)) (F0 m 50 ls [.int t0]) := by
    intro s7 hs7
    intro x1 x2 x3 t0 ls hl hf
    unfold fX7_light_50 at hf
    refine lv_istore (lv' := [(4, .int t0), (0, .ref (h0 0)), (1, .int x1), (2, .int x2), (3, .int x3)]) hx hb dX7_light_50 hl (by decide) rfl (fun ls hl => ?_)
    refine lv_iload hx hb dX7_light_52 (lv_at hl 0 rfl) ?_
    refine lv_iload_n hx hb dX7_light_54 rfl (lv_at hl 3 rfl) ?_
    refine lv_icmp_le (tgt := 63) hx hb dX7_light_55 (by decide) (fun hc => ?_) (fun hc => ?_)
    · have hf := it_t hc hf
      exact k63 s7 hs7 x1 x2 x3 ls (lv_sub hl [1, 2, 3, 4] rfl) hf
    · have hf := it_f hc hf
      refine lv_iload hx hb dX7_light_58 (lv_at hl 0 rfl) ?_
      refine lv_istore_n (lv' := [(2, .int t0), (4, .int t0), (0, .ref (h0 0)), (1, .int x1), (3, .int x3)]) hx hb dX7_light_60 rfl hl (by decide) rfl (fun ls hl => ?_)
      refine lv_iload_n hx hb dX7_light_61 rfl (lv_at hl 4 rfl) ?_
      refine lv_istore_n (lv' := [(1, .int x3), (2, .int t0), (4, .int t0), (0, .ref (h0 0)), (3, .int x3)]) hx hb dX7_light_62 rfl hl (by decide) rfl (fun ls hl => ?_)
      exact k63 s7 hs7 x3 t0 x3 ls (lv_sub hl [3, 0, 1, 4] rfl) hf
  have k7 : ∀ n : Nat, ∀ (x1 : Int32) (x2 : Int32) (x3 : Int32) (ls : Array Slot), lv_has ls 5 [(0, .ref (h0 0)), (1, .int x1), (2, .int x2), (3, .int x3)] → (zl3 (fX7_light_7 w0) n) x1 x2 x3 = some z → W p l e ({ frames := 4, cells := 0, slots := 0, locals := 93 } : Room) s m args below meth c s.heap [] 0 0 (MQ below (vp_Si (fun q => q = z)) args s 0 0 (fun _ => False)) (F0 m 7 ls []) := by
    intro n
    induction n with
    | zero =>
      intro x1 x2 x3 ls hl hf
      exact z_no hf
    | succ n hs7 =>
      intro x1 x2 x3 ls hl hf
      have hf : fX7_light_7 w0 (zl3 (fX7_light_7 w0) n) x1 x2 x3 = some z := hf
      generalize zl3 (fX7_light_7 w0) n = s7 at hs7 hf
      unfold fX7_light_7 at hf
      refine lv_iload_n hx hb dX7_light_7 rfl (lv_at hl 3 rfl) ?_
      refine lv_aload_n hx hb dX7_light_8 rfl (lv_at hl 0 rfl) ?_
      refine zget hx hb hts hown hK hP hin_7 0 rfl rfl 1 (by decide) mw_142 (v := .ref (h0 3)) rfl dX7_light_9 ?_
      refine zgetN hx hb hts hG hown hK hP hin_6 3 rfl rfl 0 (by decide) (host := "Embayed") (List.mem_of_getElem? (i := 26) rfl) (v := .ref (h0 4)) rfl dX7_light_12 ?_
      obtain ⟨r2, hq1, hf⟩ := ob1_d hf
      refine zroV (q := (RX1, TX1, 3)) (As := []) (rest := [.int x3]) (r := r2) ⟨hx, hb, hml, hown, hts⟩ (kX1_cells l dC dI cy (sh 4 h0) (sh 4 w0) r2 hq1) mw_200 mw_201 mw_202 mw_4 mw_203 hdX1_cells rfl rfl ⟨Nat.le_of_ble_eq_true rfl, Nat.le_of_ble_eq_true rfl⟩ hP hK hG hS 4 rfl rfl [4, 5] rfl rfl hl.1 rfl (Nat.le_of_ble_eq_true rfl) dX7_light_15 ⟨Nat.zero_le _, Nat.zero_le _⟩ ?_
      refine lv_icmp_ge (tgt := 69) hx hb dX7_light_18 (by decide) (fun hc => ?_) (fun hc => ?_)
      · have hf := it_t hc hf
        refine lv_iload_n hx hb dX7_light_69 rfl (lv_at hl 1 rfl) ?_
        exact zretR hx hb hr hlocks hf dX7_light_70
      · have hf := it_f hc hf
        refine lv_aload_n hx hb dX7_light_21 rfl (lv_at hl 0 rfl) ?_
        refine zget hx hb hts hown hK hP hin_7 0 rfl rfl 1 (by decide) mw_142 (v := .ref (h0 3)) rfl dX7_light_22 ?_
        refine zgetN hx hb hts hG hown hK hP hin_6 3 rfl rfl 0 (by decide) (host := "Embayed") (List.mem_of_getElem? (i := 26) rfl) (v := .ref (h0 4)) rfl dX7_light_25 ?_
        refine lv_iload_n hx hb dX7_light_28 rfl (lv_at hl 3 rfl) ?_
        obtain ⟨r4, hq3, hf⟩ := ob1_d hf
        refine zroV (q := (RX1, TX1, 3)) (As := [.int x3]) (rest := []) (r := r4) ⟨hx, hb, hml, hown, hts⟩ (kX1_groundAt l dC dI cy (sh 4 h0) (sh 4 w0) x3 r4 hq3) mw_212 mw_213 mw_214 mw_4 mw_215 hdX1_groundAt rfl rfl ⟨Nat.le_of_ble_eq_true rfl, Nat.le_of_ble_eq_true rfl⟩ hP hK hG hS 4 rfl rfl [4, 5] rfl rfl hl.1 rfl (Nat.le_of_ble_eq_true rfl) dX7_light_29 ⟨Nat.zero_le _, Nat.zero_le _⟩ ?_
        refine lv_if_ne (tgt := 49) hx hb dX7_light_32 (by decide) (fun hc => ?_) (fun hc => ?_)
        · have hf := it_f hc hf
          refine lv_iconst (v := (-1 : Int32)) hx hb dX7_light_49 (by decide) ?_
          exact k50 s7 hs7 x1 x2 x3 (-1 : Int32) ls (lv_sub hl [0, 1, 2, 3] rfl) hf
        · have hf := it_t hc hf
          refine lv_aload_n hx hb dX7_light_35 rfl (lv_at hl 0 rfl) ?_
          refine zget hx hb hts hown hK hP hin_7 0 rfl rfl 1 (by decide) mw_142 (v := .ref (h0 3)) rfl dX7_light_36 ?_
          refine zgetN hx hb hts hG hown hK hP hin_6 3 rfl rfl 0 (by decide) (host := "Embayed") (List.mem_of_getElem? (i := 26) rfl) (v := .ref (h0 4)) rfl dX7_light_39 ?_
          refine lv_iload_n hx hb dX7_light_42 rfl (lv_at hl 3 rfl) ?_
          obtain ⟨r6, hq5, hf⟩ := ob1_d hf
          refine zroV (q := (RX1, TX1, 3)) (As := [.int x3]) (rest := []) (r := r6) ⟨hx, hb, hml, hown, hts⟩ (kX1_seaSeenFrom l dC dI cy (sh 4 h0) (sh 4 w0) x3 r6 hq5) mw_516 mw_517 mw_518 mw_4 mw_519 hdX1_seaSeenFrom rfl rfl ⟨Nat.le_of_ble_eq_true rfl, Nat.le_of_ble_eq_true rfl⟩ hP hK hG hS 4 rfl rfl [4, 5] rfl rfl hl.1 rfl (Nat.le_of_ble_eq_true rfl) dX7_light_43 ⟨Nat.zero_le _, Nat.zero_le _⟩ ?_
          refine lv_goto (tgt := 50) hx hb dX7_light_46 (by decide) ?_
          exact k50 s7 hs7 x1 x2 x3 r6 ls (lv_sub hl [0, 1, 2, 3] rfl) hf
  obtain ⟨ls, hl, he⟩ := zent (m := m) (n := 5) (L := [(0, .ref (h0 0))]) ha (Nat.le_of_ble_eq_true rfl) rfl
  refine W.eq he ?_
  unfold fX7_light at hf
  have kE : W p l e ({ frames := 4, cells := 0, slots := 0, locals := 93 } : Room) s m args below meth c s.heap [] 0 0 (MQ below (vp_Si (fun q => q = z)) args s 0 0 (fun _ => False)) (F0 m 0 ls []) := by
    refine lv_bipush (v := (-9 : Int32)) hx hb dX7_light_0 (by decide) ?_
    refine lv_istore_n (lv' := [(1, .int (-9 : Int32)), (0, .ref (h0 0))]) hx hb dX7_light_2 rfl hl (by decide) rfl (fun ls hl => ?_)
    refine lv_iconst (v := (-1 : Int32)) hx hb dX7_light_3 (by decide) ?_
    refine lv_istore_n (lv' := [(2, .int (-1 : Int32)), (1, .int (-9 : Int32)), (0, .ref (h0 0))]) hx hb dX7_light_4 rfl hl (by decide) rfl (fun ls hl => ?_)
    refine lv_iconst (v := (0 : Int32)) hx hb dX7_light_5 (by decide) ?_
    refine lv_istore_n (lv' := [(3, .int (0 : Int32)), (2, .int (-1 : Int32)), (1, .int (-9 : Int32)), (0, .ref (h0 0))]) hx hb dX7_light_6 rfl hl (by decide) rfl (fun ls hl => ?_)
    exact k7 zFU (-9 : Int32) (-1 : Int32) (0 : Int32) ls (lv_sub hl [3, 2, 1, 0] rfl) hf
  exact kE
set_option maxHeartbeats 4000000 in
set_option maxRecDepth 100000 in
theorem kX7_night (l : Launch) (dC : Nat → ClassId) (dI : Nat → Nat → Nat) (cy : ClassId) (h0 : Nat → Nat) (w0 : Nat → Nat → Int32) (x1 : Int32) (x2 : Int32) (sz : Nat) (z : Int32 × (Nat → Int32) × (Nat → Int32)) (hf : fX7_night w0 x1 x2 = some z) : Met l yX7_night (wsM yX7_night cX7_night 5 (some .int)) ({ frames := 5, cells := 0, slots := 0, locals := 115 } : Room) (va_Pc [.ref (h0 0), .int x1, .int x2] (pWR (dC, dI) vwCl [(cy, .int)] (zW_7 cy h0 w0) sz)) (va_Qi (fun (q : Int32) (v : (Nat → Int32) × (Nat → Int32)) => (q, v) = z) (fun v => aWR (dC, dI) vwCl [(cy, .int)] (va_A (zW_7 cy h0 w0) sz) (zW_7 cy h0 (ups (ups w0 13 v.1) 28 v.2))) (va_A (zW_7 cy h0 w0) sz)) 0 0 (va_A (zW_7 cy h0 w0) sz) := by
  refine Met.ofW (cc := cX7_night) (maxL := 5) (ret := (some .int)) (by decide) rfl ?_
  intro p e s m args below meth c s₁ B hml hv
  obtain ⟨ha, hsz, hP, hK, hD0, hG⟩ := hv
  have hx := B.exec
  have hb := B.bytes
  have hr := B.returns
  have hts : ∀ w ∈ wsA, w.before args s = true := fun w h => atoms_spec (ws := wsM yX7_night cX7_night 5 (some .int)) B.pre w (List.mem_cons_of_mem _ h)
  have hown : s.vm.findClass RX7 = some m.cls := findClass_of_methodNamed B.named
  have hlocks := B.notSynchronized
  subst hsz
  have hD := hD0.self (sz := s.heap.size)
  generalize hAe : va_A (zW_7 cy h0 w0) s.heap.size = A at hD hG ⊢
  have hA : ∀ q : Nat, s.heap.size ≤ q → A q := fun q h => by rw [← hAe]; exact Or.inr h
  have hS : va_S A s.heap s.heap [] := va_S.rf
  have hP : va_P (dC, dI) vwCl (zW_7 cy h0 (ups (ups w0 13 (w0 13)) 28 (w0 28))) s.heap := hP
  have hD : va_D A (zW_7 cy h0 (ups (ups w0 13 (w0 13)) 28 (w0 28))) := hD
  have k107 : ∀ (s58 : (Nat → Int32) → (Nat → Int32) → Int32 → Int32 → Int32 → Option (Int32 × (Nat → Int32) × (Nat → Int32))) (hs58 : ∀ (c0_13 : (Nat → Int32)) (c0_28 : (Nat → Int32)) (x1 : Int32) (x3 : Int32) (x4 : Int32) (H : Heap) (locs : List Loc) (ls : Array Slot), va_P (dC, dI) vwCl (zW_7 cy h0 (ups (ups w0 13 c0_13) 28 c0_28)) H → va_D A (zW_7 cy h0 (ups (ups w0 13 c0_13) 28 c0_28)) → va_S A s.heap H locs → lv_has ls 5 [(0, .ref (h0 0)), (1, .int x1), (3, .int x3), (4, .int x4)] → s58 c0_13 c0_28 x1 x3 x4 = some z → W p l e ({ frames := 5, cells := 0, slots := 0, locals := 115 } : Room) s m args below meth c H locs 0 0 (MQ below (va_Qi (fun (q : Int32) (v : (Nat → Int32) × (Nat → Int32)) => (q, v) = z) (fun v => aWR (dC, dI) vwCl [(cy, .int)] A (zW_7 cy h0 (ups (ups w0 13 v.1) 28 v.2))) A) args s 0 0 A) (F0 m 58 ls [])), ∀ (c0_13 : (Nat → Int32)) (c0_28 : (Nat → Int32)) (x1 : Int32) (x3 : Int32) (x4 : Int32) (H : Heap) (locs : List Loc) (ls : Array Slot), va_P (dC, dI) vwCl (zW_7 cy h0 (ups (ups w0 13 c0_13) 28 c0_28)) H → va_D A (zW_7 cy h0 (ups (ups w0 13 c0_13) 28 c0_28)) → va_S A s.heap H locs → lv_has ls 5 [(0, .ref (h0 0)), (1, .int x1), (3, .int x3), (4, .int x4)] → (fX7_night_107 w0 s58) c0_13 c0_28 x1 x3 x4 = some z → W p l e ({ frames := 5, cells := 0, slots := 0, locals := 115 } : Room) s m args below meth c H locs 0 0 (MQ below (va_Qi (fun (q : Int32) (v : (Nat → Int32) × (Nat → Int32)) => (q, v) = z) (fun v => aWR (dC, dI) vwCl [(cy, .int)] A (zW_7 cy h0 (ups (ups w0 13 v.1) 28 v.2))) A) args s 0 0 A) (F0 m 107 ls []) := by
    intro s58 hs58
    intro c0_13 c0_28 x1 x3 x4 H locs ls hP hD hS hl hf
    unfold fX7_night_107 at hf
    refine lv_aload_n hx hb dX7_night_107 rfl (lv_at hl 0 rfl) ?_
    refine zget hx hb hts hown hK hP hin_7 0 rfl rfl 3 (by decide) mw_144 (v := .ref (h0 13)) rfl dX7_night_108 ?_
    refine lv_aload_n hx hb dX7_night_111 rfl (lv_at hl 0 rfl) ?_
    refine zget hx hb hts hown hK hP hin_7 0 rfl rfl 1 (by decide) mw_142 (v := .ref (h0 3)) rfl dX7_night_112 ?_
    obtain ⟨u10, hq9, hf⟩ := ob1_d hf
    refine zwvV (q := (RX5, TX5, 17)) (As := [.ref (h0 3)]) (rest := []) (u := u10) (wn := (zW_7 cy h0 (ups (ups w0 13 u10) 28 c0_28))) ⟨hx, hb, hml, hown, hts⟩ (kX5_passTen l dC dI cy (h0 13) c0_13 (sh 3 h0) (sh 3 w0) H.size u10 hq9) mw_503 mw_305 mw_306 mw_6 mw_307 hdX5_passTen rfl rfl ⟨Nat.le_of_ble_eq_true rfl, Nat.le_of_ble_eq_true rfl⟩ hP hK hG hS 13 rfl rfl hD hA [13, 3, 4, 5, 6, 7, 8, 9, 10, 11] [0, 1, 2, 12, 14, 15, 16, 17, 18, 19, 20, 21, 22, 23, 24, 25, 26, 27, 28] [0, 1, 2, 20, 21, 22, 23, 24, 25, 26, 27, 28, 3, 19, 4, 5, 6, 7, 8, 9, 10, 11, 12, 13, 14, 15, 16, 17, 18] rfl rfl rfl rfl (by decide) rfl rfl rfl hl.1 rfl (Nat.le_of_ble_eq_true rfl) dX7_night_115 ⟨Nat.zero_le _, Nat.zero_le _⟩ (fun H locs hP hD hS => ?_)
    refine lv_zinc (lv' := [(4, .int (x4 + (1 : Int32))), (0, .ref (h0 0)), (1, .int x1), (3, .int x3)]) hx hb dX7_night_118 hl (k := 3) rfl (v := (1 : Int32)) (by decide) (by decide) rfl (fun ls hl => ?_)
    refine lv_goto (tgt := 58) hx hb dX7_night_121 (by decide) ?_
    exact hs58 u10 c0_28 x1 x3 (x4 + (1 : Int32)) H locs ls hP hD hS (lv_sub hl [1, 2, 3, 0] rfl) hf
  have k58 : ∀ n : Nat, ∀ (c0_13 : (Nat → Int32)) (c0_28 : (Nat → Int32)) (x1 : Int32) (x3 : Int32) (x4 : Int32) (H : Heap) (locs : List Loc) (ls : Array Slot), va_P (dC, dI) vwCl (zW_7 cy h0 (ups (ups w0 13 c0_13) 28 c0_28)) H → va_D A (zW_7 cy h0 (ups (ups w0 13 c0_13) 28 c0_28)) → va_S A s.heap H locs → lv_has ls 5 [(0, .ref (h0 0)), (1, .int x1), (3, .int x3), (4, .int x4)] → (zl5 (fX7_night_58 w0) n) c0_13 c0_28 x1 x3 x4 = some z → W p l e ({ frames := 5, cells := 0, slots := 0, locals := 115 } : Room) s m args below meth c H locs 0 0 (MQ below (va_Qi (fun (q : Int32) (v : (Nat → Int32) × (Nat → Int32)) => (q, v) = z) (fun v => aWR (dC, dI) vwCl [(cy, .int)] A (zW_7 cy h0 (ups (ups w0 13 v.1) 28 v.2))) A) args s 0 0 A) (F0 m 58 ls []) := by
    intro n
    induction n with
    | zero =>
      intro c0_13 c0_28 x1 x3 x4 H locs ls hP hD hS hl hf
      exact z_no hf
    | succ n hs58 =>
      intro c0_13 c0_28 x1 x3 x4 H locs ls hP hD hS hl hf
      have hf : fX7_night_58 w0 (zl5 (fX7_night_58 w0) n) c0_13 c0_28 x1 x3 x4 = some z := hf
      generalize zl5 (fX7_night_58 w0) n = s58 at hs58 hf
      unfold fX7_night_58 at hf
      refine lv_iload hx hb dX7_night_58 (lv_at hl 3 rfl) ?_
      refine lv_iload_n hx hb dX7_night_60 rfl (lv_at hl 1 rfl) ?_
      refine lv_icmp_ge (tgt := 124) hx hb dX7_night_61 (by decide) (fun hc => ?_) (fun hc => ?_)
      · have hf := it_t hc hf
        refine lv_aload_n hx hb dX7_night_124 rfl (lv_at hl 0 rfl) ?_
        refine zget hx hb hts hown hK hP hin_7 0 rfl rfl 3 (by decide) mw_144 (v := .ref (h0 13)) rfl dX7_night_125 ?_
        refine lv_aload_n hx hb dX7_night_128 rfl (lv_at hl 0 rfl) ?_
        refine zget hx hb hts hown hK hP hin_7 0 rfl rfl 1 (by decide) mw_142 (v := .ref (h0 3)) rfl dX7_night_129 ?_
        obtain ⟨r4, hq3, hf⟩ := ob1_d hf
        refine zroV (q := (RX5, TX5, 17)) (As := [.ref (h0 3)]) (rest := []) (r := r4) ⟨hx, hb, hml, hown, hts⟩ (kX5_livesIn l dC dI cy (h0 13) c0_13 (sh 3 h0) (sh 3 w0) r4 hq3) mw_285 mw_286 mw_287 mw_6 mw_288 hdX5_livesIn rfl rfl ⟨Nat.le_of_ble_eq_true rfl, Nat.le_of_ble_eq_true rfl⟩ hP hK hG hS 13 rfl rfl [13, 3, 4, 5, 6, 7, 8, 9, 10, 11] rfl rfl hl.1 rfl (Nat.le_of_ble_eq_true rfl) dX7_night_132 ⟨Nat.zero_le _, Nat.zero_le _⟩ ?_
        exact zretI hx hb hr hlocks hP hK hD hS hf rfl dX7_night_135
      · have hf := it_f hc hf
        refine lv_iload_n hx hb dX7_night_64 rfl (lv_at hl 2 rfl) ?_
        obtain ⟨r6, hq5, hf⟩ := ob1_d hf
        refine zroS (As := [.int x3]) (rest := []) (r := r6) ⟨hx, hb, hml, hown, hts⟩ (kX7_seedAfter l dC dI cy x3 r6 hq5) mw_528 mw_529 mw_1 mw_530 hdX7_seedAfter rfl rfl ⟨Nat.le_of_ble_eq_true rfl, Nat.le_of_ble_eq_true rfl⟩ hP hK hG hS [] rfl rfl hl.1 rfl (Nat.le_of_ble_eq_true rfl) dX7_night_65 ⟨Nat.zero_le _, Nat.zero_le _⟩ ?_
        refine lv_istore_n (lv' := [(3, .int r6), (0, .ref (h0 0)), (1, .int x1), (4, .int x4)]) hx hb dX7_night_68 rfl hl (by decide) rfl (fun ls hl => ?_)
        refine lv_iload_n hx hb dX7_night_69 rfl (lv_at hl 0 rfl) ?_
        refine lv_bipush (v := (10 : Int32)) hx hb dX7_night_70 (by decide) ?_
        obtain ⟨r8, hq7, hf⟩ := ob1_d hf
        refine zroS (As := [.int r6, .int (10 : Int32)]) (rest := []) (r := r8) ⟨hx, hb, hml, hown, hts⟩ (kX7_drawn l dC dI cy r6 (10 : Int32) r8 hq7) mw_533 mw_534 mw_1 mw_535 hdX7_drawn rfl rfl ⟨Nat.le_of_ble_eq_true rfl, Nat.le_of_ble_eq_true rfl⟩ hP hK hG hS [] rfl rfl hl.1 rfl (Nat.le_of_ble_eq_true rfl) dX7_night_72 ⟨Nat.zero_le _, Nat.zero_le _⟩ ?_
        refine lv_if_ne (tgt := 107) hx hb dX7_night_75 (by decide) (fun hc => ?_) (fun hc => ?_)
        · have hf := it_f hc hf
          exact k107 s58 hs58 c0_13 c0_28 x1 r6 x4 H locs ls hP hD hS (lv_sub hl [1, 2, 0, 3] rfl) hf
        · have hf := it_t hc hf
          refine lv_iload_n hx hb dX7_night_78 rfl (lv_at hl 0 rfl) ?_
          obtain ⟨r12, hq11, hf⟩ := ob1_d hf
          refine zroS (As := [.int r6]) (rest := []) (r := r12) ⟨hx, hb, hml, hown, hts⟩ (kX7_seedAfter l dC dI cy r6 r12 hq11) mw_528 mw_529 mw_1 mw_530 hdX7_seedAfter rfl rfl ⟨Nat.le_of_ble_eq_true rfl, Nat.le_of_ble_eq_true rfl⟩ hP hK hG hS [] rfl rfl hl.1 rfl (Nat.le_of_ble_eq_true rfl) dX7_night_79 ⟨Nat.zero_le _, Nat.zero_le _⟩ ?_
          refine lv_istore_n (lv' := [(3, .int r12), (0, .ref (h0 0)), (1, .int x1), (4, .int x4)]) hx hb dX7_night_82 rfl hl (by decide) rfl (fun ls hl => ?_)
          refine lv_aload_n hx hb dX7_night_83 rfl (lv_at hl 1 rfl) ?_
          refine zget hx hb hts hown hK hP hin_7 0 rfl rfl 3 (by decide) mw_144 (v := .ref (h0 13)) rfl dX7_night_84 ?_
          refine lv_aload_n hx hb dX7_night_87 rfl (lv_at hl 1 rfl) ?_
          refine zget hx hb hts hown hK hP hin_7 0 rfl rfl 3 (by decide) mw_144 (v := .ref (h0 13)) rfl dX7_night_88 ?_
          refine zgetN hx hb hts hG hown hK hP hin_5 13 rfl rfl 14 (by decide) (host := "Embayed") (List.mem_of_getElem? (i := 55) rfl) (v := .int (c0_13 14)) rfl dX7_night_91 ?_
          refine lv_iload_n hx hb dX7_night_94 rfl (lv_at hl 0 rfl) ?_
          refine lv_bipush (v := (8 : Int32)) hx hb dX7_night_95 (by decide) ?_
          obtain ⟨r14, hq13, hf⟩ := ob1_d hf
          refine zroS (As := [.int r12, .int (8 : Int32)]) (rest := [.int (c0_13 14), .ref (h0 13)]) (r := r14) ⟨hx, hb, hml, hown, hts⟩ (kX7_drawn l dC dI cy r12 (8 : Int32) r14 hq13) mw_533 mw_534 mw_1 mw_535 hdX7_drawn rfl rfl ⟨Nat.le_of_ble_eq_true rfl, Nat.le_of_ble_eq_true rfl⟩ hP hK hG hS [] rfl rfl hl.1 rfl (Nat.le_of_ble_eq_true rfl) dX7_night_97 ⟨Nat.zero_le _, Nat.zero_le _⟩ ?_
          refine lv_iadd hx hb dX7_night_100 ?_
          obtain ⟨r16, hq15, hf⟩ := ob1_d hf
          refine zroS (As := [.int ((c0_13 14) + r14)]) (rest := [.ref (h0 13)]) (r := r16) ⟨hx, hb, hml, hown, hts⟩ (kX7_goneRound l dC dI cy ((c0_13 14) + r14) r16 hq15) mw_276 mw_271 mw_1 mw_272 hdX7_goneRound rfl rfl ⟨Nat.le_of_ble_eq_true rfl, Nat.le_of_ble_eq_true rfl⟩ hP hK hG hS [] rfl rfl hl.1 rfl (Nat.le_of_ble_eq_true rfl) dX7_night_101 ⟨Nat.zero_le _, Nat.zero_le _⟩ ?_
          refine zputN hx hb hts hG hown hK hP hD hS hin_5 tyX5 tyX5_ok nmX5 13 rfl rfl 14 (by decide) (host := "Embayed") (List.mem_of_getElem? (i := 55) rfl) rfl (v := .int r16) rfl rfl (Nat.le_of_ble_eq_true rfl) (wn := (zW_7 cy h0 (ups (ups w0 13 (ups c0_13 14 r16)) 28 c0_28))) rfl dX7_night_104 (fun H locs hP hD hS => ?_)
          exact k107 s58 hs58 (ups c0_13 14 r16) c0_28 x1 r12 x4 H locs ls hP hD hS (lv_sub hl [1, 2, 0, 3] rfl) hf
  obtain ⟨ls, hl, he⟩ := zent (m := m) (n := 5) (L := [(0, .ref (h0 0)), (1, .int x1), (2, .int x2)]) ha (Nat.le_of_ble_eq_true rfl) rfl
  refine W.eq he ?_
  unfold fX7_night at hf
  have kE : ∀ (H : Heap) (locs : List Loc), va_P (dC, dI) vwCl (zW_7 cy h0 (ups (ups w0 13 (w0 13)) 28 (w0 28))) H → va_D A (zW_7 cy h0 (ups (ups w0 13 (w0 13)) 28 (w0 28))) → va_S A s.heap H locs → W p l e ({ frames := 5, cells := 0, slots := 0, locals := 115 } : Room) s m args below meth c H locs 0 0 (MQ below (va_Qi (fun (q : Int32) (v : (Nat → Int32) × (Nat → Int32)) => (q, v) = z) (fun v => aWR (dC, dI) vwCl [(cy, .int)] A (zW_7 cy h0 (ups (ups w0 13 v.1) 28 v.2))) A) args s 0 0 A) (F0 m 0 ls []) := by
    intro H locs hP hD hS
    refine lv_iload_n hx hb dX7_night_0 rfl (lv_at hl 1 rfl) ?_
    refine lv_iconst (v := (1 : Int32)) hx hb dX7_night_1 (by decide) ?_
    refine lv_icmp_ge (tgt := 12) hx hb dX7_night_2 (by decide) (fun hc => ?_) (fun hc => ?_)
    · have hf := it_t hc hf
      refine lv_iload_n hx hb dX7_night_12 rfl (lv_at hl 1 rfl) ?_
      refine lv_bipush (v := (99 : Int32)) hx hb dX7_night_13 (by decide) ?_
      refine lv_icmp_le (tgt := 25) hx hb dX7_night_15 (by decide) (fun hc => ?_) (fun hc => ?_)
      · have hf := it_t hc hf
        refine lv_aload_n hx hb dX7_night_25 rfl (lv_at hl 0 rfl) ?_
        refine zget hx hb hts hown hK hP hin_7 0 rfl rfl 2 (by decide) mw_143 (v := .ref (h0 12)) rfl dX7_night_26 ?_
        refine zgetN hx hb hts hG hown hK hP hin_5 12 rfl rfl 0 (by decide) (host := "Embayed") (List.mem_of_getElem? (i := 42) rfl) (v := .int (w0 12 0)) rfl dX7_night_29 ?_
        refine lv_if_ne (tgt := 42) hx hb dX7_night_32 (by decide) (fun hc => ?_) (fun hc => ?_)
        · have hf := it_f hc hf
          refine lv_aload_n hx hb dX7_night_42 rfl (lv_at hl 0 rfl) ?_
          refine zget hx hb hts hown hK hP hin_7 0 rfl rfl 3 (by decide) mw_144 (v := .ref (h0 13)) rfl dX7_night_43 ?_
          refine lv_aload_n hx hb dX7_night_46 rfl (lv_at hl 0 rfl) ?_
          refine zget hx hb hts hown hK hP hin_7 0 rfl rfl 2 (by decide) mw_143 (v := .ref (h0 12)) rfl dX7_night_47 ?_
          obtain ⟨u2, hq1, hf⟩ := ob1_d hf
          refine zwvV (q := (RX5, TX5, 17)) (As := [.ref (h0 12)]) (rest := []) (u := u2) (wn := (zW_7 cy h0 (ups (ups w0 13 u2) 28 (w0 28)))) ⟨hx, hb, hml, hown, hts⟩ (kX5_copyFrom l dC dI cy (h0 13) (w0 13) (h0 12) (w0 12) H.size u2 hq1) mw_448 mw_449 mw_450 mw_6 mw_451 hdX5_copyFrom rfl rfl ⟨Nat.le_of_ble_eq_true rfl, Nat.le_of_ble_eq_true rfl⟩ hP hK hG hS 13 rfl rfl hD hA [13, 12] [0, 1, 2, 3, 4, 5, 6, 7, 8, 9, 10, 11, 14, 15, 16, 17, 18, 19, 20, 21, 22, 23, 24, 25, 26, 27, 28] [0, 1, 2, 3, 4, 5, 6, 7, 8, 9, 10, 11, 28, 27, 12, 13, 14, 15, 16, 17, 18, 19, 20, 21, 22, 23, 24, 25, 26] rfl rfl rfl rfl (by decide) rfl rfl rfl hl.1 rfl (Nat.le_of_ble_eq_true rfl) dX7_night_50 ⟨Nat.zero_le _, Nat.zero_le _⟩ (fun H locs hP hD hS => ?_)
          refine lv_iload_n hx hb dX7_night_53 rfl (lv_at hl 2 rfl) ?_
          refine lv_istore_n (lv' := [(3, .int x2), (0, .ref (h0 0)), (1, .int x1), (2, .int x2)]) hx hb dX7_night_54 rfl hl (by decide) rfl (fun ls hl => ?_)
          refine lv_iconst (v := (0 : Int32)) hx hb dX7_night_55 (by decide) ?_
          refine lv_istore (lv' := [(4, .int (0 : Int32)), (3, .int x2), (0, .ref (h0 0)), (1, .int x1), (2, .int x2)]) hx hb dX7_night_56 hl (by decide) rfl (fun ls hl => ?_)
          exact k58 zFU u2 (w0 28) x1 x2 (0 : Int32) H locs ls hP hD hS (lv_sub hl [2, 3, 1, 0] rfl) hf
        · have hf := it_t hc hf
          refine lv_aload_n hx hb dX7_night_35 rfl (lv_at hl 0 rfl) ?_
          refine lv_bipush (v := (-3 : Int32)) hx hb dX7_night_36 (by decide) ?_
          obtain ⟨r18, u19, hq17, hf⟩ := ob2_d hf
          refine zwiV (q := (RX7, TX7, 10)) (As := [.int (-3 : Int32)]) (rest := []) (r := r18) (u := u19) (wn := (zW_7 cy h0 (ups (ups w0 13 (w0 13)) 28 u19))) ⟨hx, hb, hml, hown, hts⟩ (kX7_refuse l dC dI cy h0 (ups (ups w0 13 (w0 13)) 28 (w0 28)) (-3 : Int32) H.size (r18, u19) hq17) mw_165 mw_166 mw_883 mw_1 mw_167 hdX7_refuse rfl rfl ⟨Nat.le_of_ble_eq_true rfl, Nat.le_of_ble_eq_true rfl⟩ hP hK hG hS 0 rfl rfl hD hA [0, 1, 2, 3, 4, 5, 6, 7, 8, 9, 10, 11, 12, 13, 14, 15, 16, 17, 18, 19, 20, 21, 22, 23, 24, 25, 26, 27, 28] [] [0, 1, 2, 3, 4, 5, 6, 7, 8, 9, 10, 11, 12, 13, 14, 15, 16, 17, 18, 19, 20, 21, 22, 23, 24, 25, 26, 27, 28] rfl rfl rfl rfl (by decide) rfl rfl rfl hl.1 rfl (Nat.le_of_ble_eq_true rfl) dX7_night_38 ⟨Nat.zero_le _, Nat.zero_le _⟩ (fun H locs hP hD hS => ?_)
          exact zretI hx hb hr hlocks hP hK hD hS hf rfl dX7_night_41
      · have hf := it_f hc hf
        refine lv_aload_n hx hb dX7_night_18 rfl (lv_at hl 0 rfl) ?_
        refine lv_bipush (v := (-6 : Int32)) hx hb dX7_night_19 (by decide) ?_
        obtain ⟨r21, u22, hq20, hf⟩ := ob2_d hf
        refine zwiV (q := (RX7, TX7, 10)) (As := [.int (-6 : Int32)]) (rest := []) (r := r21) (u := u22) (wn := (zW_7 cy h0 (ups (ups w0 13 (w0 13)) 28 u22))) ⟨hx, hb, hml, hown, hts⟩ (kX7_refuse l dC dI cy h0 (ups (ups w0 13 (w0 13)) 28 (w0 28)) (-6 : Int32) H.size (r21, u22) hq20) mw_165 mw_166 mw_883 mw_1 mw_167 hdX7_refuse rfl rfl ⟨Nat.le_of_ble_eq_true rfl, Nat.le_of_ble_eq_true rfl⟩ hP hK hG hS 0 rfl rfl hD hA [0, 1, 2, 3, 4, 5, 6, 7, 8, 9, 10, 11, 12, 13, 14, 15, 16, 17, 18, 19, 20, 21, 22, 23, 24, 25, 26, 27, 28] [] [0, 1, 2, 3, 4, 5, 6, 7, 8, 9, 10, 11, 12, 13, 14, 15, 16, 17, 18, 19, 20, 21, 22, 23, 24, 25, 26, 27, 28] rfl rfl rfl rfl (by decide) rfl rfl rfl hl.1 rfl (Nat.le_of_ble_eq_true rfl) dX7_night_21 ⟨Nat.zero_le _, Nat.zero_le _⟩ (fun H locs hP hD hS => ?_)
        exact zretI hx hb hr hlocks hP hK hD hS hf rfl dX7_night_24
    · have hf := it_f hc hf
      refine lv_aload_n hx hb dX7_night_5 rfl (lv_at hl 0 rfl) ?_
      refine lv_bipush (v := (-4 : Int32)) hx hb dX7_night_6 (by decide) ?_
      obtain ⟨r24, u25, hq23, hf⟩ := ob2_d hf
      refine zwiV (q := (RX7, TX7, 10)) (As := [.int (-4 : Int32)]) (rest := []) (r := r24) (u := u25) (wn := (zW_7 cy h0 (ups (ups w0 13 (w0 13)) 28 u25))) ⟨hx, hb, hml, hown, hts⟩ (kX7_refuse l dC dI cy h0 (ups (ups w0 13 (w0 13)) 28 (w0 28)) (-4 : Int32) H.size (r24, u25) hq23) mw_165 mw_166 mw_883 mw_1 mw_167 hdX7_refuse rfl rfl ⟨Nat.le_of_ble_eq_true rfl, Nat.le_of_ble_eq_true rfl⟩ hP hK hG hS 0 rfl rfl hD hA [0, 1, 2, 3, 4, 5, 6, 7, 8, 9, 10, 11, 12, 13, 14, 15, 16, 17, 18, 19, 20, 21, 22, 23, 24, 25, 26, 27, 28] [] [0, 1, 2, 3, 4, 5, 6, 7, 8, 9, 10, 11, 12, 13, 14, 15, 16, 17, 18, 19, 20, 21, 22, 23, 24, 25, 26, 27, 28] rfl rfl rfl rfl (by decide) rfl rfl rfl hl.1 rfl (Nat.le_of_ble_eq_true rfl) dX7_night_8 ⟨Nat.zero_le _, Nat.zero_le _⟩ (fun H locs hP hD hS => ?_)
      exact zretI hx hb hr hlocks hP hK hD hS hf rfl dX7_night_11
  exact kE s.heap [] hP hD hS
set_option maxHeartbeats 4000000 in
set_option maxRecDepth 100000 in
theorem kX7_log (l : Launch) (dC : Nat → ClassId) (dI : Nat → Nat → Nat) (cy : ClassId) (h0 : Nat → Nat) (w0 : Nat → Nat → Int32) (x1 : Int32) (sz : Nat) (z : Int32 × (Nat → Int32) × (Nat → Int32) × (Nat → Int32)) (hf : fX7_log w0 x1 = some z) : Met l yX7_log (wsM yX7_log cX7_log 2 (some .int)) ({ frames := 1, cells := 0, slots := 0, locals := 22 } : Room) (va_Pc [.ref (h0 0), .int x1] (pWR (dC, dI) vwCl [(cy, .int)] (zW_7 cy h0 w0) sz)) (va_Qi (fun (q : Int32) (v : (Nat → Int32) × (Nat → Int32) × (Nat → Int32)) => (q, v) = z) (fun v => aWR (dC, dI) vwCl [(cy, .int)] (va_A (zW_7 cy h0 w0) sz) (zW_7 cy h0 (ups (ups (ups w0 26 v.1) 27 v.2.1) 28 v.2.2))) (va_A (zW_7 cy h0 w0) sz)) 0 0 (va_A (zW_7 cy h0 w0) sz) := by
  refine Met.ofW (cc := cX7_log) (maxL := 2) (ret := (some .int)) (by decide) rfl ?_
  intro p e s m args below meth c s₁ B hml hv
  obtain ⟨ha, hsz, hP, hK, hD0, hG⟩ := hv
  have hx := B.exec
  have hb := B.bytes
  have hr := B.returns
  have hts : ∀ w ∈ wsA, w.before args s = true := fun w h => atoms_spec (ws := wsM yX7_log cX7_log 2 (some .int)) B.pre w (List.mem_cons_of_mem _ h)
  have hown : s.vm.findClass RX7 = some m.cls := findClass_of_methodNamed B.named
  have hlocks := B.notSynchronized
  subst hsz
  have hD := hD0.self (sz := s.heap.size)
  generalize hAe : va_A (zW_7 cy h0 w0) s.heap.size = A at hD hG ⊢
  have hA : ∀ q : Nat, s.heap.size ≤ q → A q := fun q h => by rw [← hAe]; exact Or.inr h
  have hS : va_S A s.heap s.heap [] := va_S.rf
  have hP : va_P (dC, dI) vwCl (zW_7 cy h0 (ups (ups (ups w0 26 (w0 26)) 27 (w0 27)) 28 (w0 28))) s.heap := hP
  have hD : va_D A (zW_7 cy h0 (ups (ups (ups w0 26 (w0 26)) 27 (w0 27)) 28 (w0 28))) := hD
  have k27 : ∀ (c0_26 : (Nat → Int32)) (c0_27 : (Nat → Int32)) (c0_28 : (Nat → Int32)) (H : Heap) (locs : List Loc) (ls : Array Slot), va_P (dC, dI) vwCl (zW_7 cy h0 (ups (ups (ups w0 26 c0_26) 27 c0_27) 28 c0_28)) H → va_D A (zW_7 cy h0 (ups (ups (ups w0 26 c0_26) 27 c0_27) 28 c0_28)) → va_S A s.heap H locs → lv_has ls 2 [(0, .ref (h0 0))] → (fX7_log_27 w0) c0_26 c0_27 c0_28 = some z → W p l e ({ frames := 1, cells := 0, slots := 0, locals := 22 } : Room) s m args below meth c H locs 0 0 (MQ below (va_Qi (fun (q : Int32) (v : (Nat → Int32) × (Nat → Int32) × (Nat → Int32)) => (q, v) = z) (fun v => aWR (dC, dI) vwCl [(cy, .int)] A (zW_7 cy h0 (ups (ups (ups w0 26 v.1) 27 v.2.1) 28 v.2.2))) A) args s 0 0 A) (F0 m 27 ls []) := by
    intro c0_26 c0_27 c0_28 H locs ls hP hD hS hl hf
    unfold fX7_log_27 at hf
    refine lv_aload_n hx hb dX7_log_27 rfl (lv_at hl 0 rfl) ?_
    refine lv_bipush (v := (-6 : Int32)) hx hb dX7_log_28 (by decide) ?_
    obtain ⟨r2, u3, hq1, hf⟩ := ob2_d hf
    refine zwiV (q := (RX7, TX7, 10)) (As := [.int (-6 : Int32)]) (rest := []) (r := r2) (u := u3) (wn := (zW_7 cy h0 (ups (ups (ups w0 26 c0_26) 27 c0_27) 28 u3))) ⟨hx, hb, hml, hown, hts⟩ (kX7_refuse l dC dI cy h0 (ups (ups (ups w0 26 c0_26) 27 c0_27) 28 c0_28) (-6 : Int32) H.size (r2, u3) hq1) mw_165 mw_166 mw_883 mw_1 mw_167 hdX7_refuse rfl rfl ⟨Nat.le_of_ble_eq_true rfl, Nat.le_of_ble_eq_true rfl⟩ hP hK hG hS 0 rfl rfl hD hA [0, 1, 2, 3, 4, 5, 6, 7, 8, 9, 10, 11, 12, 13, 14, 15, 16, 17, 18, 19, 20, 21, 22, 23, 24, 25, 26, 27, 28] [] [0, 1, 2, 3, 4, 5, 6, 7, 8, 9, 10, 11, 12, 13, 14, 15, 16, 17, 18, 19, 20, 21, 22, 23, 24, 25, 26, 27, 28] rfl rfl rfl rfl (by decide) rfl rfl rfl hl.1 rfl (Nat.le_of_ble_eq_true rfl) dX7_log_30 ⟨Nat.zero_le _, Nat.zero_le _⟩ (fun H locs hP hD hS => ?_)
    exact zretI hx hb hr hlocks hP hK hD hS hf rfl dX7_log_33
  obtain ⟨ls, hl, he⟩ := zent (m := m) (n := 2) (L := [(0, .ref (h0 0)), (1, .int x1)]) ha (Nat.le_of_ble_eq_true rfl) rfl
  refine W.eq he ?_
  unfold fX7_log at hf
  have kE : ∀ (H : Heap) (locs : List Loc), va_P (dC, dI) vwCl (zW_7 cy h0 (ups (ups (ups w0 26 (w0 26)) 27 (w0 27)) 28 (w0 28))) H → va_D A (zW_7 cy h0 (ups (ups (ups w0 26 (w0 26)) 27 (w0 27)) 28 (w0 28))) → va_S A s.heap H locs → W p l e ({ frames := 1, cells := 0, slots := 0, locals := 22 } : Room) s m args below meth c H locs 0 0 (MQ below (va_Qi (fun (q : Int32) (v : (Nat → Int32) × (Nat → Int32) × (Nat → Int32)) => (q, v) = z) (fun v => aWR (dC, dI) vwCl [(cy, .int)] A (zW_7 cy h0 (ups (ups (ups w0 26 v.1) 27 v.2.1) 28 v.2.2))) A) args s 0 0 A) (F0 m 0 ls []) := by
    intro H locs hP hD hS
    refine lv_iload_n hx hb dX7_log_0 rfl (lv_at hl 1 rfl) ?_
    refine lv_if_ge (tgt := 11) hx hb dX7_log_1 (by decide) (fun hc => ?_) (fun hc => ?_)
    · have hf := it_t hc hf
      refine lv_iload_n hx hb dX7_log_11 rfl (lv_at hl 1 rfl) ?_
      refine lv_bipush (v := (99 : Int32)) hx hb dX7_log_12 (by decide) ?_
      refine lv_icmp_gt (tgt := 27) hx hb dX7_log_14 (by decide) (fun hc => ?_) (fun hc => ?_)
      · have hf := it_t hc hf
        exact k27 (w0 26) (w0 27) (w0 28) H locs ls hP hD hS (lv_sub hl [0] rfl) hf
      · have hf := it_f hc hf
        refine lv_aload_n hx hb dX7_log_17 rfl (lv_at hl 0 rfl) ?_
        refine zget hx hb hts hown hK hP hin_7 0 rfl rfl 7 (by decide) mw_148 (v := .ref (h0 26)) rfl dX7_log_18 ?_
        obtain ⟨r5, hq4, hf⟩ := ob1_d hf
        refine zroV (q := (RX4, TX4, 2)) (As := []) (rest := []) (r := r5) ⟨hx, hb, hml, hown, hts⟩ (kX4_isFull l dC dI cy (sh 26 h0) (sh 26 (ups (ups w0 26 (w0 26)) 27 (w0 27))) r5 hq4) mw_541 mw_542 mw_543 mw_8 mw_544 hdX4_isFull rfl rfl ⟨Nat.le_of_ble_eq_true rfl, Nat.le_of_ble_eq_true rfl⟩ hP hK hG hS 26 rfl rfl [26, 27] rfl rfl hl.1 rfl (Nat.le_of_ble_eq_true rfl) dX7_log_21 ⟨Nat.zero_le _, Nat.zero_le _⟩ ?_
        refine lv_if_eq (tgt := 34) hx hb dX7_log_24 (by decide) (fun hc => ?_) (fun hc => ?_)
        · have hf := it_t hc hf
          refine lv_aload_n hx hb dX7_log_34 rfl (lv_at hl 0 rfl) ?_
          refine zget hx hb hts hown hK hP hin_7 0 rfl rfl 7 (by decide) mw_148 (v := .ref (h0 26)) rfl dX7_log_35 ?_
          refine lv_iload_n hx hb dX7_log_38 rfl (lv_at hl 1 rfl) ?_
          obtain ⟨r7, u8, u9, hq6, hf⟩ := ob3_d hf
          refine zwiV (q := (RX4, TX4, 2)) (As := [.int x1]) (rest := []) (r := r7) (u := (u8, u9)) (wn := (zW_7 cy h0 (ups (ups (ups w0 26 u8) 27 u9) 28 (w0 28)))) ⟨hx, hb, hml, hown, hts⟩ (kX4_tell l dC dI cy (sh 26 h0) (sh 26 (ups (ups w0 26 (w0 26)) 27 (w0 27))) x1 H.size (r7, u8, u9) hq6) mw_545 mw_546 mw_547 mw_8 mw_548 hdX4_tell rfl rfl ⟨Nat.le_of_ble_eq_true rfl, Nat.le_of_ble_eq_true rfl⟩ hP hK hG hS 26 rfl rfl hD hA [26, 27] [0, 1, 2, 3, 4, 5, 6, 7, 8, 9, 10, 11, 12, 13, 14, 15, 16, 17, 18, 19, 20, 21, 22, 23, 24, 25, 28] [0, 1, 2, 3, 4, 5, 6, 7, 8, 9, 10, 11, 12, 13, 14, 15, 16, 17, 18, 19, 20, 21, 22, 23, 24, 25, 27, 28, 26] rfl rfl rfl rfl (by decide) rfl rfl rfl hl.1 rfl (Nat.le_of_ble_eq_true rfl) dX7_log_39 ⟨Nat.zero_le _, Nat.zero_le _⟩ (fun H locs hP hD hS => ?_)
          exact zretI hx hb hr hlocks hP hK hD hS hf rfl dX7_log_42
        · have hf := it_f hc hf
          exact k27 (w0 26) (w0 27) (w0 28) H locs ls hP hD hS (lv_sub hl [0] rfl) hf
    · have hf := it_f hc hf
      refine lv_aload_n hx hb dX7_log_4 rfl (lv_at hl 0 rfl) ?_
      refine lv_bipush (v := (-4 : Int32)) hx hb dX7_log_5 (by decide) ?_
      obtain ⟨r11, u12, hq10, hf⟩ := ob2_d hf
      refine zwiV (q := (RX7, TX7, 10)) (As := [.int (-4 : Int32)]) (rest := []) (r := r11) (u := u12) (wn := (zW_7 cy h0 (ups (ups (ups w0 26 (w0 26)) 27 (w0 27)) 28 u12))) ⟨hx, hb, hml, hown, hts⟩ (kX7_refuse l dC dI cy h0 (ups (ups (ups w0 26 (w0 26)) 27 (w0 27)) 28 (w0 28)) (-4 : Int32) H.size (r11, u12) hq10) mw_165 mw_166 mw_883 mw_1 mw_167 hdX7_refuse rfl rfl ⟨Nat.le_of_ble_eq_true rfl, Nat.le_of_ble_eq_true rfl⟩ hP hK hG hS 0 rfl rfl hD hA [0, 1, 2, 3, 4, 5, 6, 7, 8, 9, 10, 11, 12, 13, 14, 15, 16, 17, 18, 19, 20, 21, 22, 23, 24, 25, 26, 27, 28] [] [0, 1, 2, 3, 4, 5, 6, 7, 8, 9, 10, 11, 12, 13, 14, 15, 16, 17, 18, 19, 20, 21, 22, 23, 24, 25, 26, 27, 28] rfl rfl rfl rfl (by decide) rfl rfl rfl hl.1 rfl (Nat.le_of_ble_eq_true rfl) dX7_log_7 ⟨Nat.zero_le _, Nat.zero_le _⟩ (fun H locs hP hD hS => ?_)
      exact zretI hx hb hr hlocks hP hK hD hS hf rfl dX7_log_10
  exact kE s.heap [] hP hD hS
set_option maxHeartbeats 4000000 in
set_option maxRecDepth 100000 in
theorem kX7_judge (l : Launch) (dC : Nat → ClassId) (dI : Nat → Nat → Nat) (cy : ClassId) (h0 : Nat → Nat) (w0 : Nat → Nat → Int32) (sz : Nat) (z : Int32 × (Nat → Int32) × (Nat → Int32) × (Nat → Int32)) (hf : fX7_judge w0 = some z) : Met l yX7_judge (wsM yX7_judge cX7_judge 2 (some .int)) ({ frames := 6, cells := 0, slots := 0, locals := 139 } : Room) (va_Pc [.ref (h0 0)] (pWR (dC, dI) vwCl [(cy, .int)] (zW_7 cy h0 w0) sz)) (va_Qi (fun (q : Int32) (v : (Nat → Int32) × (Nat → Int32) × (Nat → Int32)) => (q, v) = z) (fun v => aWR (dC, dI) vwCl [(cy, .int)] (va_A (zW_7 cy h0 w0) sz) (zW_7 cy h0 (ups (ups (ups w0 13 v.1) 26 v.2.1) 28 v.2.2))) (va_A (zW_7 cy h0 w0) sz)) 0 0 (va_A (zW_7 cy h0 w0) sz) := by
  refine Met.ofW (cc := cX7_judge) (maxL := 2) (ret := (some .int)) (by decide) rfl ?_
  intro p e s m args below meth c s₁ B hml hv
  obtain ⟨ha, hsz, hP, hK, hD0, hG⟩ := hv
  have hx := B.exec
  have hb := B.bytes
  have hr := B.returns
  have hts : ∀ w ∈ wsA, w.before args s = true := fun w h => atoms_spec (ws := wsM yX7_judge cX7_judge 2 (some .int)) B.pre w (List.mem_cons_of_mem _ h)
  have hown : s.vm.findClass RX7 = some m.cls := findClass_of_methodNamed B.named
  have hlocks := B.notSynchronized
  subst hsz
  have hD := hD0.self (sz := s.heap.size)
  generalize hAe : va_A (zW_7 cy h0 w0) s.heap.size = A at hD hG ⊢
  have hA : ∀ q : Nat, s.heap.size ≤ q → A q := fun q h => by rw [← hAe]; exact Or.inr h
  have hS : va_S A s.heap s.heap [] := va_S.rf
  have hP : va_P (dC, dI) vwCl (zW_7 cy h0 (ups (ups (ups w0 13 (w0 13)) 26 (w0 26)) 28 (w0 28))) s.heap := hP
  have hD : va_D A (zW_7 cy h0 (ups (ups (ups w0 13 (w0 13)) 26 (w0 26)) 28 (w0 28))) := hD
  obtain ⟨ls, hl, he⟩ := zent (m := m) (n := 2) (L := [(0, .ref (h0 0))]) ha (Nat.le_of_ble_eq_true rfl) rfl
  refine W.eq he ?_
  unfold fX7_judge at hf
  have kE : ∀ (H : Heap) (locs : List Loc), va_P (dC, dI) vwCl (zW_7 cy h0 (ups (ups (ups w0 13 (w0 13)) 26 (w0 26)) 28 (w0 28))) H → va_D A (zW_7 cy h0 (ups (ups (ups w0 13 (w0 13)) 26 (w0 26)) 28 (w0 28))) → va_S A s.heap H locs → W p l e ({ frames := 6, cells := 0, slots := 0, locals := 139 } : Room) s m args below meth c H locs 0 0 (MQ below (va_Qi (fun (q : Int32) (v : (Nat → Int32) × (Nat → Int32) × (Nat → Int32)) => (q, v) = z) (fun v => aWR (dC, dI) vwCl [(cy, .int)] A (zW_7 cy h0 (ups (ups (ups w0 13 v.1) 26 v.2.1) 28 v.2.2))) A) args s 0 0 A) (F0 m 0 ls []) := by
    intro H locs hP hD hS
    refine lv_aload_n hx hb dX7_judge_0 rfl (lv_at hl 0 rfl) ?_
    refine zget hx hb hts hown hK hP hin_7 0 rfl rfl 2 (by decide) mw_143 (v := .ref (h0 12)) rfl dX7_judge_1 ?_
    refine zgetN hx hb hts hG hown hK hP hin_5 12 rfl rfl 0 (by decide) (host := "Embayed") (List.mem_of_getElem? (i := 42) rfl) (v := .int (w0 12 0)) rfl dX7_judge_4 ?_
    refine lv_if_ne (tgt := 17) hx hb dX7_judge_7 (by decide) (fun hc => ?_) (fun hc => ?_)
    · have hf := it_f hc hf
      refine lv_aload_n hx hb dX7_judge_17 rfl (lv_at hl 0 rfl) ?_
      refine zget hx hb hts hown hK hP hin_7 0 rfl rfl 3 (by decide) mw_144 (v := .ref (h0 13)) rfl dX7_judge_18 ?_
      refine lv_aload_n hx hb dX7_judge_21 rfl (lv_at hl 0 rfl) ?_
      refine zget hx hb hts hown hK hP hin_7 0 rfl rfl 2 (by decide) mw_143 (v := .ref (h0 12)) rfl dX7_judge_22 ?_
      obtain ⟨u2, hq1, hf⟩ := ob1_d hf
      refine zwvV (q := (RX5, TX5, 17)) (As := [.ref (h0 12)]) (rest := []) (u := u2) (wn := (zW_7 cy h0 (ups (ups (ups w0 13 u2) 26 (w0 26)) 28 (w0 28)))) ⟨hx, hb, hml, hown, hts⟩ (kX5_copyFrom l dC dI cy (h0 13) (w0 13) (h0 12) (w0 12) H.size u2 hq1) mw_448 mw_449 mw_450 mw_6 mw_451 hdX5_copyFrom rfl rfl ⟨Nat.le_of_ble_eq_true rfl, Nat.le_of_ble_eq_true rfl⟩ hP hK hG hS 13 rfl rfl hD hA [13, 12] [0, 1, 2, 3, 4, 5, 6, 7, 8, 9, 10, 11, 14, 15, 16, 17, 18, 19, 20, 21, 22, 23, 24, 25, 26, 27, 28] [0, 1, 2, 3, 4, 5, 6, 7, 8, 9, 10, 11, 28, 27, 12, 13, 14, 15, 16, 17, 18, 19, 20, 21, 22, 23, 24, 25, 26] rfl rfl rfl rfl (by decide) rfl rfl rfl hl.1 rfl (Nat.le_of_ble_eq_true rfl) dX7_judge_25 ⟨Nat.zero_le _, Nat.zero_le _⟩ (fun H locs hP hD hS => ?_)
      refine lv_aload_n hx hb dX7_judge_28 rfl (lv_at hl 0 rfl) ?_
      refine zget hx hb hts hown hK hP hin_7 0 rfl rfl 7 (by decide) mw_148 (v := .ref (h0 26)) rfl dX7_judge_29 ?_
      refine lv_aload_n hx hb dX7_judge_32 rfl (lv_at hl 0 rfl) ?_
      refine zget hx hb hts hown hK hP hin_7 0 rfl rfl 1 (by decide) mw_142 (v := .ref (h0 3)) rfl dX7_judge_33 ?_
      refine lv_aload_n hx hb dX7_judge_36 rfl (lv_at hl 0 rfl) ?_
      refine zget hx hb hts hown hK hP hin_7 0 rfl rfl 3 (by decide) mw_144 (v := .ref (h0 13)) rfl dX7_judge_37 ?_
      obtain ⟨r4, u5, hq3, hf⟩ := ob2_d hf
      refine zwiV (q := (RX4, TX4, 2)) (As := [.ref (h0 3), .ref (h0 13)]) (rest := []) (r := r4) (u := u5) (wn := (zW_7 cy h0 (ups (ups (ups w0 13 u5) 26 (w0 26)) 28 (w0 28)))) ⟨hx, hb, hml, hown, hts⟩ (kX4_firstWrong l dC dI cy (sh 26 h0) (sh 26 (ups w0 26 (w0 26))) (sh 3 h0) (sh 3 w0) (h0 13) u2 H.size (r4, u5) hq3) mw_553 mw_554 mw_555 mw_8 mw_556 hdX4_firstWrong rfl rfl ⟨Nat.le_of_ble_eq_true rfl, Nat.le_of_ble_eq_true rfl⟩ hP hK hG hS 26 rfl rfl hD hA [26, 27, 3, 4, 5, 6, 7, 8, 9, 10, 11, 13] [0, 1, 2, 12, 14, 15, 16, 17, 18, 19, 20, 21, 22, 23, 24, 25, 28] [0, 1, 2, 19, 20, 21, 22, 23, 24, 25, 26, 27, 3, 28, 4, 5, 6, 7, 8, 9, 10, 11, 12, 13, 14, 15, 17, 18, 16] rfl rfl rfl rfl (by decide) rfl rfl rfl hl.1 rfl (Nat.le_of_ble_eq_true rfl) dX7_judge_40 ⟨Nat.zero_le _, Nat.zero_le _⟩ (fun H locs hP hD hS => ?_)
      refine lv_istore_n (lv' := [(1, .int r4), (0, .ref (h0 0))]) hx hb dX7_judge_43 rfl hl (by decide) rfl (fun ls hl => ?_)
      refine lv_aload_n hx hb dX7_judge_44 rfl (lv_at hl 1 rfl) ?_
      refine zget hx hb hts hown hK hP hin_7 0 rfl rfl 7 (by decide) mw_148 (v := .ref (h0 26)) rfl dX7_judge_45 ?_
      refine lv_iconst (v := (0 : Int32)) hx hb dX7_judge_48 (by decide) ?_
      refine zputN hx hb hts hG hown hK hP hD hS hin_4 tyX4 tyX4_ok nmX4 26 rfl rfl 1 (by decide) (host := "Embayed") (List.mem_of_getElem? (i := 58) rfl) rfl (v := .int (0 : Int32)) rfl rfl (Nat.le_of_ble_eq_true rfl) (wn := (zW_7 cy h0 (ups (ups (ups w0 13 u5) 26 (ups (w0 26) 1 (0 : Int32))) 28 (w0 28)))) rfl dX7_judge_49 (fun H locs hP hD hS => ?_)
      refine lv_iload_n hx hb dX7_judge_52 rfl (lv_at hl 0 rfl) ?_
      exact zretI hx hb hr hlocks hP hK hD hS hf rfl dX7_judge_53
    · have hf := it_t hc hf
      refine lv_aload_n hx hb dX7_judge_10 rfl (lv_at hl 0 rfl) ?_
      refine lv_bipush (v := (-3 : Int32)) hx hb dX7_judge_11 (by decide) ?_
      obtain ⟨r7, u8, hq6, hf⟩ := ob2_d hf
      refine zwiV (q := (RX7, TX7, 10)) (As := [.int (-3 : Int32)]) (rest := []) (r := r7) (u := u8) (wn := (zW_7 cy h0 (ups (ups (ups w0 13 (w0 13)) 26 (w0 26)) 28 u8))) ⟨hx, hb, hml, hown, hts⟩ (kX7_refuse l dC dI cy h0 (ups (ups (ups w0 13 (w0 13)) 26 (w0 26)) 28 (w0 28)) (-3 : Int32) H.size (r7, u8) hq6) mw_165 mw_166 mw_883 mw_1 mw_167 hdX7_refuse rfl rfl ⟨Nat.le_of_ble_eq_true rfl, Nat.le_of_ble_eq_true rfl⟩ hP hK hG hS 0 rfl rfl hD hA [0, 1, 2, 3, 4, 5, 6, 7, 8, 9, 10, 11, 12, 13, 14, 15, 16, 17, 18, 19, 20, 21, 22, 23, 24, 25, 26, 27, 28] [] [0, 1, 2, 3, 4, 5, 6, 7, 8, 9, 10, 11, 12, 13, 14, 15, 16, 17, 18, 19, 20, 21, 22, 23, 24, 25, 26, 27, 28] rfl rfl rfl rfl (by decide) rfl rfl rfl hl.1 rfl (Nat.le_of_ble_eq_true rfl) dX7_judge_13 ⟨Nat.zero_le _, Nat.zero_le _⟩ (fun H locs hP hD hS => ?_)
      exact zretI hx hb hr hlocks hP hK hD hS hf rfl dX7_judge_16
  exact kE s.heap [] hP hD hS
set_option maxHeartbeats 4000000 in
set_option maxRecDepth 100000 in
theorem kX7_image (l : Launch) (dC : Nat → ClassId) (dI : Nat → Nat → Nat) (cy : ClassId) (h0 : Nat → Nat) (w0 : Nat → Nat → Int32) (sz : Nat) (z : Int32 × (Nat → Int32) × (Nat → Int32) × (Nat → Int32) × (Nat → Int32) × (Nat → Int32) × (Nat → Int32) × (Nat → Int32) × (Nat → Int32) × (Nat → Int32) × (Nat → Int32) × (Nat → Int32)) (hf : fX7_image w0 = some z) : Met l yX7_image (wsM yX7_image cX7_image 1 (some .int)) ({ frames := 3, cells := 0, slots := 0, locals := 64 } : Room) (va_Pc [.ref (h0 0)] (pWR (dC, dI) vwCl [(cy, .int)] (zW_7 cy h0 w0) sz)) (va_Qi (fun (q : Int32) (v : (Nat → Int32) × (Nat → Int32) × (Nat → Int32) × (Nat → Int32) × (Nat → Int32) × (Nat → Int32) × (Nat → Int32) × (Nat → Int32) × (Nat → Int32) × (Nat → Int32) × (Nat → Int32)) => (q, v) = z) (fun v => aWR (dC, dI) vwCl [(cy, .int)] (va_A (zW_7 cy h0 w0) sz) (zW_7 cy h0 (ups (ups (ups (ups (ups (ups (ups (ups (ups (ups (ups w0 0 v.1) 14 v.2.1) 15 v.2.2.1) 16 v.2.2.2.1) 17 v.2.2.2.2.1) 18 v.2.2.2.2.2.1) 19 v.2.2.2.2.2.2.1) 20 v.2.2.2.2.2.2.2.1) 21 v.2.2.2.2.2.2.2.2.1) 22 v.2.2.2.2.2.2.2.2.2.1) 23 v.2.2.2.2.2.2.2.2.2.2))) (va_A (zW_7 cy h0 w0) sz)) 0 0 (va_A (zW_7 cy h0 w0) sz) := by
  refine Met.ofW (cc := cX7_image) (maxL := 1) (ret := (some .int)) (by decide) rfl ?_
  intro p e s m args below meth c s₁ B hml hv
  obtain ⟨ha, hsz, hP, hK, hD0, hG⟩ := hv
  have hx := B.exec
  have hb := B.bytes
  have hr := B.returns
  have hts : ∀ w ∈ wsA, w.before args s = true := fun w h => atoms_spec (ws := wsM yX7_image cX7_image 1 (some .int)) B.pre w (List.mem_cons_of_mem _ h)
  have hown : s.vm.findClass RX7 = some m.cls := findClass_of_methodNamed B.named
  have hlocks := B.notSynchronized
  subst hsz
  have hD := hD0.self (sz := s.heap.size)
  generalize hAe : va_A (zW_7 cy h0 w0) s.heap.size = A at hD hG ⊢
  have hA : ∀ q : Nat, s.heap.size ≤ q → A q := fun q h => by rw [← hAe]; exact Or.inr h
  have hS : va_S A s.heap s.heap [] := va_S.rf
  have hP : va_P (dC, dI) vwCl (zW_7 cy h0 (ups (ups (ups (ups (ups (ups (ups (ups (ups (ups (ups w0 0 (w0 0)) 14 (w0 14)) 15 (w0 15)) 16 (w0 16)) 17 (w0 17)) 18 (w0 18)) 19 (w0 19)) 20 (w0 20)) 21 (w0 21)) 22 (w0 22)) 23 (w0 23))) s.heap := hP
  have hD : va_D A (zW_7 cy h0 (ups (ups (ups (ups (ups (ups (ups (ups (ups (ups (ups w0 0 (w0 0)) 14 (w0 14)) 15 (w0 15)) 16 (w0 16)) 17 (w0 17)) 18 (w0 18)) 19 (w0 19)) 20 (w0 20)) 21 (w0 21)) 22 (w0 22)) 23 (w0 23))) := hD
  obtain ⟨ls, hl, he⟩ := zent (m := m) (n := 1) (L := [(0, .ref (h0 0))]) ha (Nat.le_of_ble_eq_true rfl) rfl
  refine W.eq he ?_
  unfold fX7_image at hf
  have kE : ∀ (H : Heap) (locs : List Loc), va_P (dC, dI) vwCl (zW_7 cy h0 (ups (ups (ups (ups (ups (ups (ups (ups (ups (ups (ups w0 0 (w0 0)) 14 (w0 14)) 15 (w0 15)) 16 (w0 16)) 17 (w0 17)) 18 (w0 18)) 19 (w0 19)) 20 (w0 20)) 21 (w0 21)) 22 (w0 22)) 23 (w0 23))) H → va_D A (zW_7 cy h0 (ups (ups (ups (ups (ups (ups (ups (ups (ups (ups (ups w0 0 (w0 0)) 14 (w0 14)) 15 (w0 15)) 16 (w0 16)) 17 (w0 17)) 18 (w0 18)) 19 (w0 19)) 20 (w0 20)) 21 (w0 21)) 22 (w0 22)) 23 (w0 23))) → va_S A s.heap H locs → W p l e ({ frames := 3, cells := 0, slots := 0, locals := 64 } : Room) s m args below meth c H locs 0 0 (MQ below (va_Qi (fun (q : Int32) (v : (Nat → Int32) × (Nat → Int32) × (Nat → Int32) × (Nat → Int32) × (Nat → Int32) × (Nat → Int32) × (Nat → Int32) × (Nat → Int32) × (Nat → Int32) × (Nat → Int32) × (Nat → Int32)) => (q, v) = z) (fun v => aWR (dC, dI) vwCl [(cy, .int)] A (zW_7 cy h0 (ups (ups (ups (ups (ups (ups (ups (ups (ups (ups (ups w0 0 v.1) 14 v.2.1) 15 v.2.2.1) 16 v.2.2.2.1) 17 v.2.2.2.2.1) 18 v.2.2.2.2.2.1) 19 v.2.2.2.2.2.2.1) 20 v.2.2.2.2.2.2.2.1) 21 v.2.2.2.2.2.2.2.2.1) 22 v.2.2.2.2.2.2.2.2.2.1) 23 v.2.2.2.2.2.2.2.2.2.2))) A) args s 0 0 A) (F0 m 0 ls []) := by
    intro H locs hP hD hS
    refine lv_aload_n hx hb dX7_image_0 rfl (lv_at hl 0 rfl) ?_
    refine zget hx hb hts hown hK hP hin_7 0 rfl rfl 4 (by decide) mw_145 (v := .ref (h0 14)) rfl dX7_image_1 ?_
    refine lv_aload_n hx hb dX7_image_4 rfl (lv_at hl 0 rfl) ?_
    refine zget hx hb hts hown hK hP hin_7 0 rfl rfl 1 (by decide) mw_142 (v := .ref (h0 3)) rfl dX7_image_5 ?_
    obtain ⟨u2, u3, u4, u5, u6, u7, u8, u9, u10, hq1, hf⟩ := ob9_d hf
    refine zwvV (q := (RX6, TX6, 10)) (As := [.ref (h0 3)]) (rest := []) (u := (u2, u3, u4, u5, u6, u7, u8, u9, u10)) (wn := (zW_7 cy h0 (ups (ups (ups (ups (ups (ups (ups (ups (ups (ups (ups w0 0 (w0 0)) 14 u2) 15 u3) 16 u4) 17 u5) 18 u6) 19 u7) 20 u8) 21 u9) 22 u10) 23 (w0 23)))) ⟨hx, hb, hml, hown, hts⟩ (kX6_copyFrom l dC dI cy (sh 14 h0) (sh 14 (ups (ups (ups (ups (ups (ups (ups (ups (ups w0 14 (w0 14)) 15 (w0 15)) 16 (w0 16)) 17 (w0 17)) 18 (w0 18)) 19 (w0 19)) 20 (w0 20)) 21 (w0 21)) 22 (w0 22))) (sh 3 h0) (sh 3 w0) H.size (u2, u3, u4, u5, u6, u7, u8, u9, u10) hq1) mw_562 mw_563 mw_564 mw_3 mw_565 hdX6_copyFrom rfl rfl ⟨Nat.le_of_ble_eq_true rfl, Nat.le_of_ble_eq_true rfl⟩ hP hK hG hS 14 rfl rfl hD hA [14, 15, 16, 17, 18, 19, 20, 21, 22, 3, 4, 5, 6, 7, 8, 9, 10, 11] [0, 1, 2, 12, 13, 23, 24, 25, 26, 27, 28] [0, 1, 2, 20, 21, 22, 23, 24, 25, 26, 27, 28, 3, 4, 11, 12, 13, 14, 15, 16, 17, 18, 19, 5, 6, 7, 8, 9, 10] rfl rfl rfl rfl (by decide) rfl rfl rfl hl.1 rfl (Nat.le_of_ble_eq_true rfl) dX7_image_8 ⟨Nat.zero_le _, Nat.zero_le _⟩ (fun H locs hP hD hS => ?_)
    refine lv_aload_n hx hb dX7_image_11 rfl (lv_at hl 0 rfl) ?_
    refine zget hx hb hts hown hK hP hin_7 0 rfl rfl 5 (by decide) mw_146 (v := .ref (h0 23)) rfl dX7_image_12 ?_
    refine lv_aload_n hx hb dX7_image_15 rfl (lv_at hl 0 rfl) ?_
    refine zget hx hb hts hown hK hP hin_7 0 rfl rfl 2 (by decide) mw_143 (v := .ref (h0 12)) rfl dX7_image_16 ?_
    obtain ⟨u12, hq11, hf⟩ := ob1_d hf
    refine zwvV (q := (RX5, TX5, 17)) (As := [.ref (h0 12)]) (rest := []) (u := u12) (wn := (zW_7 cy h0 (ups (ups (ups (ups (ups (ups (ups (ups (ups (ups (ups w0 0 (w0 0)) 14 u2) 15 u3) 16 u4) 17 u5) 18 u6) 19 u7) 20 u8) 21 u9) 22 u10) 23 u12))) ⟨hx, hb, hml, hown, hts⟩ (kX5_copyFrom l dC dI cy (h0 23) (w0 23) (h0 12) (w0 12) H.size u12 hq11) mw_448 mw_449 mw_450 mw_6 mw_451 hdX5_copyFrom rfl rfl ⟨Nat.le_of_ble_eq_true rfl, Nat.le_of_ble_eq_true rfl⟩ hP hK hG hS 23 rfl rfl hD hA [23, 12] [0, 1, 2, 3, 4, 5, 6, 7, 8, 9, 10, 11, 13, 14, 15, 16, 17, 18, 19, 20, 21, 22, 24, 25, 26, 27, 28] [0, 1, 2, 3, 4, 5, 6, 7, 8, 9, 10, 11, 28, 12, 13, 14, 15, 16, 17, 18, 19, 20, 21, 27, 22, 23, 24, 25, 26] rfl rfl rfl rfl (by decide) rfl rfl rfl hl.1 rfl (Nat.le_of_ble_eq_true rfl) dX7_image_19 ⟨Nat.zero_le _, Nat.zero_le _⟩ (fun H locs hP hD hS => ?_)
    refine lv_aload_n hx hb dX7_image_22 rfl (lv_at hl 0 rfl) ?_
    refine lv_iconst (v := (1 : Int32)) hx hb dX7_image_23 (by decide) ?_
    refine zput hx hb hts hown hK hP hD hS hin_7 tyX7 tyX7_ok nmX7 0 rfl rfl 9 (by decide) mw_150 rfl (v := .int (1 : Int32)) rfl rfl (Nat.le_of_ble_eq_true rfl) (wn := (zW_7 cy h0 (ups (ups (ups (ups (ups (ups (ups (ups (ups (ups (ups w0 0 (ups (w0 0) 9 (1 : Int32))) 14 u2) 15 u3) 16 u4) 17 u5) 18 u6) 19 u7) 20 u8) 21 u9) 22 u10) 23 u12))) rfl dX7_image_24 (fun H locs hP hD hS => ?_)
    refine lv_aload_n hx hb dX7_image_27 rfl (lv_at hl 0 rfl) ?_
    refine zget hx hb hts hown hK hP hin_7 0 rfl rfl 1 (by decide) mw_142 (v := .ref (h0 3)) rfl dX7_image_28 ?_
    refine zgetN hx hb hts hG hown hK hP hin_6 3 rfl rfl 0 (by decide) (host := "Embayed") (List.mem_of_getElem? (i := 26) rfl) (v := .ref (h0 4)) rfl dX7_image_31 ?_
    obtain ⟨r14, hq13, hf⟩ := ob1_d hf
    refine zroV (q := (RX1, TX1, 3)) (As := []) (rest := []) (r := r14) ⟨hx, hb, hml, hown, hts⟩ (kX1_cells l dC dI cy (sh 4 h0) (sh 4 w0) r14 hq13) mw_200 mw_201 mw_202 mw_4 mw_203 hdX1_cells rfl rfl ⟨Nat.le_of_ble_eq_true rfl, Nat.le_of_ble_eq_true rfl⟩ hP hK hG hS 4 rfl rfl [4, 5] rfl rfl hl.1 rfl (Nat.le_of_ble_eq_true rfl) dX7_image_34 ⟨Nat.zero_le _, Nat.zero_le _⟩ ?_
    exact zretI hx hb hr hlocks hP hK hD hS hf rfl dX7_image_37
  exact kE s.heap [] hP hD hS
set_option maxHeartbeats 4000000 in
set_option maxRecDepth 100000 in
theorem kX7_on (l : Launch) (dC : Nat → ClassId) (dI : Nat → Nat → Nat) (cy : ClassId) (h0 : Nat → Nat) (w0 : Nat → Nat → Int32) (sz : Nat) (z : Int32 × (Nat → Int32) × (Nat → Int32) × (Nat → Int32) × (Nat → Int32) × (Nat → Int32) × (Nat → Int32) × (Nat → Int32) × (Nat → Int32) × (Nat → Int32) × (Nat → Int32) × (Nat → Int32)) (hf : fX7_on w0 = some z) : Met l yX7_on (wsM yX7_on cX7_on 1 (some .int)) ({ frames := 3, cells := 0, slots := 0, locals := 64 } : Room) (va_Pc [.ref (h0 0)] (pWR (dC, dI) vwCl [(cy, .int)] (zW_7 cy h0 w0) sz)) (va_Qi (fun (q : Int32) (v : (Nat → Int32) × (Nat → Int32) × (Nat → Int32) × (Nat → Int32) × (Nat → Int32) × (Nat → Int32) × (Nat → Int32) × (Nat → Int32) × (Nat → Int32) × (Nat → Int32) × (Nat → Int32)) => (q, v) = z) (fun v => aWR (dC, dI) vwCl [(cy, .int)] (va_A (zW_7 cy h0 w0) sz) (zW_7 cy h0 (ups (ups (ups (ups (ups (ups (ups (ups (ups (ups (ups w0 3 v.1) 4 v.2.1) 5 v.2.2.1) 6 v.2.2.2.1) 7 v.2.2.2.2.1) 8 v.2.2.2.2.2.1) 9 v.2.2.2.2.2.2.1) 10 v.2.2.2.2.2.2.2.1) 11 v.2.2.2.2.2.2.2.2.1) 12 v.2.2.2.2.2.2.2.2.2.1) 28 v.2.2.2.2.2.2.2.2.2.2))) (va_A (zW_7 cy h0 w0) sz)) 0 0 (va_A (zW_7 cy h0 w0) sz) := by
  refine Met.ofW (cc := cX7_on) (maxL := 1) (ret := (some .int)) (by decide) rfl ?_
  intro p e s m args below meth c s₁ B hml hv
  obtain ⟨ha, hsz, hP, hK, hD0, hG⟩ := hv
  have hx := B.exec
  have hb := B.bytes
  have hr := B.returns
  have hts : ∀ w ∈ wsA, w.before args s = true := fun w h => atoms_spec (ws := wsM yX7_on cX7_on 1 (some .int)) B.pre w (List.mem_cons_of_mem _ h)
  have hown : s.vm.findClass RX7 = some m.cls := findClass_of_methodNamed B.named
  have hlocks := B.notSynchronized
  subst hsz
  have hD := hD0.self (sz := s.heap.size)
  generalize hAe : va_A (zW_7 cy h0 w0) s.heap.size = A at hD hG ⊢
  have hA : ∀ q : Nat, s.heap.size ≤ q → A q := fun q h => by rw [← hAe]; exact Or.inr h
  have hS : va_S A s.heap s.heap [] := va_S.rf
  have hP : va_P (dC, dI) vwCl (zW_7 cy h0 (ups (ups (ups (ups (ups (ups (ups (ups (ups (ups (ups w0 3 (w0 3)) 4 (w0 4)) 5 (w0 5)) 6 (w0 6)) 7 (w0 7)) 8 (w0 8)) 9 (w0 9)) 10 (w0 10)) 11 (w0 11)) 12 (w0 12)) 28 (w0 28))) s.heap := hP
  have hD : va_D A (zW_7 cy h0 (ups (ups (ups (ups (ups (ups (ups (ups (ups (ups (ups w0 3 (w0 3)) 4 (w0 4)) 5 (w0 5)) 6 (w0 6)) 7 (w0 7)) 8 (w0 8)) 9 (w0 9)) 10 (w0 10)) 11 (w0 11)) 12 (w0 12)) 28 (w0 28))) := hD
  obtain ⟨ls, hl, he⟩ := zent (m := m) (n := 1) (L := [(0, .ref (h0 0))]) ha (Nat.le_of_ble_eq_true rfl) rfl
  refine W.eq he ?_
  unfold fX7_on at hf
  have kE : ∀ (H : Heap) (locs : List Loc), va_P (dC, dI) vwCl (zW_7 cy h0 (ups (ups (ups (ups (ups (ups (ups (ups (ups (ups (ups w0 3 (w0 3)) 4 (w0 4)) 5 (w0 5)) 6 (w0 6)) 7 (w0 7)) 8 (w0 8)) 9 (w0 9)) 10 (w0 10)) 11 (w0 11)) 12 (w0 12)) 28 (w0 28))) H → va_D A (zW_7 cy h0 (ups (ups (ups (ups (ups (ups (ups (ups (ups (ups (ups w0 3 (w0 3)) 4 (w0 4)) 5 (w0 5)) 6 (w0 6)) 7 (w0 7)) 8 (w0 8)) 9 (w0 9)) 10 (w0 10)) 11 (w0 11)) 12 (w0 12)) 28 (w0 28))) → va_S A s.heap H locs → W p l e ({ frames := 3, cells := 0, slots := 0, locals := 64 } : Room) s m args below meth c H locs 0 0 (MQ below (va_Qi (fun (q : Int32) (v : (Nat → Int32) × (Nat → Int32) × (Nat → Int32) × (Nat → Int32) × (Nat → Int32) × (Nat → Int32) × (Nat → Int32) × (Nat → Int32) × (Nat → Int32) × (Nat → Int32) × (Nat → Int32)) => (q, v) = z) (fun v => aWR (dC, dI) vwCl [(cy, .int)] A (zW_7 cy h0 (ups (ups (ups (ups (ups (ups (ups (ups (ups (ups (ups w0 3 v.1) 4 v.2.1) 5 v.2.2.1) 6 v.2.2.2.1) 7 v.2.2.2.2.1) 8 v.2.2.2.2.2.1) 9 v.2.2.2.2.2.2.1) 10 v.2.2.2.2.2.2.2.1) 11 v.2.2.2.2.2.2.2.2.1) 12 v.2.2.2.2.2.2.2.2.2.1) 28 v.2.2.2.2.2.2.2.2.2.2))) A) args s 0 0 A) (F0 m 0 ls []) := by
    intro H locs hP hD hS
    refine lv_aload_n hx hb dX7_on_0 rfl (lv_at hl 0 rfl) ?_
    refine zget hx hb hts hown hK hP hin_7 0 rfl rfl 9 (by decide) mw_150 (v := .int (w0 0 9)) rfl dX7_on_1 ?_
    refine lv_if_ne (tgt := 14) hx hb dX7_on_4 (by decide) (fun hc => ?_) (fun hc => ?_)
    · have hf := it_f hc hf
      refine lv_aload_n hx hb dX7_on_14 rfl (lv_at hl 0 rfl) ?_
      refine zget hx hb hts hown hK hP hin_7 0 rfl rfl 1 (by decide) mw_142 (v := .ref (h0 3)) rfl dX7_on_15 ?_
      refine lv_aload_n hx hb dX7_on_18 rfl (lv_at hl 0 rfl) ?_
      refine zget hx hb hts hown hK hP hin_7 0 rfl rfl 4 (by decide) mw_145 (v := .ref (h0 14)) rfl dX7_on_19 ?_
      obtain ⟨u2, u3, u4, u5, u6, u7, u8, u9, u10, hq1, hf⟩ := ob9_d hf
      refine zwvV (q := (RX6, TX6, 10)) (As := [.ref (h0 14)]) (rest := []) (u := (u2, u3, u4, u5, u6, u7, u8, u9, u10)) (wn := (zW_7 cy h0 (ups (ups (ups (ups (ups (ups (ups (ups (ups (ups (ups w0 3 u2) 4 u3) 5 u4) 6 u5) 7 u6) 8 u7) 9 u8) 10 u9) 11 u10) 12 (w0 12)) 28 (w0 28)))) ⟨hx, hb, hml, hown, hts⟩ (kX6_copyFrom l dC dI cy (sh 3 h0) (sh 3 (ups (ups (ups (ups (ups (ups (ups (ups (ups w0 3 (w0 3)) 4 (w0 4)) 5 (w0 5)) 6 (w0 6)) 7 (w0 7)) 8 (w0 8)) 9 (w0 9)) 10 (w0 10)) 11 (w0 11))) (sh 14 h0) (sh 14 w0) H.size (u2, u3, u4, u5, u6, u7, u8, u9, u10) hq1) mw_562 mw_563 mw_564 mw_3 mw_565 hdX6_copyFrom rfl rfl ⟨Nat.le_of_ble_eq_true rfl, Nat.le_of_ble_eq_true rfl⟩ hP hK hG hS 3 rfl rfl hD hA [3, 4, 5, 6, 7, 8, 9, 10, 11, 14, 15, 16, 17, 18, 19, 20, 21, 22] [0, 1, 2, 12, 13, 23, 24, 25, 26, 27, 28] [0, 1, 2, 11, 12, 13, 14, 15, 16, 17, 18, 19, 3, 4, 20, 21, 22, 23, 24, 25, 26, 27, 28, 5, 6, 7, 8, 9, 10] rfl rfl rfl rfl (by decide) rfl rfl rfl hl.1 rfl (Nat.le_of_ble_eq_true rfl) dX7_on_22 ⟨Nat.zero_le _, Nat.zero_le _⟩ (fun H locs hP hD hS => ?_)
      refine lv_aload_n hx hb dX7_on_25 rfl (lv_at hl 0 rfl) ?_
      refine zget hx hb hts hown hK hP hin_7 0 rfl rfl 2 (by decide) mw_143 (v := .ref (h0 12)) rfl dX7_on_26 ?_
      refine lv_aload_n hx hb dX7_on_29 rfl (lv_at hl 0 rfl) ?_
      refine zget hx hb hts hown hK hP hin_7 0 rfl rfl 5 (by decide) mw_146 (v := .ref (h0 23)) rfl dX7_on_30 ?_
      obtain ⟨u12, hq11, hf⟩ := ob1_d hf
      refine zwvV (q := (RX5, TX5, 17)) (As := [.ref (h0 23)]) (rest := []) (u := u12) (wn := (zW_7 cy h0 (ups (ups (ups (ups (ups (ups (ups (ups (ups (ups (ups w0 3 u2) 4 u3) 5 u4) 6 u5) 7 u6) 8 u7) 9 u8) 10 u9) 11 u10) 12 u12) 28 (w0 28)))) ⟨hx, hb, hml, hown, hts⟩ (kX5_copyFrom l dC dI cy (h0 12) (w0 12) (h0 23) (w0 23) H.size u12 hq11) mw_448 mw_449 mw_450 mw_6 mw_451 hdX5_copyFrom rfl rfl ⟨Nat.le_of_ble_eq_true rfl, Nat.le_of_ble_eq_true rfl⟩ hP hK hG hS 12 rfl rfl hD hA [12, 23] [0, 1, 2, 3, 4, 5, 6, 7, 8, 9, 10, 11, 13, 14, 15, 16, 17, 18, 19, 20, 21, 22, 24, 25, 26, 27, 28] [0, 1, 2, 3, 4, 5, 6, 7, 8, 9, 10, 11, 27, 12, 13, 14, 15, 16, 17, 18, 19, 20, 21, 28, 22, 23, 24, 25, 26] rfl rfl rfl rfl (by decide) rfl rfl rfl hl.1 rfl (Nat.le_of_ble_eq_true rfl) dX7_on_33 ⟨Nat.zero_le _, Nat.zero_le _⟩ (fun H locs hP hD hS => ?_)
      refine lv_aload_n hx hb dX7_on_36 rfl (lv_at hl 0 rfl) ?_
      refine zget hx hb hts hown hK hP hin_7 0 rfl rfl 1 (by decide) mw_142 (v := .ref (h0 3)) rfl dX7_on_37 ?_
      refine zgetN hx hb hts hG hown hK hP hin_6 3 rfl rfl 0 (by decide) (host := "Embayed") (List.mem_of_getElem? (i := 26) rfl) (v := .ref (h0 4)) rfl dX7_on_40 ?_
      obtain ⟨r14, hq13, hf⟩ := ob1_d hf
      refine zroV (q := (RX1, TX1, 3)) (As := []) (rest := []) (r := r14) ⟨hx, hb, hml, hown, hts⟩ (kX1_cells l dC dI cy (sh 4 h0) (sh 4 (ups (ups w0 4 u3) 5 u4)) r14 hq13) mw_200 mw_201 mw_202 mw_4 mw_203 hdX1_cells rfl rfl ⟨Nat.le_of_ble_eq_true rfl, Nat.le_of_ble_eq_true rfl⟩ hP hK hG hS 4 rfl rfl [4, 5] rfl rfl hl.1 rfl (Nat.le_of_ble_eq_true rfl) dX7_on_43 ⟨Nat.zero_le _, Nat.zero_le _⟩ ?_
      exact zretI hx hb hr hlocks hP hK hD hS hf rfl dX7_on_46
    · have hf := it_t hc hf
      refine lv_aload_n hx hb dX7_on_7 rfl (lv_at hl 0 rfl) ?_
      refine lv_bipush (v := (-3 : Int32)) hx hb dX7_on_8 (by decide) ?_
      obtain ⟨r16, u17, hq15, hf⟩ := ob2_d hf
      refine zwiV (q := (RX7, TX7, 10)) (As := [.int (-3 : Int32)]) (rest := []) (r := r16) (u := u17) (wn := (zW_7 cy h0 (ups (ups (ups (ups (ups (ups (ups (ups (ups (ups (ups w0 3 (w0 3)) 4 (w0 4)) 5 (w0 5)) 6 (w0 6)) 7 (w0 7)) 8 (w0 8)) 9 (w0 9)) 10 (w0 10)) 11 (w0 11)) 12 (w0 12)) 28 u17))) ⟨hx, hb, hml, hown, hts⟩ (kX7_refuse l dC dI cy h0 (ups (ups (ups (ups (ups (ups (ups (ups (ups (ups (ups w0 3 (w0 3)) 4 (w0 4)) 5 (w0 5)) 6 (w0 6)) 7 (w0 7)) 8 (w0 8)) 9 (w0 9)) 10 (w0 10)) 11 (w0 11)) 12 (w0 12)) 28 (w0 28)) (-3 : Int32) H.size (r16, u17) hq15) mw_165 mw_166 mw_883 mw_1 mw_167 hdX7_refuse rfl rfl ⟨Nat.le_of_ble_eq_true rfl, Nat.le_of_ble_eq_true rfl⟩ hP hK hG hS 0 rfl rfl hD hA [0, 1, 2, 3, 4, 5, 6, 7, 8, 9, 10, 11, 12, 13, 14, 15, 16, 17, 18, 19, 20, 21, 22, 23, 24, 25, 26, 27, 28] [] [0, 1, 2, 3, 4, 5, 6, 7, 8, 9, 10, 11, 12, 13, 14, 15, 16, 17, 18, 19, 20, 21, 22, 23, 24, 25, 26, 27, 28] rfl rfl rfl rfl (by decide) rfl rfl rfl hl.1 rfl (Nat.le_of_ble_eq_true rfl) dX7_on_10 ⟨Nat.zero_le _, Nat.zero_le _⟩ (fun H locs hP hD hS => ?_)
      exact zretI hx hb hr hlocks hP hK hD hS hf rfl dX7_on_13
  exact kE s.heap [] hP hD hS
set_option maxHeartbeats 4000000 in
set_option maxRecDepth 100000 in
theorem kX7_count (l : Launch) (dC : Nat → ClassId) (dI : Nat → Nat → Nat) (cy : ClassId) (h0 : Nat → Nat) (w0 : Nat → Nat → Int32) (x1 : Int32) (z : Int32) (hf : fX7_count w0 x1 = some z) : Met l yX7_count (wsM yX7_count cX7_count 2 (some .int)) ({ frames := 1, cells := 0, slots := 0, locals := 21 } : Room) (va_Pc [.ref (h0 0), .int x1] (pRO (dC, dI) vwCl [(cy, .int)] (zW_7 cy h0 w0))) (vp_Si (fun q => q = z)) 0 0 (fun _ => False) := by
  refine Met.ofW (cc := cX7_count) (maxL := 2) (ret := (some .int)) (by decide) rfl ?_
  intro p e s m args below meth c s₁ B hml hv
  obtain ⟨ha, hP, hK, hG⟩ := hv
  have hx := B.exec
  have hb := B.bytes
  have hr := B.returns
  have hts : ∀ w ∈ wsA, w.before args s = true := fun w h => atoms_spec (ws := wsM yX7_count cX7_count 2 (some .int)) B.pre w (List.mem_cons_of_mem _ h)
  have hown : s.vm.findClass RX7 = some m.cls := findClass_of_methodNamed B.named
  have hlocks := B.notSynchronized
  have hS : va_S (fun _ => False) s.heap s.heap [] := va_S.rf
  obtain ⟨ls, hl, he⟩ := zent (m := m) (n := 2) (L := [(0, .ref (h0 0)), (1, .int x1)]) ha (Nat.le_of_ble_eq_true rfl) rfl
  refine W.eq he ?_
  unfold fX7_count at hf
  have kE : W p l e ({ frames := 1, cells := 0, slots := 0, locals := 21 } : Room) s m args below meth c s.heap [] 0 0 (MQ below (vp_Si (fun q => q = z)) args s 0 0 (fun _ => False)) (F0 m 0 ls []) := by
    refine lv_iload_n hx hb dX7_count_0 rfl (lv_at hl 1 rfl) ?_
    by_cases hsw0 : x1 = (0 : Int32)
    · have hf := it_t hsw0 hf
      refine lv_tableIn (tgt := 44) (off := 43) hx hb dX7_count_1 (by rw [hsw0]; decide) (by rw [hsw0]; decide) (by rw [hsw0]; rfl) (by decide) ?_
      refine lv_aload_n hx hb dX7_count_44 rfl (lv_at hl 0 rfl) ?_
      refine zget hx hb hts hown hK hP hin_7 0 rfl rfl 1 (by decide) mw_142 (v := .ref (h0 3)) rfl dX7_count_45 ?_
      refine zgetN hx hb hts hG hown hK hP hin_6 3 rfl rfl 0 (by decide) (host := "Embayed") (List.mem_of_getElem? (i := 26) rfl) (v := .ref (h0 4)) rfl dX7_count_48 ?_
      refine zgetN hx hb hts hG hown hK hP hin_1 4 rfl rfl 1 (by decide) (host := "Embayed") (List.mem_of_getElem? (i := 23) rfl) (v := .int (w0 4 1)) rfl dX7_count_51 ?_
      exact zretR hx hb hr hlocks hf dX7_count_54
    · have hf := it_f hsw0 hf
      by_cases hsw1 : x1 = (1 : Int32)
      · have hf := it_t hsw1 hf
        refine lv_tableIn (tgt := 55) (off := 54) hx hb dX7_count_1 (by rw [hsw1]; decide) (by rw [hsw1]; decide) (by rw [hsw1]; rfl) (by decide) ?_
        refine lv_aload_n hx hb dX7_count_55 rfl (lv_at hl 0 rfl) ?_
        refine zget hx hb hts hown hK hP hin_7 0 rfl rfl 1 (by decide) mw_142 (v := .ref (h0 3)) rfl dX7_count_56 ?_
        refine zgetN hx hb hts hG hown hK hP hin_6 3 rfl rfl 0 (by decide) (host := "Embayed") (List.mem_of_getElem? (i := 26) rfl) (v := .ref (h0 4)) rfl dX7_count_59 ?_
        refine zgetN hx hb hts hG hown hK hP hin_1 4 rfl rfl 2 (by decide) (host := "Embayed") (List.mem_of_getElem? (i := 24) rfl) (v := .int (w0 4 2)) rfl dX7_count_62 ?_
        exact zretR hx hb hr hlocks hf dX7_count_65
      · have hf := it_f hsw1 hf
        by_cases hsw2 : x1 = (2 : Int32)
        · have hf := it_t hsw2 hf
          refine lv_tableIn (tgt := 66) (off := 65) hx hb dX7_count_1 (by rw [hsw2]; decide) (by rw [hsw2]; decide) (by rw [hsw2]; rfl) (by decide) ?_
          refine lv_aload_n hx hb dX7_count_66 rfl (lv_at hl 0 rfl) ?_
          refine zget hx hb hts hown hK hP hin_7 0 rfl rfl 1 (by decide) mw_142 (v := .ref (h0 3)) rfl dX7_count_67 ?_
          refine zgetN hx hb hts hG hown hK hP hin_6 3 rfl rfl 1 (by decide) (host := "Embayed") (List.mem_of_getElem? (i := 29) rfl) (v := .ref (h0 6)) rfl dX7_count_70 ?_
          refine zgetN hx hb hts hG hown hK hP hin_0 6 rfl rfl 2 (by decide) (host := "Embayed") (List.mem_of_getElem? (i := 25) rfl) (v := .int (w0 6 2)) rfl dX7_count_73 ?_
          exact zretR hx hb hr hlocks hf dX7_count_76
        · have hf := it_f hsw2 hf
          by_cases hsw3 : x1 = (3 : Int32)
          · have hf := it_t hsw3 hf
            refine lv_tableIn (tgt := 77) (off := 76) hx hb dX7_count_1 (by rw [hsw3]; decide) (by rw [hsw3]; decide) (by rw [hsw3]; rfl) (by decide) ?_
            refine lv_aload_n hx hb dX7_count_77 rfl (lv_at hl 0 rfl) ?_
            refine zget hx hb hts hown hK hP hin_7 0 rfl rfl 1 (by decide) mw_142 (v := .ref (h0 3)) rfl dX7_count_78 ?_
            refine zgetN hx hb hts hG hown hK hP hin_6 3 rfl rfl 2 (by decide) (host := "Embayed") (List.mem_of_getElem? (i := 31) rfl) (v := .ref (h0 9)) rfl dX7_count_81 ?_
            refine zgetN hx hb hts hG hown hK hP hin_0 9 rfl rfl 2 (by decide) (host := "Embayed") (List.mem_of_getElem? (i := 25) rfl) (v := .int (w0 9 2)) rfl dX7_count_84 ?_
            exact zretR hx hb hr hlocks hf dX7_count_87
          · have hf := it_f hsw3 hf
            by_cases hsw4 : x1 = (4 : Int32)
            · have hf := it_t hsw4 hf
              refine lv_tableIn (tgt := 88) (off := 87) hx hb dX7_count_1 (by rw [hsw4]; decide) (by rw [hsw4]; decide) (by rw [hsw4]; rfl) (by decide) ?_
              refine lv_aload_n hx hb dX7_count_88 rfl (lv_at hl 0 rfl) ?_
              refine zget hx hb hts hown hK hP hin_7 0 rfl rfl 7 (by decide) mw_148 (v := .ref (h0 26)) rfl dX7_count_89 ?_
              refine zgetN hx hb hts hG hown hK hP hin_4 26 rfl rfl 1 (by decide) (host := "Embayed") (List.mem_of_getElem? (i := 58) rfl) (v := .int (w0 26 1)) rfl dX7_count_92 ?_
              exact zretR hx hb hr hlocks hf dX7_count_95
            · have hf := it_f hsw4 hf
              by_cases hsw5 : x1 = (5 : Int32)
              · have hf := it_t hsw5 hf
                refine lv_tableIn (tgt := 96) (off := 95) hx hb dX7_count_1 (by rw [hsw5]; decide) (by rw [hsw5]; decide) (by rw [hsw5]; rfl) (by decide) ?_
                refine lv_aload_n hx hb dX7_count_96 rfl (lv_at hl 0 rfl) ?_
                refine zget hx hb hts hown hK hP hin_7 0 rfl rfl 0 (by decide) mw_141 (v := .ref (h0 1)) rfl dX7_count_97 ?_
                refine zgetN hx hb hts hG hown hK hP hin_3 1 rfl rfl 1 (by decide) (host := "Embayed") (List.mem_of_getElem? (i := 22) rfl) (v := .int (w0 1 1)) rfl dX7_count_100 ?_
                exact zretR hx hb hr hlocks hf dX7_count_103
              · have hf := it_f hsw5 hf
                by_cases hsw6 : x1 = (6 : Int32)
                · have hf := it_t hsw6 hf
                  refine lv_tableIn (tgt := 104) (off := 103) hx hb dX7_count_1 (by rw [hsw6]; decide) (by rw [hsw6]; decide) (by rw [hsw6]; rfl) (by decide) ?_
                  refine lv_aload_n hx hb dX7_count_104 rfl (lv_at hl 0 rfl) ?_
                  refine zget hx hb hts hown hK hP hin_7 0 rfl rfl 2 (by decide) mw_143 (v := .ref (h0 12)) rfl dX7_count_105 ?_
                  refine zgetN hx hb hts hG hown hK hP hin_5 12 rfl rfl 0 (by decide) (host := "Embayed") (List.mem_of_getElem? (i := 42) rfl) (v := .int (w0 12 0)) rfl dX7_count_108 ?_
                  refine lv_if_eq (tgt := 118) hx hb dX7_count_111 (by decide) (fun hc => ?_) (fun hc => ?_)
                  · have hf := it_t hc hf
                    refine lv_iconst (v := (0 : Int32)) hx hb dX7_count_118 (by decide) ?_
                    exact zretR hx hb hr hlocks hf dX7_count_119
                  · have hf := it_f hc hf
                    refine lv_iconst (v := (1 : Int32)) hx hb dX7_count_114 (by decide) ?_
                    refine lv_goto (tgt := 119) hx hb dX7_count_115 (by decide) ?_
                    exact zretR hx hb hr hlocks hf dX7_count_119
                · have hf := it_f hsw6 hf
                  refine lv_tableOut (tgt := 120) hx hb dX7_count_1 (tsw_out (fun n h1 h2 => ?_)) (by decide) ?_
                  · rcases (show n = 0 ∨ n = 1 ∨ n = 2 ∨ n = 3 ∨ n = 4 ∨ n = 5 ∨ n = 6 by omega) with rfl | rfl | rfl | rfl | rfl | rfl | rfl
                    · exact ti_ne hsw0 rfl
                    · exact ti_ne hsw1 rfl
                    · exact ti_ne hsw2 rfl
                    · exact ti_ne hsw3 rfl
                    · exact ti_ne hsw4 rfl
                    · exact ti_ne hsw5 rfl
                    · exact ti_ne hsw6 rfl
                  · refine lv_iload_n hx hb dX7_count_120 rfl (lv_at hl 1 rfl) ?_
                    refine lv_bipush (v := (10 : Int32)) hx hb dX7_count_121 (by decide) ?_
                    refine lv_icmp_le (tgt := 144) hx hb dX7_count_123 (by decide) (fun hc => ?_) (fun hc => ?_)
                    · have hf := it_t hc hf
                      refine lv_bipush (v := (-9 : Int32)) hx hb dX7_count_144 (by decide) ?_
                      exact zretR hx hb hr hlocks hf dX7_count_146
                    · have hf := it_f hc hf
                      refine lv_iload_n hx hb dX7_count_126 rfl (lv_at hl 1 rfl) ?_
                      refine lv_bipush (v := (16 : Int32)) hx hb dX7_count_127 (by decide) ?_
                      refine lv_icmp_gt (tgt := 144) hx hb dX7_count_129 (by decide) (fun hc => ?_) (fun hc => ?_)
                      · have hf := it_t hc hf
                        refine lv_bipush (v := (-9 : Int32)) hx hb dX7_count_144 (by decide) ?_
                        exact zretR hx hb hr hlocks hf dX7_count_146
                      · have hf := it_f hc hf
                        refine lv_aload_n hx hb dX7_count_132 rfl (lv_at hl 0 rfl) ?_
                        refine zget hx hb hts hown hK hP hin_7 0 rfl rfl 8 (by decide) mw_149 (v := .ref (h0 28)) rfl dX7_count_133 ?_
                        refine lv_iload_n hx hb dX7_count_136 rfl (lv_at hl 1 rfl) ?_
                        refine lv_bipush (v := (10 : Int32)) hx hb dX7_count_137 (by decide) ?_
                        refine lv_isub hx hb dX7_count_139 ?_
                        obtain ⟨r2, hq1, hf⟩ := ob1_d hf
                        refine zroS (As := [.ref (h0 28), .int (x1 - (10 : Int32))]) (rest := []) (r := r2) ⟨hx, hb, hml, hown, hts⟩ (kX7_valueAt l dC dI cy (h0 28) 7 (w0 28) (x1 - (10 : Int32)) r2 hq1) mw_221 mw_184 mw_1 mw_185 hdX7_valueAt rfl rfl ⟨Nat.le_of_ble_eq_true rfl, Nat.le_of_ble_eq_true rfl⟩ hP hK hG hS [28] rfl rfl hl.1 rfl (Nat.le_of_ble_eq_true rfl) dX7_count_140 ⟨Nat.zero_le _, Nat.zero_le _⟩ ?_
                        exact zretR hx hb hr hlocks hf dX7_count_143
  exact kE
