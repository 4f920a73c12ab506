set_option maxHeartbeats 4000000 in
set_option maxRecDepth 100000 in
theorem kX3_tell (l : Launch) (dC : Nat → ClassId) (dI : Nat → Nat → Nat) (cy : ClassId) (h0 : Nat → Nat) (w0 : Nat → Nat → Int32) (x1 : Int32) (sz : Nat) (z : Int32 × (Nat → Int32) × (Nat → Int32)) (hf : fX3_tell w0 x1 = some z) : Met l yX3_tell (wsM yX3_tell cX3_tell 2 (some .int)) ({ frames := 0, cells := 0, slots := 0, locals := 0 } : Room) (va_Pc [.ref (h0 0), .int x1] (pWR (dC, dI) vwCl [(cy, .int)] (zW_3 cy h0 w0) sz)) (va_Qi (fun (q : Int32) (v : (Nat → Int32) × (Nat → Int32)) => (q, v) = z) (fun v => aWR (dC, dI) vwCl [(cy, .int)] (va_A (zW_3 cy h0 w0) sz) (zW_3 cy h0 (ups (ups w0 0 v.1) 1 v.2))) (va_A (zW_3 cy h0 w0) sz)) 0 0 (va_A (zW_3 cy h0 w0) sz) := by
  refine Met.ofW (cc := cX3_tell) (maxL := 2) (ret := (some .int)) (by decide) rfl ?_
  intro p e s m args below meth c s₁ B hml hv
  obtain ⟨ha, hsz, hP, hK, hD0, hG⟩ := hv
  have hx := B.exec
  have hb := B.bytes
  have hr := B.returns
  have hts : ∀ w ∈ wsA, w.before args s = true := fun w h => atoms_spec (ws := wsM yX3_tell cX3_tell 2 (some .int)) B.pre w (List.mem_cons_of_mem _ h)
  have hown : s.vm.findClass RX3 = some m.cls := findClass_of_methodNamed B.named
  have hlocks := B.notSynchronized
  subst hsz
  have hD := hD0.self (sz := s.heap.size)
  generalize hAe : va_A (zW_3 cy h0 w0) s.heap.size = A at hD hG ⊢
  have hA : ∀ q : Nat, s.heap.size ≤ q → A q := fun q h => by rw [← hAe]; exact Or.inr h
  have hS : va_S A s.heap s.heap [] := va_S.rf
  have hP : va_P (dC, dI) vwCl (zW_3 cy h0 (ups (ups w0 0 (w0 0)) 1 (w0 1))) s.heap := hP
  have hD : va_D A (zW_3 cy h0 (ups (ups w0 0 (w0 0)) 1 (w0 1))) := hD
  obtain ⟨ls, hl, he⟩ := zent (m := m) (n := 2) (L := [(0, .ref (h0 0)), (1, .int x1)]) ha (Nat.le_of_ble_eq_true rfl) rfl
  refine W.eq he ?_
  unfold fX3_tell at hf
  have kE : ∀ (H : Heap) (locs : List Loc), va_P (dC, dI) vwCl (zW_3 cy h0 (ups (ups w0 0 (w0 0)) 1 (w0 1))) H → va_D A (zW_3 cy h0 (ups (ups w0 0 (w0 0)) 1 (w0 1))) → va_S A s.heap H locs → W p l e ({ frames := 0, cells := 0, slots := 0, locals := 0 } : Room) s m args below meth c H locs 0 0 (MQ below (va_Qi (fun (q : Int32) (v : (Nat → Int32) × (Nat → Int32)) => (q, v) = z) (fun v => aWR (dC, dI) vwCl [(cy, .int)] A (zW_3 cy h0 (ups (ups w0 0 v.1) 1 v.2))) A) args s 0 0 A) (F0 m 0 ls []) := by
    intro H locs hP hD hS
    refine lv_aload_n hx hb dX3_tell_0 rfl (lv_at hl 0 rfl) ?_
    refine zget hx hb hts hown hK hP hin_3 0 rfl rfl 1 (by decide) mw_25 (v := .int (w0 0 1)) rfl dX3_tell_1 ?_
    refine lv_if_lt (tgt := 39) hx hb dX3_tell_4 (by decide) (fun hc => ?_) (fun hc => ?_)
    · have hf := it_t hc hf
      refine lv_aload_n hx hb dX3_tell_39 rfl (lv_at hl 0 rfl) ?_
      refine zget hx hb hts hown hK hP hin_3 0 rfl rfl 1 (by decide) mw_25 (v := .int (w0 0 1)) rfl dX3_tell_40 ?_
      exact zretI hx hb hr hlocks hP hK hD hS hf rfl dX3_tell_43
    · have hf := it_f hc hf
      refine lv_aload_n hx hb dX3_tell_7 rfl (lv_at hl 0 rfl) ?_
      refine zget hx hb hts hown hK hP hin_3 0 rfl rfl 1 (by decide) mw_25 (v := .int (w0 0 1)) rfl dX3_tell_8 ?_
      refine lv_aload_n hx hb dX3_tell_11 rfl (lv_at hl 0 rfl) ?_
      refine zget hx hb hts hown hK hP hin_3 0 rfl rfl 0 (by decide) mw_24 (v := .ref (h0 1)) rfl dX3_tell_12 ?_
      refine va_alen hx hb hK hP 1 0 rfl rfl (v := (80 : Int32)) (show Int32.ofNat 80 = (80 : Int32) from by decide) dX3_tell_15 ?_
      refine lv_icmp_ge (tgt := 39) hx hb dX3_tell_16 (by decide) (fun hc => ?_) (fun hc => ?_)
      · have hf := it_t hc hf
        refine lv_aload_n hx hb dX3_tell_39 rfl (lv_at hl 0 rfl) ?_
        refine zget hx hb hts hown hK hP hin_3 0 rfl rfl 1 (by decide) mw_25 (v := .int (w0 0 1)) rfl dX3_tell_40 ?_
        exact zretI hx hb hr hlocks hP hK hD hS hf rfl dX3_tell_43
      · have hf := it_f hc hf
        refine lv_aload_n hx hb dX3_tell_19 rfl (lv_at hl 0 rfl) ?_
        refine zget hx hb hts hown hK hP hin_3 0 rfl rfl 0 (by decide) mw_24 (v := .ref (h0 1)) rfl dX3_tell_20 ?_
        refine lv_aload_n hx hb dX3_tell_23 rfl (lv_at hl 0 rfl) ?_
        refine zget hx hb hts hown hK hP hin_3 0 rfl rfl 1 (by decide) mw_25 (v := .int (w0 0 1)) rfl dX3_tell_24 ?_
        refine lv_iload_n hx hb dX3_tell_27 rfl (lv_at hl 1 rfl) ?_
        obtain ⟨hin1, hf⟩ := gd_d hf
        obtain ⟨g2, hg2, hf⟩ := nm_d hf
        refine zast hx hb hK hP hD hS 1 (wn := (zW_3 cy h0 (ups (ups w0 0 (w0 0)) 1 g2))) hg2 rfl rfl hin1 rfl dX3_tell_28 (fun H locs hP hD hS => ?_)
        refine lv_aload_n hx hb dX3_tell_29 rfl (lv_at hl 0 rfl) ?_
        refine lv_dup hx hb dX3_tell_30 rfl ?_
        refine zget hx hb hts hown hK hP hin_3 0 rfl rfl 1 (by decide) mw_25 (v := .int (w0 0 1)) rfl dX3_tell_31 ?_
        refine lv_iconst (v := (1 : Int32)) hx hb dX3_tell_34 (by decide) ?_
        refine lv_iadd hx hb dX3_tell_35 ?_
        refine zput hx hb hts hown hK hP hD hS hin_3 tyX3 tyX3_ok nmX3 0 rfl rfl 1 (by decide) mw_25 rfl (v := .int ((w0 0 1) + (1 : Int32))) rfl rfl (Nat.le_of_ble_eq_true rfl) (wn := (zW_3 cy h0 (ups (ups w0 0 (ups (w0 0) 1 ((w0 0 1) + (1 : Int32)))) 1 g2))) rfl dX3_tell_36 (fun H locs hP hD hS => ?_)
        refine lv_aload_n hx hb dX3_tell_39 rfl (lv_at hl 0 rfl) ?_
        refine zget hx hb hts hown hK hP hin_3 0 rfl rfl 1 (by decide) mw_25 (v := .int ((w0 0 1) + (1 : Int32))) rfl dX3_tell_40 ?_
        exact zretI hx hb hr hlocks hP hK hD hS hf rfl dX3_tell_43
  exact kE s.heap [] hP hD hS
set_option maxHeartbeats 4000000 in
set_option maxRecDepth 100000 in
theorem kX7_valueAt (l : Launch) (dC : Nat → ClassId) (dI : Nat → Nat → Nat) (cy : ClassId) (h0 : Nat) (n0 : Nat) (w0 : Nat → Int32) (x1 : Int32) (z : Int32) (hf : fX7_valueAt n0 w0 x1 = some z) : Met l yX7_valueAt (wsM yX7_valueAt cX7_valueAt 2 (some .int)) ({ frames := 0, cells := 0, slots := 0, locals := 0 } : Room) (va_Pc [.ref h0, .int x1] (pRO (dC, dI) vwCl [(cy, .int)] (zW_A cy h0 n0 w0))) (vp_Si (fun q => q = z)) 0 0 (fun _ => False) := by
  refine Met.ofW (cc := cX7_valueAt) (maxL := 2) (ret := (some .int)) (by decide) rfl ?_
  intro p e s m args below meth c s₁ B hml hv
  obtain ⟨ha, hP, hK, hG⟩ := hv
  have hx := B.exec
  have hb := B.bytes
  have hr := B.returns
  have hts : ∀ w ∈ wsA, w.before args s = true := fun w h => atoms_spec (ws := wsM yX7_valueAt cX7_valueAt 2 (some .int)) B.pre w (List.mem_cons_of_mem _ h)
  have hown : s.vm.findClass RX7 = some m.cls := findClass_of_methodNamed B.named
  have hlocks := B.notSynchronized
  have hS : va_S (fun _ => False) s.heap s.heap [] := va_S.rf
  obtain ⟨ls, hl, he⟩ := zent (m := m) (n := 2) (L := [(0, .ref h0), (1, .int x1)]) ha (Nat.le_of_ble_eq_true rfl) rfl
  refine W.eq he ?_
  unfold fX7_valueAt at hf
  have kE : W p l e ({ frames := 0, cells := 0, slots := 0, locals := 0 } : Room) s m args below meth c s.heap [] 0 0 (MQ below (vp_Si (fun q => q = z)) args s 0 0 (fun _ => False)) (F0 m 0 ls []) := by
    refine lv_iload_n hx hb dX7_valueAt_0 rfl (lv_at hl 1 rfl) ?_
    refine lv_if_lt (tgt := 16) hx hb dX7_valueAt_1 (by decide) (fun hc => ?_) (fun hc => ?_)
    · have hf := it_t hc hf
      refine lv_iconst (v := (0 : Int32)) hx hb dX7_valueAt_16 (by decide) ?_
      exact zretR hx hb hr hlocks hf dX7_valueAt_17
    · have hf := it_f hc hf
      refine lv_iload_n hx hb dX7_valueAt_4 rfl (lv_at hl 1 rfl) ?_
      refine lv_aload_n hx hb dX7_valueAt_5 rfl (lv_at hl 0 rfl) ?_
      refine va_alen hx hb hK hP 0 0 rfl rfl (v := (nI n0)) rfl dX7_valueAt_6 ?_
      refine lv_icmp_ge (tgt := 16) hx hb dX7_valueAt_7 (by decide) (fun hc => ?_) (fun hc => ?_)
      · have hf := it_t hc hf
        refine lv_iconst (v := (0 : Int32)) hx hb dX7_valueAt_16 (by decide) ?_
        exact zretR hx hb hr hlocks hf dX7_valueAt_17
      · have hf := it_f hc hf
        refine lv_aload_n hx hb dX7_valueAt_10 rfl (lv_at hl 0 rfl) ?_
        refine lv_iload_n hx hb dX7_valueAt_11 rfl (lv_at hl 1 rfl) ?_
        obtain ⟨hin1, hf⟩ := gd_d hf
        refine va_iald hx hb hK hP 0 0 rfl rfl hin1 dX7_valueAt_12 ?_
        refine lv_goto (tgt := 17) hx hb dX7_valueAt_13 (by decide) ?_
        exact zretR hx hb hr hlocks hf dX7_valueAt_17
  exact kE
set_option maxHeartbeats 4000000 in
set_option maxRecDepth 100000 in
theorem kX7_valueAt_s (l : Launch) (t0 n0 : Nat) (w0 : Nat → Int32) (x1 z : Int32) (hf : fX7_valueAt n0 w0 x1 = some z) : Met l yX7_valueAt (wsM yX7_valueAt cX7_valueAt 2 (some .int)) ({ frames := 0, cells := 0, slots := 0, locals := 0 } : Room) (va_Pc [.ref t0, .int x1] (fun U => va_T .int t0 n0 (fun j => .int (w0 j)) (fun _ => False) U U.heap)) (vp_Si (fun q => q = z)) 0 0 (fun _ => False) := by
  refine Met.ofW (cc := cX7_valueAt) (maxL := 2) (ret := (some .int)) (by decide) rfl ?_
  intro p e s m args below meth c s₁ B hml hv
  obtain ⟨ha, hT0⟩ := hv
  have hx := B.exec
  have hb := B.bytes
  have hr := B.returns
  have hlocks := B.notSynchronized
  have hS : va_S (fun _ => False) s.heap s.heap [] := va_S.rf
  obtain ⟨ls, hl, he⟩ := zent (m := m) (n := 2) (L := [(0, .ref t0), (1, .int x1)]) ha (Nat.le_of_ble_eq_true rfl) rfl
  refine W.eq he ?_
  unfold fX7_valueAt at hf
  have kE : W p l e ({ frames := 0, cells := 0, slots := 0, locals := 0 } : Room) s m args below meth c s.heap [] 0 0 (MQ below (vp_Si (fun q => q = z)) args s 0 0 (fun _ => False)) (F0 m 0 ls []) := by
    refine lv_iload_n hx hb dX7_valueAt_0 rfl (lv_at hl 1 rfl) ?_
    refine lv_if_lt (tgt := 16) hx hb dX7_valueAt_1 (by decide) (fun hc => ?_) (fun hc => ?_)
    · have hf := it_t hc hf
      refine lv_iconst (v := (0 : Int32)) hx hb dX7_valueAt_16 (by decide) ?_
      exact zretR hx hb hr hlocks hf dX7_valueAt_17
    · have hf := it_f hc hf
      refine lv_iload_n hx hb dX7_valueAt_4 rfl (lv_at hl 1 rfl) ?_
      refine lv_aload_n hx hb dX7_valueAt_5 rfl (lv_at hl 0 rfl) ?_
      refine va_tlen hx hb hT0 hS (v := nI n0) rfl dX7_valueAt_6 ?_
      refine lv_icmp_ge (tgt := 16) hx hb dX7_valueAt_7 (by decide) (fun hc => ?_) (fun hc => ?_)
      · have hf := it_t hc hf
        refine lv_iconst (v := (0 : Int32)) hx hb dX7_valueAt_16 (by decide) ?_
        exact zretR hx hb hr hlocks hf dX7_valueAt_17
      · have hf := it_f hc hf
        refine lv_aload_n hx hb dX7_valueAt_10 rfl (lv_at hl 0 rfl) ?_
        refine lv_iload_n hx hb dX7_valueAt_11 rfl (lv_at hl 1 rfl) ?_
        obtain ⟨hin1, hf⟩ := gd_d hf
        refine va_ti hx hb hT0 hS hin1 rfl dX7_valueAt_12 ?_
        refine lv_goto (tgt := 17) hx hb dX7_valueAt_13 (by decide) ?_
        exact zretR hx hb hr hlocks hf dX7_valueAt_17
  exact kE
set_option maxHeartbeats 4000000 in
set_option maxRecDepth 100000 in
theorem kX3_signAt (l : Launch) (dC : Nat → ClassId) (dI : Nat → Nat → Nat) (cy : ClassId) (h0 : Nat → Nat) (w0 : Nat → Nat → Int32) (x1 : Int32) (z : Int32) (hf : fX3_signAt w0 x1 = some z) : Met l yX3_signAt (wsM yX3_signAt cX3_signAt 2 (some .int)) ({ frames := 1, cells := 0, slots := 0, locals := 21 } : Room) (va_Pc [.ref (h0 0), .int x1] (pRO (dC, dI) vwCl [(cy, .int)] (zW_3 cy h0 w0))) (vp_Si (fun q => q = z)) 0 0 (fun _ => False) := by
  refine Met.ofW (cc := cX3_signAt) (maxL := 2) (ret := (some .int)) (by decide) rfl ?_
  intro p e s m args below meth c s₁ B hml hv
  obtain ⟨ha, hP, hK, hG⟩ := hv
  have hx := B.exec
  have hb := B.bytes
  have hr := B.returns
  have hts : ∀ w ∈ wsA, w.before args s = true := fun w h => atoms_spec (ws := wsM yX3_signAt cX3_signAt 2 (some .int)) B.pre w (List.mem_cons_of_mem _ h)
  have hown : s.vm.findClass RX3 = some m.cls := findClass_of_methodNamed B.named
  have hlocks := B.notSynchronized
  have hS : va_S (fun _ => False) s.heap s.heap [] := va_S.rf
  obtain ⟨ls, hl, he⟩ := zent (m := m) (n := 2) (L := [(0, .ref (h0 0)), (1, .int x1)]) ha (Nat.le_of_ble_eq_true rfl) rfl
  refine W.eq he ?_
  unfold fX3_signAt at hf
  have kE : W p l e ({ frames := 1, cells := 0, slots := 0, locals := 21 } : Room) s m args below meth c s.heap [] 0 0 (MQ below (vp_Si (fun q => q = z)) args s 0 0 (fun _ => False)) (F0 m 0 ls []) := by
    refine lv_iload_n hx hb dX3_signAt_0 rfl (lv_at hl 1 rfl) ?_
    refine lv_aload_n hx hb dX3_signAt_1 rfl (lv_at hl 0 rfl) ?_
    refine zget hx hb hts hown hK hP hin_3 0 rfl rfl 1 (by decide) mw_25 (v := .int (w0 0 1)) rfl dX3_signAt_2 ?_
    refine lv_icmp_ge (tgt := 19) hx hb dX3_signAt_5 (by decide) (fun hc => ?_) (fun hc => ?_)
    · have hf := it_t hc hf
      refine lv_iconst (v := (0 : Int32)) hx hb dX3_signAt_19 (by decide) ?_
      exact zretR hx hb hr hlocks hf dX3_signAt_20
    · have hf := it_f hc hf
      refine lv_aload_n hx hb dX3_signAt_8 rfl (lv_at hl 0 rfl) ?_
      refine zget hx hb hts hown hK hP hin_3 0 rfl rfl 0 (by decide) mw_24 (v := .ref (h0 1)) rfl dX3_signAt_9 ?_
      refine lv_iload_n hx hb dX3_signAt_12 rfl (lv_at hl 1 rfl) ?_
      obtain ⟨r2, hq1, hf⟩ := ob1_d hf
      refine zroSN (As := [.ref (h0 1), .int x1]) (rest := []) (r := r2) ⟨hx, hb, hml, hown, hts⟩ (kX7_valueAt l dC dI cy (h0 1) 80 (w0 1) x1 r2 hq1) (List.mem_of_getElem? (i := 6) rfl) mw_184 mw_1 mw_185 hdX7_valueAt rfl rfl ⟨Nat.le_of_ble_eq_true rfl, Nat.le_of_ble_eq_true rfl⟩ hP hK hG hS [1] rfl rfl hl.1 rfl (Nat.le_of_ble_eq_true rfl) dX3_signAt_13 ⟨Nat.zero_le _, Nat.zero_le _⟩ ?_
      refine lv_goto (tgt := 20) hx hb dX3_signAt_16 (by decide) ?_
      exact zretR hx hb hr hlocks hf dX3_signAt_20
  exact kE
set_option maxHeartbeats 4000000 in
set_option maxRecDepth 100000 in
theorem kX3_groundOf (l : Launch) (dC : Nat → ClassId) (dI : Nat → Nat → Nat) (cy : ClassId) (x0 : Int32) (z : Int32) (hf : fX3_groundOf x0 = some z) : Met l yX3_groundOf (wsM yX3_groundOf cX3_groundOf 1 (some .int)) ({ frames := 0, cells := 0, slots := 0, locals := 0 } : Room) (va_Pc [.int x0] (pRO (dC, dI) vwCl [(cy, .int)] ([] : va_W))) (vp_Si (fun q => q = z)) 0 0 (fun _ => False) := by
  refine Met.ofW (cc := cX3_groundOf) (maxL := 1) (ret := (some .int)) (by decide) rfl ?_
  intro p e s m args below meth c s₁ B hml hv
  obtain ⟨ha, hP, hK, hG⟩ := hv
  have hx := B.exec
  have hb := B.bytes
  have hr := B.returns
  have hts : ∀ w ∈ wsA, w.before args s = true := fun w h => atoms_spec (ws := wsM yX3_groundOf cX3_groundOf 1 (some .int)) B.pre w (List.mem_cons_of_mem _ h)
  have hown : s.vm.findClass RX3 = some m.cls := findClass_of_methodNamed B.named
  have hlocks := B.notSynchronized
  have hS : va_S (fun _ => False) s.heap s.heap [] := va_S.rf
  obtain ⟨ls, hl, he⟩ := zent (m := m) (n := 1) (L := [(0, .int x0)]) ha (Nat.le_of_ble_eq_true rfl) rfl
  refine W.eq he ?_
  unfold fX3_groundOf at hf
  have kE : W p l e ({ frames := 0, cells := 0, slots := 0, locals := 0 } : Room) s m args below meth c s.heap [] 0 0 (MQ below (vp_Si (fun q => q = z)) args s 0 0 (fun _ => False)) (F0 m 0 ls []) := by
    refine lv_iload_n hx hb dX3_groundOf_0 rfl (lv_at hl 0 rfl) ?_
    refine lv_bipush (v := (35 : Int32)) hx hb dX3_groundOf_1 (by decide) ?_
    refine lv_icmp_ne (tgt := 8) hx hb dX3_groundOf_3 (by decide) (fun hc => ?_) (fun hc => ?_)
    · have hf := it_f hc hf
      refine lv_iload_n hx hb dX3_groundOf_8 rfl (lv_at hl 0 rfl) ?_
      refine lv_bipush (v := (98 : Int32)) hx hb dX3_groundOf_9 (by decide) ?_
      refine lv_icmp_ne (tgt := 17) hx hb dX3_groundOf_11 (by decide) (fun hc => ?_) (fun hc => ?_)
      · have hf := it_f hc hf
        refine lv_iload_n hx hb dX3_groundOf_17 rfl (lv_at hl 0 rfl) ?_
        refine lv_bipush (v := (46 : Int32)) hx hb dX3_groundOf_18 (by decide) ?_
        refine lv_icmp_ne (tgt := 26) hx hb dX3_groundOf_20 (by decide) (fun hc => ?_) (fun hc => ?_)
        · have hf := it_f hc hf
          refine lv_iload_n hx hb dX3_groundOf_26 rfl (lv_at hl 0 rfl) ?_
          refine lv_bipush (v := (49 : Int32)) hx hb dX3_groundOf_27 (by decide) ?_
          refine lv_icmp_lt (tgt := 45) hx hb dX3_groundOf_29 (by decide) (fun hc => ?_) (fun hc => ?_)
          · have hf := it_t hc hf
            refine lv_iconst (v := (-1 : Int32)) hx hb dX3_groundOf_45 (by decide) ?_
            exact zretR hx hb hr hlocks hf dX3_groundOf_46
          · have hf := it_f hc hf
            refine lv_iload_n hx hb dX3_groundOf_32 rfl (lv_at hl 0 rfl) ?_
            refine lv_bipush (v := (57 : Int32)) hx hb dX3_groundOf_33 (by decide) ?_
            refine lv_icmp_gt (tgt := 45) hx hb dX3_groundOf_35 (by decide) (fun hc => ?_) (fun hc => ?_)
            · have hf := it_t hc hf
              refine lv_iconst (v := (-1 : Int32)) hx hb dX3_groundOf_45 (by decide) ?_
              exact zretR hx hb hr hlocks hf dX3_groundOf_46
            · have hf := it_f hc hf
              refine lv_iload_n hx hb dX3_groundOf_38 rfl (lv_at hl 0 rfl) ?_
              refine lv_bipush (v := (48 : Int32)) hx hb dX3_groundOf_39 (by decide) ?_
              refine lv_isub hx hb dX3_groundOf_41 ?_
              refine lv_goto (tgt := 46) hx hb dX3_groundOf_42 (by decide) ?_
              exact zretR hx hb hr hlocks hf dX3_groundOf_46
        · have hf := it_t hc hf
          refine lv_bipush (v := (20 : Int32)) hx hb dX3_groundOf_23 (by decide) ?_
          exact zretR hx hb hr hlocks hf dX3_groundOf_25
      · have hf := it_t hc hf
        refine lv_bipush (v := (30 : Int32)) hx hb dX3_groundOf_14 (by decide) ?_
        exact zretR hx hb hr hlocks hf dX3_groundOf_16
    · have hf := it_t hc hf
      refine lv_iconst (v := (0 : Int32)) hx hb dX3_groundOf_6 (by decide) ?_
      exact zretR hx hb hr hlocks hf dX3_groundOf_7
  exact kE
set_option maxHeartbeats 4000000 in
set_option maxRecDepth 100000 in
theorem kX3_faultPlace (l : Launch) (dC : Nat → ClassId) (dI : Nat → Nat → Nat) (cy : ClassId) (h0 : Nat → Nat) (w0 : Nat → Nat → Int32) (z : Int32) (hf : fX3_faultPlace w0 = some z) : Met l yX3_faultPlace (wsM yX3_faultPlace cX3_faultPlace 7 (some .int)) ({ frames := 2, cells := 0, slots := 0, locals := 42 } : Room) (va_Pc [.ref (h0 0)] (pRO (dC, dI) vwCl [(cy, .int)] (zW_3 cy h0 w0))) (vp_Si (fun q => q = z)) 0 0 (fun _ => False) := by
  refine Met.ofW (cc := cX3_faultPlace) (maxL := 7) (ret := (some .int)) (by decide) rfl ?_
  intro p e s m args below meth c s₁ B hml hv
  obtain ⟨ha, hP, hK, hG⟩ := hv
  have hx := B.exec
  have hb := B.bytes
  have hr := B.returns
  have hts : ∀ w ∈ wsA, w.before args s = true := fun w h => atoms_spec (ws := wsM yX3_faultPlace cX3_faultPlace 7 (some .int)) B.pre w (List.mem_cons_of_mem _ h)
  have hown : s.vm.findClass RX3 = some m.cls := findClass_of_methodNamed B.named
  have hlocks := B.notSynchronized
  have hS : va_S (fun _ => False) s.heap s.heap [] := va_S.rf
  have k106 : ∀ (s10 : Int32 → Int32 → Int32 → Int32 → Option (Int32)) (hs10 : ∀ (x1 : Int32) (x2 : Int32) (x3 : Int32) (x4 : Int32) (ls : Array Slot), lv_has ls 7 [(0, .ref (h0 0)), (1, .int x1), (2, .int x2), (3, .int x3), (4, .int x4)] → s10 x1 x2 x3 x4 = some z → W p l e ({ frames := 2, cells := 0, slots := 0, locals := 42 } : Room) s m args below meth c s.heap [] 0 0 (MQ below (vp_Si (fun q => q = z)) args s 0 0 (fun _ => False)) (F0 m 10 ls [])), ∀ (x1 : Int32) (x2 : Int32) (x3 : Int32) (x4 : Int32) (ls : Array Slot), lv_has ls 7 [(0, .ref (h0 0)), (1, .int x1), (2, .int x2), (3, .int x3), (4, .int x4)] → (fX3_faultPlace_106 w0 s10) x1 x2 x3 x4 = some z → W p l e ({ frames := 2, cells := 0, slots := 0, locals := 42 } : Room) s m args below meth c s.heap [] 0 0 (MQ below (vp_Si (fun q => q = z)) args s 0 0 (fun _ => False)) (F0 m 106 ls []) := by
    intro s10 hs10
    intro x1 x2 x3 x4 ls hl hf
    unfold fX3_faultPlace_106 at hf
    refine lv_zinc (lv' := [(4, .int (x4 + (1 : Int32))), (0, .ref (h0 0)), (1, .int x1), (2, .int x2), (3, .int x3)]) hx hb dX3_faultPlace_106 hl (k := 4) rfl (v := (1 : Int32)) (by decide) (by decide) rfl (fun ls hl => ?_)
    refine lv_goto (tgt := 10) hx hb dX3_faultPlace_109 (by decide) ?_
    exact hs10 x1 x2 x3 (x4 + (1 : Int32)) ls (lv_sub hl [1, 2, 3, 4, 0] rfl) hf
  have k61 : ∀ (s10 : Int32 → Int32 → Int32 → Int32 → Option (Int32)) (hs10 : ∀ (x1 : Int32) (x2 : Int32) (x3 : Int32) (x4 : Int32) (ls : Array Slot), lv_has ls 7 [(0, .ref (h0 0)), (1, .int x1), (2, .int x2), (3, .int x3), (4, .int x4)] → s10 x1 x2 x3 x4 = some z → W p l e ({ frames := 2, cells := 0, slots := 0, locals := 42 } : Room) s m args below meth c s.heap [] 0 0 (MQ below (vp_Si (fun q => q = z)) args s 0 0 (fun _ => False)) (F0 m 10 ls [])), ∀ (x1 : Int32) (x3 : Int32) (x4 : Int32) (t0 : Int32) (ls : Array Slot), lv_has ls 7 [(0, .ref (h0 0)), (1, .int x1), (3, .int x3), (4, .int x4)] → (fX3_faultPlace_61 w0 s10) x1 x3 x4 t0 = some z → W p l e ({ frames := 2, cells := 0, slots := 0, locals := 42 } : Room) s m args below meth c s.heap [] 0 0 (MQ below (vp_Si (fun q => q = z)) args s 0 0 (fun _ => False)) (F0 m 61 ls [.int t0]) := by
    intro s10 hs10
    intro x1 x3 x4 t0 ls hl hf
    unfold fX3_faultPlace_61 at hf
    refine lv_istore (lv' := [(6, .int t0), (0, .ref (h0 0)), (1, .int x1), (3, .int x3), (4, .int x4)]) hx hb dX3_faultPlace_61 hl (by decide) rfl (fun ls hl => ?_)
    refine lv_iload hx hb dX3_faultPlace_63 (lv_at hl 0 rfl) ?_
    refine lv_if_eq (tgt := 74) hx hb dX3_faultPlace_65 (by decide) (fun hc => ?_) (fun hc => ?_)
    · have hf := it_t hc hf
      refine lv_iload hx hb dX3_faultPlace_74 (lv_at hl 4 rfl) ?_
      exact zretR hx hb hr hlocks hf dX3_faultPlace_76
    · have hf := it_f hc hf
      refine lv_iload_n hx hb dX3_faultPlace_68 rfl (lv_at hl 2 rfl) ?_
      refine lv_bipush (v := (7 : Int32)) hx hb dX3_faultPlace_69 (by decide) ?_
      refine lv_icmp_ne (tgt := 77) hx hb dX3_faultPlace_71 (by decide) (fun hc => ?_) (fun hc => ?_)
      · have hf := it_f hc hf
        refine lv_iload_n hx hb dX3_faultPlace_77 rfl (lv_at hl 3 rfl) ?_
        refine lv_istore_n (lv' := [(2, .int x3), (6, .int t0), (0, .ref (h0 0)), (1, .int x1), (3, .int x3), (4, .int x4)]) hx hb dX3_faultPlace_78 rfl hl (by decide) rfl (fun ls hl => ?_)
        refine lv_zinc (lv' := [(1, .int (x1 + (1 : Int32))), (2, .int x3), (6, .int t0), (0, .ref (h0 0)), (3, .int x3), (4, .int x4)]) hx hb dX3_faultPlace_79 hl (k := 3) rfl (v := (1 : Int32)) (by decide) (by decide) rfl (fun ls hl => ?_)
        refine lv_iconst (v := (0 : Int32)) hx hb dX3_faultPlace_82 (by decide) ?_
        refine lv_istore_n (lv' := [(3, .int (0 : Int32)), (1, .int (x1 + (1 : Int32))), (2, .int x3), (6, .int t0), (0, .ref (h0 0)), (4, .int x4)]) hx hb dX3_faultPlace_83 rfl hl (by decide) rfl (fun ls hl => ?_)
        refine lv_goto (tgt := 106) hx hb dX3_faultPlace_84 (by decide) ?_
        exact k106 s10 hs10 (x1 + (1 : Int32)) x3 (0 : Int32) x4 ls (lv_sub hl [4, 1, 2, 0, 5] rfl) hf
      · have hf := it_t hc hf
        refine lv_iload hx hb dX3_faultPlace_74 (lv_at hl 4 rfl) ?_
        exact zretR hx hb hr hlocks hf dX3_faultPlace_76
  have k10 : ∀ n : Nat, ∀ (x1 : Int32) (x2 : Int32) (x3 : Int32) (x4 : Int32) (ls : Array Slot), lv_has ls 7 [(0, .ref (h0 0)), (1, .int x1), (2, .int x2), (3, .int x3), (4, .int x4)] → (zl4 (fX3_faultPlace_10 w0) n) x1 x2 x3 x4 = some z → W p l e ({ frames := 2, cells := 0, slots := 0, locals := 42 } : Room) s m args below meth c s.heap [] 0 0 (MQ below (vp_Si (fun q => q = z)) args s 0 0 (fun _ => False)) (F0 m 10 ls []) := by
    intro n
    induction n with
    | zero =>
      intro x1 x2 x3 x4 ls hl hf
      exact z_no hf
    | succ n hs10 =>
      intro x1 x2 x3 x4 ls hl hf
      have hf : fX3_faultPlace_10 w0 (zl4 (fX3_faultPlace_10 w0) n) x1 x2 x3 x4 = some z := hf
      generalize zl4 (fX3_faultPlace_10 w0) n = s10 at hs10 hf
      unfold fX3_faultPlace_10 at hf
      refine lv_iload hx hb dX3_faultPlace_10 (lv_at hl 4 rfl) ?_
      refine lv_aload_n hx hb dX3_faultPlace_12 rfl (lv_at hl 0 rfl) ?_
      refine zget hx hb hts hown hK hP hin_3 0 rfl rfl 1 (by decide) mw_25 (v := .int (w0 0 1)) rfl dX3_faultPlace_13 ?_
      refine lv_icmp_ge (tgt := 112) hx hb dX3_faultPlace_16 (by decide) (fun hc => ?_) (fun hc => ?_)
      · have hf := it_t hc hf
        refine lv_iload_n hx hb dX3_faultPlace_112 rfl (lv_at hl 1 rfl) ?_
        refine lv_iconst (v := (1 : Int32)) hx hb dX3_faultPlace_113 (by decide) ?_
        refine lv_iadd hx hb dX3_faultPlace_114 ?_
        refine lv_iconst (v := (2 : Int32)) hx hb dX3_faultPlace_115 (by decide) ?_
        refine lv_icmp_lt (tgt := 128) hx hb dX3_faultPlace_116 (by decide) (fun hc => ?_) (fun hc => ?_)
        · have hf := it_t hc hf
          refine lv_aload_n hx hb dX3_faultPlace_128 rfl (lv_at hl 0 rfl) ?_
          refine zget hx hb hts hown hK hP hin_3 0 rfl rfl 1 (by decide) mw_25 (v := .int (w0 0 1)) rfl dX3_faultPlace_129 ?_
          exact zretR hx hb hr hlocks hf dX3_faultPlace_132
        · have hf := it_f hc hf
          refine lv_iload_n hx hb dX3_faultPlace_119 rfl (lv_at hl 3 rfl) ?_
          refine lv_iload_n hx hb dX3_faultPlace_120 rfl (lv_at hl 2 rfl) ?_
          refine lv_icmp_ne (tgt := 128) hx hb dX3_faultPlace_121 (by decide) (fun hc => ?_) (fun hc => ?_)
          · have hf := it_f hc hf
            refine lv_aload_n hx hb dX3_faultPlace_128 rfl (lv_at hl 0 rfl) ?_
            refine zget hx hb hts hown hK hP hin_3 0 rfl rfl 1 (by decide) mw_25 (v := .int (w0 0 1)) rfl dX3_faultPlace_129 ?_
            exact zretR hx hb hr hlocks hf dX3_faultPlace_132
          · have hf := it_t hc hf
            refine lv_iconst (v := (-1 : Int32)) hx hb dX3_faultPlace_124 (by decide) ?_
            refine lv_goto (tgt := 132) hx hb dX3_faultPlace_125 (by decide) ?_
            exact zretR hx hb hr hlocks hf dX3_faultPlace_132
      · have hf := it_f hc hf
        refine lv_aload_n hx hb dX3_faultPlace_19 rfl (lv_at hl 0 rfl) ?_
        refine lv_iload hx hb dX3_faultPlace_20 (lv_at hl 4 rfl) ?_
        obtain ⟨r2, hq1, hf⟩ := ob1_d hf
        refine zroV (q := (RX3, TX3, 2)) (As := [.int x4]) (rest := []) (r := r2) ⟨hx, hb, hml, hown, hts⟩ (kX3_signAt l dC dI cy h0 w0 x4 r2 hq1) mw_180 mw_181 mw_182 mw_2 mw_183 hdX3_signAt rfl rfl ⟨Nat.le_of_ble_eq_true rfl, Nat.le_of_ble_eq_true rfl⟩ hP hK hG hS 0 rfl rfl [0, 1] rfl rfl hl.1 rfl (Nat.le_of_ble_eq_true rfl) dX3_faultPlace_22 ⟨Nat.zero_le _, Nat.zero_le _⟩ ?_
        refine lv_istore (lv' := [(5, .int r2), (0, .ref (h0 0)), (1, .int x1), (2, .int x2), (3, .int x3), (4, .int x4)]) hx hb dX3_faultPlace_25 hl (by decide) rfl (fun ls hl => ?_)
        refine lv_iload hx hb dX3_faultPlace_27 (lv_at hl 0 rfl) ?_
        refine lv_bipush (v := (47 : Int32)) hx hb dX3_faultPlace_29 (by decide) ?_
        refine lv_icmp_ne (tgt := 87) hx hb dX3_faultPlace_31 (by decide) (fun hc => ?_) (fun hc => ?_)
        · have hf := it_f hc hf
          refine lv_iload hx hb dX3_faultPlace_87 (lv_at hl 0 rfl) ?_
          obtain ⟨r4, hq3, hf⟩ := ob1_d hf
          refine zroS (As := [.int r2]) (rest := []) (r := r4) ⟨hx, hb, hml, hown, hts⟩ (kX3_groundOf l dC dI cy r2 r4 hq3) mw_186 mw_187 mw_2 mw_188 hdX3_groundOf rfl rfl ⟨Nat.le_of_ble_eq_true rfl, Nat.le_of_ble_eq_true rfl⟩ hP hK hG hS [] rfl rfl hl.1 rfl (Nat.le_of_ble_eq_true rfl) dX3_faultPlace_89 ⟨Nat.zero_le _, Nat.zero_le _⟩ ?_
          refine lv_if_lt (tgt := 100) hx hb dX3_faultPlace_92 (by decide) (fun hc => ?_) (fun hc => ?_)
          · have hf := it_t hc hf
            refine lv_iload hx hb dX3_faultPlace_100 (lv_at hl 5 rfl) ?_
            exact zretR hx hb hr hlocks hf dX3_faultPlace_102
          · have hf := it_f hc hf
            refine lv_iload_n hx hb dX3_faultPlace_95 rfl (lv_at hl 4 rfl) ?_
            refine lv_iload_n hx hb dX3_faultPlace_96 rfl (lv_at hl 3 rfl) ?_
            refine lv_icmp_ne (tgt := 103) hx hb dX3_faultPlace_97 (by decide) (fun hc => ?_) (fun hc => ?_)
            · have hf := it_f hc hf
              refine lv_zinc (lv' := [(3, .int (x3 + (1 : Int32))), (5, .int r2), (0, .ref (h0 0)), (1, .int x1), (2, .int x2), (4, .int x4)]) hx hb dX3_faultPlace_103 hl (k := 4) rfl (v := (1 : Int32)) (by decide) (by decide) rfl (fun ls hl => ?_)
              exact k106 s10 hs10 x1 x2 (x3 + (1 : Int32)) x4 ls (lv_sub hl [2, 3, 4, 0, 5] rfl) hf
            · have hf := it_t hc hf
              refine lv_iload hx hb dX3_faultPlace_100 (lv_at hl 5 rfl) ?_
              exact zretR hx hb hr hlocks hf dX3_faultPlace_102
        · have hf := it_t hc hf
          refine lv_iload_n hx hb dX3_faultPlace_34 rfl (lv_at hl 2 rfl) ?_
          refine lv_if_ne (tgt := 51) hx hb dX3_faultPlace_35 (by decide) (fun hc => ?_) (fun hc => ?_)
          · have hf := it_f hc hf
            refine lv_iload_n hx hb dX3_faultPlace_51 rfl (lv_at hl 4 rfl) ?_
            refine lv_iload_n hx hb dX3_faultPlace_52 rfl (lv_at hl 3 rfl) ?_
            refine lv_icmp_ne (tgt := 60) hx hb dX3_faultPlace_53 (by decide) (fun hc => ?_) (fun hc => ?_)
            · have hf := it_f hc hf
              refine lv_iconst (v := (0 : Int32)) hx hb dX3_faultPlace_60 (by decide) ?_
              exact k61 s10 hs10 x1 x3 x4 (0 : Int32) ls (lv_sub hl [1, 2, 4, 5] rfl) hf
            · have hf := it_t hc hf
              refine lv_iconst (v := (1 : Int32)) hx hb dX3_faultPlace_56 (by decide) ?_
              refine lv_goto (tgt := 61) hx hb dX3_faultPlace_57 (by decide) ?_
              exact k61 s10 hs10 x1 x3 x4 (1 : Int32) ls (lv_sub hl [1, 2, 4, 5] rfl) hf
          · have hf := it_t hc hf
            refine lv_iload_n hx hb dX3_faultPlace_38 rfl (lv_at hl 4 rfl) ?_
            refine lv_iconst (v := (2 : Int32)) hx hb dX3_faultPlace_39 (by decide) ?_
            refine lv_icmp_lt (tgt := 47) hx hb dX3_faultPlace_40 (by decide) (fun hc => ?_) (fun hc => ?_)
            · have hf := it_t hc hf
              refine lv_iconst (v := (0 : Int32)) hx hb dX3_faultPlace_47 (by decide) ?_
              refine lv_goto (tgt := 61) hx hb dX3_faultPlace_48 (by decide) ?_
              exact k61 s10 hs10 x1 x3 x4 (0 : Int32) ls (lv_sub hl [1, 2, 4, 5] rfl) hf
            · have hf := it_f hc hf
              refine lv_iconst (v := (1 : Int32)) hx hb dX3_faultPlace_43 (by decide) ?_
              refine lv_goto (tgt := 61) hx hb dX3_faultPlace_44 (by decide) ?_
              exact k61 s10 hs10 x1 x3 x4 (1 : Int32) ls (lv_sub hl [1, 2, 4, 5] rfl) hf
  obtain ⟨ls, hl, he⟩ := zent (m := m) (n := 7) (L := [(0, .ref (h0 0))]) ha (Nat.le_of_ble_eq_true rfl) rfl
  refine W.eq he ?_
  unfold fX3_faultPlace at hf
  have kE : W p l e ({ frames := 2, cells := 0, slots := 0, locals := 42 } : Room) s m args below meth c s.heap [] 0 0 (MQ below (vp_Si (fun q => q = z)) args s 0 0 (fun _ => False)) (F0 m 0 ls []) := by
    refine lv_iconst (v := (0 : Int32)) hx hb dX3_faultPlace_0 (by decide) ?_
    refine lv_istore_n (lv' := [(1, .int (0 : Int32)), (0, .ref (h0 0))]) hx hb dX3_faultPlace_1 rfl hl (by decide) rfl (fun ls hl => ?_)
    refine lv_bipush (v := (8 : Int32)) hx hb dX3_faultPlace_2 (by decide) ?_
    refine lv_istore_n (lv' := [(2, .int (8 : Int32)), (1, .int (0 : Int32)), (0, .ref (h0 0))]) hx hb dX3_faultPlace_4 rfl hl (by decide) rfl (fun ls hl => ?_)
    refine lv_iconst (v := (0 : Int32)) hx hb dX3_faultPlace_5 (by decide) ?_
    refine lv_istore_n (lv' := [(3, .int (0 : Int32)), (2, .int (8 : Int32)), (1, .int (0 : Int32)), (0, .ref (h0 0))]) hx hb dX3_faultPlace_6 rfl hl (by decide) rfl (fun ls hl => ?_)
    refine lv_iconst (v := (0 : Int32)) hx hb dX3_faultPlace_7 (by decide) ?_
    refine lv_istore (lv' := [(4, .int (0 : Int32)), (3, .int (0 : Int32)), (2, .int (8 : Int32)), (1, .int (0 : Int32)), (0, .ref (h0 0))]) hx hb dX3_faultPlace_8 hl (by decide) rfl (fun ls hl => ?_)
    exact k10 zFU (0 : Int32) (8 : Int32) (0 : Int32) (0 : Int32) ls (lv_sub hl [4, 3, 2, 1, 0] rfl) hf
  exact kE
set_option maxHeartbeats 4000000 in
set_option maxRecDepth 100000 in
theorem kX3_forget (l : Launch) (dC : Nat → ClassId) (dI : Nat → Nat → Nat) (cy : ClassId) (h0 : Nat → Nat) (w0 : Nat → Nat → Int32) (sz : Nat) (z : (Nat → Int32)) (hf : fX3_forget w0 = some z) : Met l yX3_forget (wsM yX3_forget cX3_forget 1 none) ({ frames := 0, cells := 0, slots := 0, locals := 0 } : Room) (va_Pc [.ref (h0 0)] (pWR (dC, dI) vwCl [(cy, .int)] (zW_3 cy h0 w0) sz)) (va_Qv (fun (v : (Nat → Int32)) => v = z) (fun v => aWR (dC, dI) vwCl [(cy, .int)] (va_A (zW_3 cy h0 w0) sz) (zW_3 cy h0 (ups w0 0 v))) (va_A (zW_3 cy h0 w0) sz)) 0 0 (va_A (zW_3 cy h0 w0) sz) := by
  refine Met.ofW (cc := cX3_forget) (maxL := 1) (ret := none) (by decide) rfl ?_
  intro p e s m args below meth c s₁ B hml hv
  obtain ⟨ha, hsz, hP, hK, hD0, hG⟩ := hv
  have hx := B.exec
  have hb := B.bytes
  have hr := B.returns
  have hts : ∀ w ∈ wsA, w.before args s = true := fun w h => atoms_spec (ws := wsM yX3_forget cX3_forget 1 none) B.pre w (List.mem_cons_of_mem _ h)
  have hown : s.vm.findClass RX3 = some m.cls := findClass_of_methodNamed B.named
  have hlocks := B.notSynchronized
  subst hsz
  have hD := hD0.self (sz := s.heap.size)
  generalize hAe : va_A (zW_3 cy h0 w0) s.heap.size = A at hD hG ⊢
  have hA : ∀ q : Nat, s.heap.size ≤ q → A q := fun q h => by rw [← hAe]; exact Or.inr h
  have hS : va_S A s.heap s.heap [] := va_S.rf
  have hP : va_P (dC, dI) vwCl (zW_3 cy h0 (ups w0 0 (w0 0))) s.heap := hP
  have hD : va_D A (zW_3 cy h0 (ups w0 0 (w0 0))) := hD
  obtain ⟨ls, hl, he⟩ := zent (m := m) (n := 1) (L := [(0, .ref (h0 0))]) ha (Nat.le_of_ble_eq_true rfl) rfl
  refine W.eq he ?_
  unfold fX3_forget at hf
  have kE : ∀ (H : Heap) (locs : List Loc), va_P (dC, dI) vwCl (zW_3 cy h0 (ups w0 0 (w0 0))) H → va_D A (zW_3 cy h0 (ups w0 0 (w0 0))) → va_S A s.heap H locs → W p l e ({ frames := 0, cells := 0, slots := 0, locals := 0 } : Room) s m args below meth c H locs 0 0 (MQ below (va_Qv (fun (v : (Nat → Int32)) => v = z) (fun v => aWR (dC, dI) vwCl [(cy, .int)] A (zW_3 cy h0 (ups w0 0 v))) A) args s 0 0 A) (F0 m 0 ls []) := by
    intro H locs hP hD hS
    refine lv_aload_n hx hb dX3_forget_0 rfl (lv_at hl 0 rfl) ?_
    refine lv_iconst (v := (0 : Int32)) hx hb dX3_forget_1 (by decide) ?_
    refine zput hx hb hts hown hK hP hD hS hin_3 tyX3 tyX3_ok nmX3 0 rfl rfl 1 (by decide) mw_25 rfl (v := .int (0 : Int32)) rfl rfl (Nat.le_of_ble_eq_true rfl) (wn := (zW_3 cy h0 (ups w0 0 (ups (w0 0) 1 (0 : Int32))))) rfl dX3_forget_2 (fun H locs hP hD hS => ?_)
    exact zretV hx hb hr hlocks hP hK hD hS hf rfl dX3_forget_5
  exact kE s.heap [] hP hD hS
set_option maxHeartbeats 4000000 in
set_option maxRecDepth 100000 in
theorem kX1_draw (l : Launch) (dC : Nat → ClassId) (dI : Nat → Nat → Nat) (cy : ClassId) (h0 : Nat → Nat) (w0 : Nat → Nat → Int32) (h1 : Nat → Nat) (w1 : Nat → Nat → Int32) (sz : Nat) (z : (Nat → Int32) × (Nat → Int32)) (hf : fX1_draw w0 w1 = some z) : Met l yX1_draw (wsM yX1_draw cX1_draw 5 none) ({ frames := 2, cells := 0, slots := 0, locals := 42 } : Room) (va_Pc [.ref (h0 0), .ref (h1 0)] (pWR (dC, dI) vwCl [(cy, .int)] (zW_13 cy h0 w0 h1 w1) sz)) (va_Qv (fun (v : (Nat → Int32) × (Nat → Int32)) => v = z) (fun v => aWR (dC, dI) vwCl [(cy, .int)] (va_A (zW_13 cy h0 w0 h1 w1) sz) (zW_13 cy h0 (ups (ups w0 0 v.1) 1 v.2) h1 w1)) (va_A (zW_13 cy h0 w0 h1 w1) sz)) 0 0 (va_A (zW_13 cy h0 w0 h1 w1) sz) := by
  refine Met.ofW (cc := cX1_draw) (maxL := 5) (ret := none) (by decide) rfl ?_
  intro p e s m args below meth c s₁ B hml hv
  obtain ⟨ha, hsz, hP, hK, hD0, hG⟩ := hv
  have hx := B.exec
  have hb := B.bytes
  have hr := B.returns
  have hts : ∀ w ∈ wsA, w.before args s = true := fun w h => atoms_spec (ws := wsM yX1_draw cX1_draw 5 none) B.pre w (List.mem_cons_of_mem _ h)
  have hown : s.vm.findClass RX1 = some m.cls := findClass_of_methodNamed B.named
  have hlocks := B.notSynchronized
  subst hsz
  have hD := hD0.self (sz := s.heap.size)
  generalize hAe : va_A (zW_13 cy h0 w0 h1 w1) s.heap.size = A at hD hG ⊢
  have hA : ∀ q : Nat, s.heap.size ≤ q → A q := fun q h => by rw [← hAe]; exact Or.inr h
  have hS : va_S A s.heap s.heap [] := va_S.rf
  have hP : va_P (dC, dI) vwCl (zW_13 cy h0 (ups (ups w0 0 (w0 0)) 1 (w0 1)) h1 w1) s.heap := hP
  have hD : va_D A (zW_13 cy h0 (ups (ups w0 0 (w0 0)) 1 (w0 1)) h1 w1) := hD
  have k89 : ∀ (c0_0 : (Nat → Int32)) (c0_1 : (Nat → Int32)) (t1 : Int32) (H : Heap) (locs : List Loc) (ls : Array Slot), va_P (dC, dI) vwCl (zW_13 cy h0 (ups (ups w0 0 c0_0) 1 c0_1) h1 w1) H → va_D A (zW_13 cy h0 (ups (ups w0 0 c0_0) 1 c0_1) h1 w1) → va_S A s.heap H locs → lv_has ls 5 [] → (fX1_draw_89 w0 w1) c0_0 c0_1 t1 = some z → W p l e ({ frames := 2, cells := 0, slots := 0, locals := 42 } : Room) s m args below meth c H locs 0 0 (MQ below (va_Qv (fun (v : (Nat → Int32) × (Nat → Int32)) => v = z) (fun v => aWR (dC, dI) vwCl [(cy, .int)] A (zW_13 cy h0 (ups (ups w0 0 v.1) 1 v.2) h1 w1)) A) args s 0 0 A) (F0 m 89 ls [.int t1, .ref (h0 0)]) := by
    intro c0_0 c0_1 t1 H locs ls hP hD hS hl hf
    unfold fX1_draw_89 at hf
    refine zput hx hb hts hown hK hP hD hS hin_1 tyX1 tyX1_ok nmX1 0 rfl rfl 2 (by decide) mw_41 rfl (v := .int t1) rfl rfl (Nat.le_of_ble_eq_true rfl) (wn := (zW_13 cy h0 (ups (ups w0 0 (ups c0_0 2 t1)) 1 c0_1) h1 w1)) rfl dX1_draw_89 (fun H locs hP hD hS => ?_)
    exact zretV hx hb hr hlocks hP hK hD hS hf rfl dX1_draw_92
  have k65 : ∀ (s9 : (Nat → Int32) → (Nat → Int32) → Int32 → Int32 → Option ((Nat → Int32) × (Nat → Int32))) (hs9 : ∀ (c0_0 : (Nat → Int32)) (c0_1 : (Nat → Int32)) (x2 : Int32) (x3 : Int32) (H : Heap) (locs : List Loc) (ls : Array Slot), va_P (dC, dI) vwCl (zW_13 cy h0 (ups (ups w0 0 c0_0) 1 c0_1) h1 w1) H → va_D A (zW_13 cy h0 (ups (ups w0 0 c0_0) 1 c0_1) h1 w1) → va_S A s.heap H locs → lv_has ls 5 [(0, .ref (h0 0)), (1, .ref (h1 0)), (2, .int x2), (3, .int x3)] → s9 c0_0 c0_1 x2 x3 = some z → W p l e ({ frames := 2, cells := 0, slots := 0, locals := 42 } : Room) s m args below meth c H locs 0 0 (MQ below (va_Qv (fun (v : (Nat → Int32) × (Nat → Int32)) => v = z) (fun v => aWR (dC, dI) vwCl [(cy, .int)] A (zW_13 cy h0 (ups (ups w0 0 v.1) 1 v.2) h1 w1)) A) args s 0 0 A) (F0 m 9 ls [])), ∀ (c0_0 : (Nat → Int32)) (c0_1 : (Nat → Int32)) (x2 : Int32) (x3 : Int32) (H : Heap) (locs : List Loc) (ls : Array Slot), va_P (dC, dI) vwCl (zW_13 cy h0 (ups (ups w0 0 c0_0) 1 c0_1) h1 w1) H → va_D A (zW_13 cy h0 (ups (ups w0 0 c0_0) 1 c0_1) h1 w1) → va_S A s.heap H locs → lv_has ls 5 [(0, .ref (h0 0)), (1, .ref (h1 0)), (2, .int x2), (3, .int x3)] → (fX1_draw_65 w0 w1 s9) c0_0 c0_1 x2 x3 = some z → W p l e ({ frames := 2, cells := 0, slots := 0, locals := 42 } : Room) s m args below meth c H locs 0 0 (MQ below (va_Qv (fun (v : (Nat → Int32) × (Nat → Int32)) => v = z) (fun v => aWR (dC, dI) vwCl [(cy, .int)] A (zW_13 cy h0 (ups (ups w0 0 v.1) 1 v.2) h1 w1)) A) args s 0 0 A) (F0 m 65 ls []) := by
    intro s9 hs9
    intro c0_0 c0_1 x2 x3 H locs ls hP hD hS hl hf
    unfold fX1_draw_65 at hf
    refine lv_zinc (lv' := [(3, .int (x3 + (1 : Int32))), (0, .ref (h0 0)), (1, .ref (h1 0)), (2, .int x2)]) hx hb dX1_draw_65 hl (k := 3) rfl (v := (1 : Int32)) (by decide) (by decide) rfl (fun ls hl => ?_)
    refine lv_goto (tgt := 9) hx hb dX1_draw_68 (by decide) ?_
    exact hs9 c0_0 c0_1 x2 (x3 + (1 : Int32)) H locs ls hP hD hS (lv_sub hl [1, 2, 3, 0] rfl) hf
  have k9 : ∀ n : Nat, ∀ (c0_0 : (Nat → Int32)) (c0_1 : (Nat → Int32)) (x2 : Int32) (x3 : Int32) (H : Heap) (locs : List Loc) (ls : Array Slot), va_P (dC, dI) vwCl (zW_13 cy h0 (ups (ups w0 0 c0_0) 1 c0_1) h1 w1) H → va_D A (zW_13 cy h0 (ups (ups w0 0 c0_0) 1 c0_1) h1 w1) → va_S A s.heap H locs → lv_has ls 5 [(0, .ref (h0 0)), (1, .ref (h1 0)), (2, .int x2), (3, .int x3)] → (zl4 (fX1_draw_9 w0 w1) n) c0_0 c0_1 x2 x3 = some z → W p l e ({ frames := 2, cells := 0, slots := 0, locals := 42 } : Room) s m args below meth c H locs 0 0 (MQ below (va_Qv (fun (v : (Nat → Int32) × (Nat → Int32)) => v = z) (fun v => aWR (dC, dI) vwCl [(cy, .int)] A (zW_13 cy h0 (ups (ups w0 0 v.1) 1 v.2) h1 w1)) A) args s 0 0 A) (F0 m 9 ls []) := by
    intro n
    induction n with
    | zero =>
      intro c0_0 c0_1 x2 x3 H locs ls hP hD hS hl hf
      exact z_no hf
    | succ n hs9 =>
      intro c0_0 c0_1 x2 x3 H locs ls hP hD hS hl hf
      have hf : fX1_draw_9 w0 w1 (zl4 (fX1_draw_9 w0 w1) n) c0_0 c0_1 x2 x3 = some z := hf
      generalize zl4 (fX1_draw_9 w0 w1) n = s9 at hs9 hf
      unfold fX1_draw_9 at hf
      refine lv_iload_n hx hb dX1_draw_9 rfl (lv_at hl 3 rfl) ?_
      refine lv_aload_n hx hb dX1_draw_10 rfl (lv_at hl 1 rfl) ?_
      refine zgetN hx hb hts hG hown hK hP hin_3 2 rfl rfl 1 (by decide) (host := "Embayed") (List.mem_of_getElem? (i := 21) rfl) (v := .int (w1 0 1)) rfl dX1_draw_11 ?_
      refine lv_icmp_ge (tgt := 71) hx hb dX1_draw_14 (by decide) (fun hc => ?_) (fun hc => ?_)
      · have hf := it_t hc hf
        refine lv_aload_n hx hb dX1_draw_71 rfl (lv_at hl 0 rfl) ?_
        refine lv_aload_n hx hb dX1_draw_72 rfl (lv_at hl 0 rfl) ?_
        refine zget hx hb hts hown hK hP hin_1 0 rfl rfl 1 (by decide) mw_40 (v := .int (c0_0 1)) rfl dX1_draw_73 ?_
        refine lv_if_le (tgt := 88) hx hb dX1_draw_76 (by decide) (fun hc => ?_) (fun hc => ?_)
        · have hf := it_t hc hf
          refine lv_iconst (v := (0 : Int32)) hx hb dX1_draw_88 (by decide) ?_
          exact k89 c0_0 c0_1 (0 : Int32) H locs ls hP hD hS (lv_sub hl [] rfl) hf
        · have hf := it_f hc hf
          refine lv_iload_n hx hb dX1_draw_79 rfl (lv_at hl 2 rfl) ?_
          refine lv_aload_n hx hb dX1_draw_80 rfl (lv_at hl 0 rfl) ?_
          refine zget hx hb hts hown hK hP hin_1 0 rfl rfl 1 (by decide) mw_40 (v := .int (c0_0 1)) rfl dX1_draw_81 ?_
          obtain ⟨hne1, hf⟩ := dv_d hf
          refine lv_idiv hx hb dX1_draw_84 hne1 ?_
          refine lv_goto (tgt := 89) hx hb dX1_draw_85 (by decide) ?_
          exact k89 c0_0 c0_1 (x2 / (c0_0 1)) H locs ls hP hD hS (lv_sub hl [] rfl) hf
      · have hf := it_f hc hf
        refine lv_aload_n hx hb dX1_draw_17 rfl (lv_at hl 1 rfl) ?_
        refine lv_iload_n hx hb dX1_draw_18 rfl (lv_at hl 3 rfl) ?_
        obtain ⟨r3, hq2, hf⟩ := ob1_d hf
        refine zroV (q := (RX3, TX3, 2)) (As := [.int x3]) (rest := []) (r := r3) ⟨hx, hb, hml, hown, hts⟩ (kX3_signAt l dC dI cy h1 w1 x3 r3 hq2) mw_197 mw_181 mw_182 mw_2 mw_183 hdX3_signAt rfl rfl ⟨Nat.le_of_ble_eq_true rfl, Nat.le_of_ble_eq_true rfl⟩ hP hK hG hS 2 rfl rfl [2, 3] rfl rfl hl.1 rfl (Nat.le_of_ble_eq_true rfl) dX1_draw_19 ⟨Nat.zero_le _, Nat.zero_le _⟩ ?_
        obtain ⟨r5, hq4, hf⟩ := ob1_d hf
        refine zroS (As := [.int r3]) (rest := []) (r := r5) ⟨hx, hb, hml, hown, hts⟩ (kX3_groundOf l dC dI cy r3 r5 hq4) mw_198 mw_187 mw_2 mw_188 hdX3_groundOf rfl rfl ⟨Nat.le_of_ble_eq_true rfl, Nat.le_of_ble_eq_true rfl⟩ hP hK hG hS [] rfl rfl hl.1 rfl (Nat.le_of_ble_eq_true rfl) dX1_draw_22 ⟨Nat.zero_le _, Nat.zero_le _⟩ ?_
        refine lv_istore (lv' := [(4, .int r5), (0, .ref (h0 0)), (1, .ref (h1 0)), (2, .int x2), (3, .int x3)]) hx hb dX1_draw_25 hl (by decide) rfl (fun ls hl => ?_)
        refine lv_iload hx hb dX1_draw_27 (lv_at hl 0 rfl) ?_
        refine lv_if_ge (tgt := 45) hx hb dX1_draw_29 (by decide) (fun hc => ?_) (fun hc => ?_)
        · have hf := it_t hc hf
          refine lv_iload_n hx hb dX1_draw_45 rfl (lv_at hl 3 rfl) ?_
          refine lv_aload_n hx hb dX1_draw_46 rfl (lv_at hl 1 rfl) ?_
          refine zget hx hb hts hown hK hP hin_1 0 rfl rfl 0 (by decide) mw_39 (v := .ref (h0 1)) rfl dX1_draw_47 ?_
          refine va_alen hx hb hK hP 1 0 rfl rfl (v := (64 : Int32)) (show Int32.ofNat 64 = (64 : Int32) from by decide) dX1_draw_50 ?_
          refine lv_icmp_ge (tgt := 65) hx hb dX1_draw_51 (by decide) (fun hc => ?_) (fun hc => ?_)
          · have hf := it_t hc hf
            exact k65 s9 hs9 c0_0 c0_1 x2 x3 H locs ls hP hD hS (lv_sub hl [1, 2, 3, 4] rfl) hf
          · have hf := it_f hc hf
            refine lv_aload_n hx hb dX1_draw_54 rfl (lv_at hl 1 rfl) ?_
            refine zget hx hb hts hown hK hP hin_1 0 rfl rfl 0 (by decide) mw_39 (v := .ref (h0 1)) rfl dX1_draw_55 ?_
            refine lv_iload_n hx hb dX1_draw_58 rfl (lv_at hl 3 rfl) ?_
            refine lv_iload hx hb dX1_draw_59 (lv_at hl 0 rfl) ?_
            obtain ⟨hin6, hf⟩ := gd_d hf
            obtain ⟨g7, hg7, hf⟩ := nm_d hf
            refine zast hx hb hK hP hD hS 1 (wn := (zW_13 cy h0 (ups (ups w0 0 c0_0) 1 g7) h1 w1)) hg7 rfl rfl hin6 rfl dX1_draw_61 (fun H locs hP hD hS => ?_)
            refine lv_zinc (lv' := [(2, .int (x2 + (1 : Int32))), (4, .int r5), (0, .ref (h0 0)), (1, .ref (h1 0)), (3, .int x3)]) hx hb dX1_draw_62 hl (k := 3) rfl (v := (1 : Int32)) (by decide) (by decide) rfl (fun ls hl => ?_)
            exact k65 s9 hs9 c0_0 g7 (x2 + (1 : Int32)) x3 H locs ls hP hD hS (lv_sub hl [2, 3, 0, 4] rfl) hf
        · have hf := it_f hc hf
          refine lv_aload_n hx hb dX1_draw_32 rfl (lv_at hl 1 rfl) ?_
          refine lv_dup hx hb dX1_draw_33 rfl ?_
          refine zget hx hb hts hown hK hP hin_1 0 rfl rfl 1 (by decide) mw_40 (v := .int (c0_0 1)) rfl dX1_draw_34 ?_
          refine lv_iconst (v := (1 : Int32)) hx hb dX1_draw_37 (by decide) ?_
          refine lv_iadd hx hb dX1_draw_38 ?_
          refine zput hx hb hts hown hK hP hD hS hin_1 tyX1 tyX1_ok nmX1 0 rfl rfl 1 (by decide) mw_40 rfl (v := .int ((c0_0 1) + (1 : Int32))) rfl rfl (Nat.le_of_ble_eq_true rfl) (wn := (zW_13 cy h0 (ups (ups w0 0 (ups c0_0 1 ((c0_0 1) + (1 : Int32)))) 1 c0_1) h1 w1)) rfl dX1_draw_39 (fun H locs hP hD hS => ?_)
          refine lv_goto (tgt := 65) hx hb dX1_draw_42 (by decide) ?_
          exact k65 s9 hs9 (ups c0_0 1 ((c0_0 1) + (1 : Int32))) c0_1 x2 x3 H locs ls hP hD hS (lv_sub hl [1, 2, 3, 4] rfl) hf
  obtain ⟨ls, hl, he⟩ := zent (m := m) (n := 5) (L := [(0, .ref (h0 0)), (1, .ref (h1 0))]) ha (Nat.le_of_ble_eq_true rfl) rfl
  refine W.eq he ?_
  unfold fX1_draw at hf
  have kE : ∀ (H : Heap) (locs : List Loc), va_P (dC, dI) vwCl (zW_13 cy h0 (ups (ups w0 0 (w0 0)) 1 (w0 1)) h1 w1) H → va_D A (zW_13 cy h0 (ups (ups w0 0 (w0 0)) 1 (w0 1)) h1 w1) → va_S A s.heap H locs → W p l e ({ frames := 2, cells := 0, slots := 0, locals := 42 } : Room) s m args below meth c H locs 0 0 (MQ below (va_Qv (fun (v : (Nat → Int32) × (Nat → Int32)) => v = z) (fun v => aWR (dC, dI) vwCl [(cy, .int)] A (zW_13 cy h0 (ups (ups w0 0 v.1) 1 v.2) h1 w1)) A) args s 0 0 A) (F0 m 0 ls []) := by
    intro H locs hP hD hS
    refine lv_iconst (v := (0 : Int32)) hx hb dX1_draw_0 (by decide) ?_
    refine lv_istore_n (lv' := [(2, .int (0 : Int32)), (0, .ref (h0 0)), (1, .ref (h1 0))]) hx hb dX1_draw_1 rfl hl (by decide) rfl (fun ls hl => ?_)
    refine lv_aload_n hx hb dX1_draw_2 rfl (lv_at hl 1 rfl) ?_
    refine lv_iconst (v := (1 : Int32)) hx hb dX1_draw_3 (by decide) ?_
    refine zput hx hb hts hown hK hP hD hS hin_1 tyX1 tyX1_ok nmX1 0 rfl rfl 1 (by decide) mw_40 rfl (v := .int (1 : Int32)) rfl rfl (Nat.le_of_ble_eq_true rfl) (wn := (zW_13 cy h0 (ups (ups w0 0 (ups (w0 0) 1 (1 : Int32))) 1 (w0 1)) h1 w1)) rfl dX1_draw_4 (fun H locs hP hD hS => ?_)
    refine lv_iconst (v := (0 : Int32)) hx hb dX1_draw_7 (by decide) ?_
    refine lv_istore_n (lv' := [(3, .int (0 : Int32)), (2, .int (0 : Int32)), (0, .ref (h0 0)), (1, .ref (h1 0))]) hx hb dX1_draw_8 rfl hl (by decide) rfl (fun ls hl => ?_)
    exact k9 zFU (ups (w0 0) 1 (1 : Int32)) (w0 1) (0 : Int32) (0 : Int32) H locs ls hP hD hS (lv_sub hl [2, 3, 1, 0] rfl) hf
  exact kE s.heap [] hP hD hS
set_option maxHeartbeats 4000000 in
set_option maxRecDepth 100000 in
theorem kX1_cells (l : Launch) (dC : Nat → ClassId) (dI : Nat → Nat → Nat) (cy : ClassId) (h0 : Nat → Nat) (w0 : Nat → Nat → Int32) (z : Int32) (hf : fX1_cells w0 = some z) : Met l yX1_cells (wsM yX1_cells cX1_cells 1 (some .int)) ({ frames := 0, cells := 0, slots := 0, locals := 0 } : Room) (va_Pc [.ref (h0 0)] (pRO (dC, dI) vwCl [(cy, .int)] (zW_1 cy h0 w0))) (vp_Si (fun q => q = z)) 0 0 (fun _ => False) := by
  refine Met.ofW (cc := cX1_cells) (maxL := 1) (ret := (some .int)) (by decide) rfl ?_
  intro p e s m args below meth c s₁ B hml hv
  obtain ⟨ha, hP, hK, hG⟩ := hv
  have hx := B.exec
  have hb := B.bytes
  have hr := B.returns
  have hts : ∀ w ∈ wsA, w.before args s = true := fun w h => atoms_spec (ws := wsM yX1_cells cX1_cells 1 (some .int)) B.pre w (List.mem_cons_of_mem _ h)
  have hown : s.vm.findClass RX1 = some m.cls := findClass_of_methodNamed B.named
  have hlocks := B.notSynchronized
  have hS : va_S (fun _ => False) s.heap s.heap [] := va_S.rf
  obtain ⟨ls, hl, he⟩ := zent (m := m) (n := 1) (L := [(0, .ref (h0 0))]) ha (Nat.le_of_ble_eq_true rfl) rfl
  refine W.eq he ?_
  unfold fX1_cells at hf
  have kE : W p l e ({ frames := 0, cells := 0, slots := 0, locals := 0 } : Room) s m args below meth c s.heap [] 0 0 (MQ below (vp_Si (fun q => q = z)) args s 0 0 (fun _ => False)) (F0 m 0 ls []) := by
    refine lv_aload_n hx hb dX1_cells_0 rfl (lv_at hl 0 rfl) ?_
    refine zget hx hb hts hown hK hP hin_1 0 rfl rfl 1 (by decide) mw_40 (v := .int (w0 0 1)) rfl dX1_cells_1 ?_
    refine lv_aload_n hx hb dX1_cells_4 rfl (lv_at hl 0 rfl) ?_
    refine zget hx hb hts hown hK hP hin_1 0 rfl rfl 2 (by decide) mw_41 (v := .int (w0 0 2)) rfl dX1_cells_5 ?_
    refine lv_imul hx hb dX1_cells_8 ?_
    exact zretR hx hb hr hlocks hf dX1_cells_9
  exact kE
set_option maxHeartbeats 4000000 in
set_option maxRecDepth 100000 in
theorem kX1_has (l : Launch) (dC : Nat → ClassId) (dI : Nat → Nat → Nat) (cy : ClassId) (h0 : Nat → Nat) (w0 : Nat → Nat → Int32) (x1 : Int32) (z : Int32) (hf : fX1_has w0 x1 = some z) : Met l yX1_has (wsM yX1_has cX1_has 2 (some .boolean)) ({ frames := 0, cells := 0, slots := 0, locals := 0 } : Room) (va_Pc [.ref (h0 0), .int x1] (pRO (dC, dI) vwCl [(cy, .int)] (zW_1 cy h0 w0))) (vp_Si (fun q => q = z)) 0 0 (fun _ => False) := by
  refine Met.ofW (cc := cX1_has) (maxL := 2) (ret := (some .boolean)) (by decide) rfl ?_
  intro p e s m args below meth c s₁ B hml hv
  obtain ⟨ha, hP, hK, hG⟩ := hv
  have hx := B.exec
  have hb := B.bytes
  have hr := B.returns
  have hts : ∀ w ∈ wsA, w.before args s = true := fun w h => atoms_spec (ws := wsM yX1_has cX1_has 2 (some .boolean)) B.pre w (List.mem_cons_of_mem _ h)
  have hown : s.vm.findClass RX1 = some m.cls := findClass_of_methodNamed B.named
  have hlocks := B.notSynchronized
  have hS : va_S (fun _ => False) s.heap s.heap [] := va_S.rf
  obtain ⟨ls, hl, he⟩ := zent (m := m) (n := 2) (L := [(0, .ref (h0 0)), (1, .int x1)]) ha (Nat.le_of_ble_eq_true rfl) rfl
  refine W.eq he ?_
  unfold fX1_has at hf
  have kE : W p l e ({ frames := 0, cells := 0, slots := 0, locals := 0 } : Room) s m args below meth c s.heap [] 0 0 (MQ below (vp_Si (fun q => q = z)) args s 0 0 (fun _ => False)) (F0 m 0 ls []) := by
    refine lv_iload_n hx hb dX1_has_0 rfl (lv_at hl 1 rfl) ?_
    refine lv_if_lt (tgt := 21) hx hb dX1_has_1 (by decide) (fun hc => ?_) (fun hc => ?_)
    · have hf := it_t hc hf
      refine lv_iconst (v := (0 : Int32)) hx hb dX1_has_21 (by decide) ?_
      exact zretRZ hx hb hr hlocks rfl hf dX1_has_22
    · have hf := it_f hc hf
      refine lv_iload_n hx hb dX1_has_4 rfl (lv_at hl 1 rfl) ?_
      refine lv_aload_n hx hb dX1_has_5 rfl (lv_at hl 0 rfl) ?_
      refine zget hx hb hts hown hK hP hin_1 0 rfl rfl 1 (by decide) mw_40 (v := .int (w0 0 1)) rfl dX1_has_6 ?_
      refine lv_aload_n hx hb dX1_has_9 rfl (lv_at hl 0 rfl) ?_
      refine zget hx hb hts hown hK hP hin_1 0 rfl rfl 2 (by decide) mw_41 (v := .int (w0 0 2)) rfl dX1_has_10 ?_
      refine lv_imul hx hb dX1_has_13 ?_
      refine lv_icmp_ge (tgt := 21) hx hb dX1_has_14 (by decide) (fun hc => ?_) (fun hc => ?_)
      · have hf := it_t hc hf
        refine lv_iconst (v := (0 : Int32)) hx hb dX1_has_21 (by decide) ?_
        exact zretRZ hx hb hr hlocks rfl hf dX1_has_22
      · have hf := it_f hc hf
        refine lv_iconst (v := (1 : Int32)) hx hb dX1_has_17 (by decide) ?_
        refine lv_goto (tgt := 22) hx hb dX1_has_18 (by decide) ?_
        exact zretRZ hx hb hr hlocks rfl hf dX1_has_22
  exact kE
set_option maxHeartbeats 4000000 in
set_option maxRecDepth 100000 in
theorem kX1_groundAt (l : Launch) (dC : Nat → ClassId) (dI : Nat → Nat → Nat) (cy : ClassId) (h0 : Nat → Nat) (w0 : Nat → Nat → Int32) (x1 : Int32) (z : Int32) (hf : fX1_groundAt w0 x1 = some z) : Met l yX1_groundAt (wsM yX1_groundAt cX1_groundAt 2 (some .int)) ({ frames := 0, cells := 0, slots := 0, locals := 0 } : Room) (va_Pc [.ref (h0 0), .int x1] (pRO (dC, dI) vwCl [(cy, .int)] (zW_1 cy h0 w0))) (vp_Si (fun q => q = z)) 0 0 (fun _ => False) := by
  refine Met.ofW (cc := cX1_groundAt) (maxL := 2) (ret := (some .int)) (by decide) rfl ?_
  intro p e s m args below meth c s₁ B hml hv
  obtain ⟨ha, hP, hK, hG⟩ := hv
  have hx := B.exec
  have hb := B.bytes
  have hr := B.returns
  have hts : ∀ w ∈ wsA, w.before args s = true := fun w h => atoms_spec (ws := wsM yX1_groundAt cX1_groundAt 2 (some .int)) B.pre w (List.mem_cons_of_mem _ h)
  have hown : s.vm.findClass RX1 = some m.cls := findClass_of_methodNamed B.named
  have hlocks := B.notSynchronized
  have hS : va_S (fun _ => False) s.heap s.heap [] := va_S.rf
  obtain ⟨ls, hl, he⟩ := zent (m := m) (n := 2) (L := [(0, .ref (h0 0)), (1, .int x1)]) ha (Nat.le_of_ble_eq_true rfl) rfl
  refine W.eq he ?_
  unfold fX1_groundAt at hf
  have kE : W p l e ({ frames := 0, cells := 0, slots := 0, locals := 0 } : Room) s m args below meth c s.heap [] 0 0 (MQ below (vp_Si (fun q => q = z)) args s 0 0 (fun _ => False)) (F0 m 0 ls []) := by
    refine lv_iload_n hx hb dX1_groundAt_0 rfl (lv_at hl 1 rfl) ?_
    refine lv_if_lt (tgt := 22) hx hb dX1_groundAt_1 (by decide) (fun hc => ?_) (fun hc => ?_)
    · have hf := it_t hc hf
      refine lv_iconst (v := (0 : Int32)) hx hb dX1_groundAt_22 (by decide) ?_
      exact zretR hx hb hr hlocks hf dX1_groundAt_23
    · have hf := it_f hc hf
      refine lv_iload_n hx hb dX1_groundAt_4 rfl (lv_at hl 1 rfl) ?_
      refine lv_aload_n hx hb dX1_groundAt_5 rfl (lv_at hl 0 rfl) ?_
      refine zget hx hb hts hown hK hP hin_1 0 rfl rfl 0 (by decide) mw_39 (v := .ref (h0 1)) rfl dX1_groundAt_6 ?_
      refine va_alen hx hb hK hP 1 0 rfl rfl (v := (64 : Int32)) (show Int32.ofNat 64 = (64 : Int32) from by decide) dX1_groundAt_9 ?_
      refine lv_icmp_ge (tgt := 22) hx hb dX1_groundAt_10 (by decide) (fun hc => ?_) (fun hc => ?_)
      · have hf := it_t hc hf
        refine lv_iconst (v := (0 : Int32)) hx hb dX1_groundAt_22 (by decide) ?_
        exact zretR hx hb hr hlocks hf dX1_groundAt_23
      · have hf := it_f hc hf
        refine lv_aload_n hx hb dX1_groundAt_13 rfl (lv_at hl 0 rfl) ?_
        refine zget hx hb hts hown hK hP hin_1 0 rfl rfl 0 (by decide) mw_39 (v := .ref (h0 1)) rfl dX1_groundAt_14 ?_
        refine lv_iload_n hx hb dX1_groundAt_17 rfl (lv_at hl 1 rfl) ?_
        obtain ⟨hin1, hf⟩ := gd_d hf
        refine va_iald hx hb hK hP 1 0 rfl rfl hin1 dX1_groundAt_18 ?_
        refine lv_goto (tgt := 23) hx hb dX1_groundAt_19 (by decide) ?_
        exact zretR hx hb hr hlocks hf dX1_groundAt_23
  exact kE
set_option maxHeartbeats 4000000 in
set_option maxRecDepth 100000 in
theorem kX6_setting (l : Launch) (dC : Nat → ClassId) (dI : Nat → Nat → Nat) (cy : ClassId) (h0 : Nat → Nat) (w0 : Nat → Nat → Int32) (x1 : Int32) (z : Int32) (hf : fX6_setting w0 x1 = some z) : Met l yX6_setting (wsM yX6_setting cX6_setting 2 (some .int)) ({ frames := 0, cells := 0, slots := 0, locals := 0 } : Room) (va_Pc [.ref (h0 0), .int x1] (pRO (dC, dI) vwCl [(cy, .int)] (zW_6 cy h0 w0))) (vp_Si (fun q => q = z)) 0 0 (fun _ => False) := by
  refine Met.ofW (cc := cX6_setting) (maxL := 2) (ret := (some .int)) (by decide) rfl ?_
  intro p e s m args below meth c s₁ B hml hv
  obtain ⟨ha, hP, hK, hG⟩ := hv
  have hx := B.exec
  have hb := B.bytes
  have hr := B.returns
  have hts : ∀ w ∈ wsA, w.before args s = true := fun w h => atoms_spec (ws := wsM yX6_setting cX6_setting 2 (some .int)) B.pre w (List.mem_cons_of_mem _ h)
  have hown : s.vm.findClass RX6 = some m.cls := findClass_of_methodNamed B.named
  have hlocks := B.notSynchronized
  have hS : va_S (fun _ => False) s.heap s.heap [] := va_S.rf
  obtain ⟨ls, hl, he⟩ := zent (m := m) (n := 2) (L := [(0, .ref (h0 0)), (1, .int x1)]) ha (Nat.le_of_ble_eq_true rfl) rfl
  refine W.eq he ?_
  unfold fX6_setting at hf
  have kE : W p l e ({ frames := 0, cells := 0, slots := 0, locals := 0 } : Room) s m args below meth c s.heap [] 0 0 (MQ below (vp_Si (fun q => q = z)) args s 0 0 (fun _ => False)) (F0 m 0 ls []) := by
    refine lv_iload_n hx hb dX6_setting_0 rfl (lv_at hl 1 rfl) ?_
    by_cases hsw0 : x1 = (0 : Int32)
    · have hf := it_t hsw0 hf
      refine lv_tableIn (tgt := 40) (off := 39) hx hb dX6_setting_1 (by rw [hsw0]; decide) (by rw [hsw0]; decide) (by rw [hsw0]; rfl) (by decide) ?_
      refine lv_aload_n hx hb dX6_setting_40 rfl (lv_at hl 0 rfl) ?_
      refine zget hx hb hts hown hK hP hin_6 0 rfl rfl 3 (by decide) mw_59 (v := .int (w0 0 3)) rfl dX6_setting_41 ?_
      exact zretR hx hb hr hlocks hf dX6_setting_44
    · have hf := it_f hsw0 hf
      by_cases hsw1 : x1 = (1 : Int32)
      · have hf := it_t hsw1 hf
        refine lv_tableIn (tgt := 45) (off := 44) hx hb dX6_setting_1 (by rw [hsw1]; decide) (by rw [hsw1]; decide) (by rw [hsw1]; rfl) (by decide) ?_
        refine lv_aload_n hx hb dX6_setting_45 rfl (lv_at hl 0 rfl) ?_
        refine zget hx hb hts hown hK hP hin_6 0 rfl rfl 4 (by decide) mw_60 (v := .int (w0 0 4)) rfl dX6_setting_46 ?_
        exact zretR hx hb hr hlocks hf dX6_setting_49
      · have hf := it_f hsw1 hf
        by_cases hsw2 : x1 = (2 : Int32)
        · have hf := it_t hsw2 hf
          refine lv_tableIn (tgt := 50) (off := 49) hx hb dX6_setting_1 (by rw [hsw2]; decide) (by rw [hsw2]; decide) (by rw [hsw2]; rfl) (by decide) ?_
          refine lv_aload_n hx hb dX6_setting_50 rfl (lv_at hl 0 rfl) ?_
          refine zget hx hb hts hown hK hP hin_6 0 rfl rfl 5 (by decide) mw_61 (v := .int (w0 0 5)) rfl dX6_setting_51 ?_
          exact zretR hx hb hr hlocks hf dX6_setting_54
        · have hf := it_f hsw2 hf
          by_cases hsw3 : x1 = (3 : Int32)
          · have hf := it_t hsw3 hf
            refine lv_tableIn (tgt := 55) (off := 54) hx hb dX6_setting_1 (by rw [hsw3]; decide) (by rw [hsw3]; decide) (by rw [hsw3]; rfl) (by decide) ?_
            refine lv_aload_n hx hb dX6_setting_55 rfl (lv_at hl 0 rfl) ?_
            refine zget hx hb hts hown hK hP hin_6 0 rfl rfl 6 (by decide) mw_62 (v := .int (w0 0 6)) rfl dX6_setting_56 ?_
            exact zretR hx hb hr hlocks hf dX6_setting_59
          · have hf := it_f hsw3 hf
            by_cases hsw4 : x1 = (4 : Int32)
            · have hf := it_t hsw4 hf
              refine lv_tableIn (tgt := 60) (off := 59) hx hb dX6_setting_1 (by rw [hsw4]; decide) (by rw [hsw4]; decide) (by rw [hsw4]; rfl) (by decide) ?_
              refine lv_aload_n hx hb dX6_setting_60 rfl (lv_at hl 0 rfl) ?_
              refine zget hx hb hts hown hK hP hin_6 0 rfl rfl 7 (by decide) mw_63 (v := .int (w0 0 7)) rfl dX6_setting_61 ?_
              exact zretR hx hb hr hlocks hf dX6_setting_64
            · have hf := it_f hsw4 hf
              by_cases hsw5 : x1 = (5 : Int32)
              · have hf := it_t hsw5 hf
                refine lv_tableIn (tgt := 65) (off := 64) hx hb dX6_setting_1 (by rw [hsw5]; decide) (by rw [hsw5]; decide) (by rw [hsw5]; rfl) (by decide) ?_
                refine lv_aload_n hx hb dX6_setting_65 rfl (lv_at hl 0 rfl) ?_
                refine zget hx hb hts hown hK hP hin_6 0 rfl rfl 8 (by decide) mw_64 (v := .int (w0 0 8)) rfl dX6_setting_66 ?_
                exact zretR hx hb hr hlocks hf dX6_setting_69
              · have hf := it_f hsw5 hf
                refine lv_tableOut (tgt := 70) hx hb dX6_setting_1 (tsw_out (fun n h1 h2 => ?_)) (by decide) ?_
                · rcases (show n = 0 ∨ n = 1 ∨ n = 2 ∨ n = 3 ∨ n = 4 ∨ n = 5 by omega) with rfl | rfl | rfl | rfl | rfl | rfl
                  · exact ti_ne hsw0 rfl
                  · exact ti_ne hsw1 rfl
                  · exact ti_ne hsw2 rfl
                  · exact ti_ne hsw3 rfl
                  · exact ti_ne hsw4 rfl
                  · exact ti_ne hsw5 rfl
                · refine lv_aload_n hx hb dX6_setting_70 rfl (lv_at hl 0 rfl) ?_
                  refine zget hx hb hts hown hK hP hin_6 0 rfl rfl 9 (by decide) mw_65 (v := .int (w0 0 9)) rfl dX6_setting_71 ?_
                  exact zretR hx hb hr hlocks hf dX6_setting_74
  exact kE
set_option maxHeartbeats 4000000 in
set_option maxRecDepth 100000 in
theorem kX6_change (l : Launch) (dC : Nat → ClassId) (dI : Nat → Nat → Nat) (cy : ClassId) (h0 : Nat → Nat) (w0 : Nat → Nat → Int32) (x1 : Int32) (x2 : Int32) (sz : Nat) (z : (Nat → Int32)) (hf : fX6_change w0 x1 x2 = some z) : Met l yX6_change (wsM yX6_change cX6_change 3 none) ({ frames := 0, cells := 0, slots := 0, locals := 0 } : Room) (va_Pc [.ref (h0 0), .int x1, .int x2] (pWR (dC, dI) vwCl [(cy, .int)] (zW_6 cy h0 w0) sz)) (va_Qv (fun (v : (Nat → Int32)) => v = z) (fun v => aWR (dC, dI) vwCl [(cy, .int)] (va_A (zW_6 cy h0 w0) sz) (zW_6 cy h0 (ups w0 0 v))) (va_A (zW_6 cy h0 w0) sz)) 0 0 (va_A (zW_6 cy h0 w0) sz) := by
  refine Met.ofW (cc := cX6_change) (maxL := 3) (ret := none) (by decide) rfl ?_
  intro p e s m args below meth c s₁ B hml hv
  obtain ⟨ha, hsz, hP, hK, hD0, hG⟩ := hv
  have hx := B.exec
  have hb := B.bytes
  have hr := B.returns
  have hts : ∀ w ∈ wsA, w.before args s = true := fun w h => atoms_spec (ws := wsM yX6_change cX6_change 3 none) B.pre w (List.mem_cons_of_mem _ h)
  have hown : s.vm.findClass RX6 = some m.cls := findClass_of_methodNamed B.named
  have hlocks := B.notSynchronized
  subst hsz
  have hD := hD0.self (sz := s.heap.size)
  generalize hAe : va_A (zW_6 cy h0 w0) s.heap.size = A at hD hG ⊢
  have hA : ∀ q : Nat, s.heap.size ≤ q → A q := fun q h => by rw [← hAe]; exact Or.inr h
  have hS : va_S A s.heap s.heap [] := va_S.rf
  have hP : va_P (dC, dI) vwCl (zW_6 cy h0 (ups w0 0 (w0 0))) s.heap := hP
  have hD : va_D A (zW_6 cy h0 (ups w0 0 (w0 0))) := hD
  obtain ⟨ls, hl, he⟩ := zent (m := m) (n := 3) (L := [(0, .ref (h0 0)), (1, .int x1), (2, .int x2)]) ha (Nat.le_of_ble_eq_true rfl) rfl
  refine W.eq he ?_
  unfold fX6_change at hf
  have kE : ∀ (H : Heap) (locs : List Loc), va_P (dC, dI) vwCl (zW_6 cy h0 (ups w0 0 (w0 0))) H → va_D A (zW_6 cy h0 (ups w0 0 (w0 0))) → va_S A s.heap H locs → W p l e ({ frames := 0, cells := 0, slots := 0, locals := 0 } : Room) s m args below meth c H locs 0 0 (MQ below (va_Qv (fun (v : (Nat → Int32)) => v = z) (fun v => aWR (dC, dI) vwCl [(cy, .int)] A (zW_6 cy h0 (ups w0 0 v))) A) args s 0 0 A) (F0 m 0 ls []) := by
    intro H locs hP hD hS
    refine lv_iload_n hx hb dX6_change_0 rfl (lv_at hl 1 rfl) ?_
    by_cases hsw0 : x1 = (0 : Int32)
    · have hf := it_t hsw0 hf
      refine lv_tableIn (tgt := 40) (off := 39) hx hb dX6_change_1 (by rw [hsw0]; decide) (by rw [hsw0]; decide) (by rw [hsw0]; rfl) (by decide) ?_
      refine lv_aload_n hx hb dX6_change_40 rfl (lv_at hl 0 rfl) ?_
      refine lv_iload_n hx hb dX6_change_41 rfl (lv_at hl 2 rfl) ?_
      refine zput hx hb hts hown hK hP hD hS hin_6 tyX6 tyX6_ok nmX6 0 rfl rfl 3 (by decide) mw_59 rfl (v := .int x2) rfl rfl (Nat.le_of_ble_eq_true rfl) (wn := (zW_6 cy h0 (ups w0 0 (ups (w0 0) 3 x2)))) rfl dX6_change_42 (fun H locs hP hD hS => ?_)
      refine lv_goto (tgt := 93) hx hb dX6_change_45 (by decide) ?_
      exact zretV hx hb hr hlocks hP hK hD hS hf rfl dX6_change_93
    · have hf := it_f hsw0 hf
      by_cases hsw1 : x1 = (1 : Int32)
      · have hf := it_t hsw1 hf
        refine lv_tableIn (tgt := 48) (off := 47) hx hb dX6_change_1 (by rw [hsw1]; decide) (by rw [hsw1]; decide) (by rw [hsw1]; rfl) (by decide) ?_
        refine lv_aload_n hx hb dX6_change_48 rfl (lv_at hl 0 rfl) ?_
        refine lv_iload_n hx hb dX6_change_49 rfl (lv_at hl 2 rfl) ?_
        refine zput hx hb hts hown hK hP hD hS hin_6 tyX6 tyX6_ok nmX6 0 rfl rfl 4 (by decide) mw_60 rfl (v := .int x2) rfl rfl (Nat.le_of_ble_eq_true rfl) (wn := (zW_6 cy h0 (ups w0 0 (ups (w0 0) 4 x2)))) rfl dX6_change_50 (fun H locs hP hD hS => ?_)
        refine lv_goto (tgt := 93) hx hb dX6_change_53 (by decide) ?_
        exact zretV hx hb hr hlocks hP hK hD hS hf rfl dX6_change_93
      · have hf := it_f hsw1 hf
        by_cases hsw2 : x1 = (2 : Int32)
        · have hf := it_t hsw2 hf
          refine lv_tableIn (tgt := 56) (off := 55) hx hb dX6_change_1 (by rw [hsw2]; decide) (by rw [hsw2]; decide) (by rw [hsw2]; rfl) (by decide) ?_
          refine lv_aload_n hx hb dX6_change_56 rfl (lv_at hl 0 rfl) ?_
          refine lv_iload_n hx hb dX6_change_57 rfl (lv_at hl 2 rfl) ?_
          refine zput hx hb hts hown hK hP hD hS hin_6 tyX6 tyX6_ok nmX6 0 rfl rfl 5 (by decide) mw_61 rfl (v := .int x2) rfl rfl (Nat.le_of_ble_eq_true rfl) (wn := (zW_6 cy h0 (ups w0 0 (ups (w0 0) 5 x2)))) rfl dX6_change_58 (fun H locs hP hD hS => ?_)
          refine lv_goto (tgt := 93) hx hb dX6_change_61 (by decide) ?_
          exact zretV hx hb hr hlocks hP hK hD hS hf rfl dX6_change_93
        · have hf := it_f hsw2 hf
          by_cases hsw3 : x1 = (3 : Int32)
          · have hf := it_t hsw3 hf
            refine lv_tableIn (tgt := 64) (off := 63) hx hb dX6_change_1 (by rw [hsw3]; decide) (by rw [hsw3]; decide) (by rw [hsw3]; rfl) (by decide) ?_
            refine lv_aload_n hx hb dX6_change_64 rfl (lv_at hl 0 rfl) ?_
            refine lv_iload_n hx hb dX6_change_65 rfl (lv_at hl 2 rfl) ?_
            refine zput hx hb hts hown hK hP hD hS hin_6 tyX6 tyX6_ok nmX6 0 rfl rfl 6 (by decide) mw_62 rfl (v := .int x2) rfl rfl (Nat.le_of_ble_eq_true rfl) (wn := (zW_6 cy h0 (ups w0 0 (ups (w0 0) 6 x2)))) rfl dX6_change_66 (fun H locs hP hD hS => ?_)
            refine lv_goto (tgt := 93) hx hb dX6_change_69 (by decide) ?_
            exact zretV hx hb hr hlocks hP hK hD hS hf rfl dX6_change_93
          · have hf := it_f hsw3 hf
            by_cases hsw4 : x1 = (4 : Int32)
            · have hf := it_t hsw4 hf
              refine lv_tableIn (tgt := 72) (off := 71) hx hb dX6_change_1 (by rw [hsw4]; decide) (by rw [hsw4]; decide) (by rw [hsw4]; rfl) (by decide) ?_
              refine lv_aload_n hx hb dX6_change_72 rfl (lv_at hl 0 rfl) ?_
              refine lv_iload_n hx hb dX6_change_73 rfl (lv_at hl 2 rfl) ?_
              refine zput hx hb hts hown hK hP hD hS hin_6 tyX6 tyX6_ok nmX6 0 rfl rfl 7 (by decide) mw_63 rfl (v := .int x2) rfl rfl (Nat.le_of_ble_eq_true rfl) (wn := (zW_6 cy h0 (ups w0 0 (ups (w0 0) 7 x2)))) rfl dX6_change_74 (fun H locs hP hD hS => ?_)
              refine lv_goto (tgt := 93) hx hb dX6_change_77 (by decide) ?_
              exact zretV hx hb hr hlocks hP hK hD hS hf rfl dX6_change_93
            · have hf := it_f hsw4 hf
              by_cases hsw5 : x1 = (5 : Int32)
              · have hf := it_t hsw5 hf
                refine lv_tableIn (tgt := 80) (off := 79) hx hb dX6_change_1 (by rw [hsw5]; decide) (by rw [hsw5]; decide) (by rw [hsw5]; rfl) (by decide) ?_
                refine lv_aload_n hx hb dX6_change_80 rfl (lv_at hl 0 rfl) ?_
                refine lv_iload_n hx hb dX6_change_81 rfl (lv_at hl 2 rfl) ?_
                refine zput hx hb hts hown hK hP hD hS hin_6 tyX6 tyX6_ok nmX6 0 rfl rfl 8 (by decide) mw_64 rfl (v := .int x2) rfl rfl (Nat.le_of_ble_eq_true rfl) (wn := (zW_6 cy h0 (ups w0 0 (ups (w0 0) 8 x2)))) rfl dX6_change_82 (fun H locs hP hD hS => ?_)
                refine lv_goto (tgt := 93) hx hb dX6_change_85 (by decide) ?_
                exact zretV hx hb hr hlocks hP hK hD hS hf rfl dX6_change_93
              · have hf := it_f hsw5 hf
                refine lv_tableOut (tgt := 88) hx hb dX6_change_1 (tsw_out (fun n h1 h2 => ?_)) (by decide) ?_
                · rcases (show n = 0 ∨ n = 1 ∨ n = 2 ∨ n = 3 ∨ n = 4 ∨ n = 5 by omega) with rfl | rfl | rfl | rfl | rfl | rfl
                  · exact ti_ne hsw0 rfl
                  · exact ti_ne hsw1 rfl
                  · exact ti_ne hsw2 rfl
                  · exact ti_ne hsw3 rfl
                  · exact ti_ne hsw4 rfl
                  · exact ti_ne hsw5 rfl
                · refine lv_aload_n hx hb dX6_change_88 rfl (lv_at hl 0 rfl) ?_
                  refine lv_iload_n hx hb dX6_change_89 rfl (lv_at hl 2 rfl) ?_
                  refine zput hx hb hts hown hK hP hD hS hin_6 tyX6 tyX6_ok nmX6 0 rfl rfl 9 (by decide) mw_65 rfl (v := .int x2) rfl rfl (Nat.le_of_ble_eq_true rfl) (wn := (zW_6 cy h0 (ups w0 0 (ups (w0 0) 9 x2)))) rfl dX6_change_90 (fun H locs hP hD hS => ?_)
                  exact zretV hx hb hr hlocks hP hK hD hS hf rfl dX6_change_93
  exact kE s.heap [] hP hD hS
set_option maxHeartbeats 4000000 in
set_option maxRecDepth 100000 in
theorem kX7_isDirection (l : Launch) (dC : Nat → ClassId) (dI : Nat → Nat → Nat) (cy : ClassId) (x0 : Int32) (z : Int32) (hf : fX7_isDirection x0 = some z) : Met l yX7_isDirection (wsM yX7_isDirection cX7_isDirection 1 (some .boolean)) ({ frames := 0, cells := 0, slots := 0, locals := 0 } : Room) (va_Pc [.int x0] (pRO (dC, dI) vwCl [(cy, .int)] ([] : va_W))) (vp_Si (fun q => q = z)) 0 0 (fun _ => False) := by
  refine Met.ofW (cc := cX7_isDirection) (maxL := 1) (ret := (some .boolean)) (by decide) rfl ?_
  intro p e s m args below meth c s₁ B hml hv
  obtain ⟨ha, hP, hK, hG⟩ := hv
  have hx := B.exec
  have hb := B.bytes
  have hr := B.returns
  have hts : ∀ w ∈ wsA, w.before args s = true := fun w h => atoms_spec (ws := wsM yX7_isDirection cX7_isDirection 1 (some .boolean)) B.pre w (List.mem_cons_of_mem _ h)
  have hown : s.vm.findClass RX7 = some m.cls := findClass_of_methodNamed B.named
  have hlocks := B.notSynchronized
  have hS : va_S (fun _ => False) s.heap s.heap [] := va_S.rf
  obtain ⟨ls, hl, he⟩ := zent (m := m) (n := 1) (L := [(0, .int x0)]) ha (Nat.le_of_ble_eq_true rfl) rfl
  refine W.eq he ?_
  unfold fX7_isDirection at hf
  have kE : W p l e ({ frames := 0, cells := 0, slots := 0, locals := 0 } : Room) s m args below meth c s.heap [] 0 0 (MQ below (vp_Si (fun q => q = z)) args s 0 0 (fun _ => False)) (F0 m 0 ls []) := by
    refine lv_iload_n hx hb dX7_isDirection_0 rfl (lv_at hl 0 rfl) ?_
    refine lv_if_lt (tgt := 14) hx hb dX7_isDirection_1 (by decide) (fun hc => ?_) (fun hc => ?_)
    · have hf := it_t hc hf
      refine lv_iconst (v := (0 : Int32)) hx hb dX7_isDirection_14 (by decide) ?_
      exact zretRZ hx hb hr hlocks rfl hf dX7_isDirection_15
    · have hf := it_f hc hf
      refine lv_iload_n hx hb dX7_isDirection_4 rfl (lv_at hl 0 rfl) ?_
      refine lv_bipush (v := (8 : Int32)) hx hb dX7_isDirection_5 (by decide) ?_
      refine lv_icmp_ge (tgt := 14) hx hb dX7_isDirection_7 (by decide) (fun hc => ?_) (fun hc => ?_)
      · have hf := it_t hc hf
        refine lv_iconst (v := (0 : Int32)) hx hb dX7_isDirection_14 (by decide) ?_
        exact zretRZ hx hb hr hlocks rfl hf dX7_isDirection_15
      · have hf := it_f hc hf
        refine lv_iconst (v := (1 : Int32)) hx hb dX7_isDirection_10 (by decide) ?_
        refine lv_goto (tgt := 15) hx hb dX7_isDirection_11 (by decide) ?_
        exact zretRZ hx hb hr hlocks rfl hf dX7_isDirection_15
  exact kE
set_option maxHeartbeats 4000000 in
set_option maxRecDepth 100000 in
theorem kX0_isFull (l : Launch) (dC : Nat → ClassId) (dI : Nat → Nat → Nat) (cy : ClassId) (h0 : Nat → Nat) (w0 : Nat → Nat → Int32) (z : Int32) (hf : fX0_isFull w0 = some z) : Met l yX0_isFull (wsM yX0_isFull cX0_isFull 1 (some .boolean)) ({ frames := 0, cells := 0, slots := 0, locals := 0 } : Room) (va_Pc [.ref (h0 0)] (pRO (dC, dI) vwCl [(cy, .int)] (zW_0 cy h0 w0))) (vp_Si (fun q => q = z)) 0 0 (fun _ => False) := by
  refine Met.ofW (cc := cX0_isFull) (maxL := 1) (ret := (some .boolean)) (by decide) rfl ?_
  intro p e s m args below meth c s₁ B hml hv
  obtain ⟨ha, hP, hK, hG⟩ := hv
  have hx := B.exec
  have hb := B.bytes
  have hr := B.returns
  have hts : ∀ w ∈ wsA, w.before args s = true := fun w h => atoms_spec (ws := wsM yX0_isFull cX0_isFull 1 (some .boolean)) B.pre w (List.mem_cons_of_mem _ h)
  have hown : s.vm.findClass RX0 = some m.cls := findClass_of_methodNamed B.named
  have hlocks := B.notSynchronized
  have hS : va_S (fun _ => False) s.heap s.heap [] := va_S.rf
  obtain ⟨ls, hl, he⟩ := zent (m := m) (n := 1) (L := [(0, .ref (h0 0))]) ha (Nat.le_of_ble_eq_true rfl) rfl
  refine W.eq he ?_
  unfold fX0_isFull at hf
  have kE : W p l e ({ frames := 0, cells := 0, slots := 0, locals := 0 } : Room) s m args below meth c s.heap [] 0 0 (MQ below (vp_Si (fun q => q = z)) args s 0 0 (fun _ => False)) (F0 m 0 ls []) := by
    refine lv_aload_n hx hb dX0_isFull_0 rfl (lv_at hl 0 rfl) ?_
    refine zget hx hb hts hown hK hP hin_0 0 rfl rfl 2 (by decide) mw_52 (v := .int (w0 0 2)) rfl dX0_isFull_1 ?_
    refine lv_bipush (v := (8 : Int32)) hx hb dX0_isFull_4 (by decide) ?_
    refine lv_icmp_lt (tgt := 13) hx hb dX0_isFull_6 (by decide) (fun hc => ?_) (fun hc => ?_)
    · have hf := it_t hc hf
      refine lv_iconst (v := (0 : Int32)) hx hb dX0_isFull_13 (by decide) ?_
      exact zretRZ hx hb hr hlocks rfl hf dX0_isFull_14
    · have hf := it_f hc hf
      refine lv_iconst (v := (1 : Int32)) hx hb dX0_isFull_9 (by decide) ?_
      refine lv_goto (tgt := 14) hx hb dX0_isFull_10 (by decide) ?_
      exact zretRZ hx hb hr hlocks rfl hf dX0_isFull_14
  exact kE
set_option maxHeartbeats 4000000 in
set_option maxRecDepth 100000 in
theorem kX0_tell (l : Launch) (dC : Nat → ClassId) (dI : Nat → Nat → Nat) (cy : ClassId) (h0 : Nat → Nat) (w0 : Nat → Nat → Int32) (x1 : Int32) (x2 : Int32) (sz : Nat) (z : Int32 × (Nat → Int32) × (Nat → Int32) × (Nat → Int32)) (hf : fX0_tell w0 x1 x2 = some z) : Met l yX0_tell (wsM yX0_tell cX0_tell 3 (some .int)) ({ frames := 0, cells := 0, slots := 0, locals := 0 } : Room) (va_Pc [.ref (h0 0), .int x1, .int x2] (pWR (dC, dI) vwCl [(cy, .int)] (zW_0 cy h0 w0) sz)) (va_Qi (fun (q : Int32) (v : (Nat → Int32) × (Nat → Int32) × (Nat → Int32)) => (q, v) = z) (fun v => aWR (dC, dI) vwCl [(cy, .int)] (va_A (zW_0 cy h0 w0) sz) (zW_0 cy h0 (ups (ups (ups w0 0 v.1) 1 v.2.1) 2 v.2.2))) (va_A (zW_0 cy h0 w0) sz)) 0 0 (va_A (zW_0 cy h0 w0) sz) := by
  refine Met.ofW (cc := cX0_tell) (maxL := 3) (ret := (some .int)) (by decide) rfl ?_
  intro p e s m args below meth c s₁ B hml hv
  obtain ⟨ha, hsz, hP, hK, hD0, hG⟩ := hv
  have hx := B.exec
  have hb := B.bytes
  have hr := B.returns
  have hts : ∀ w ∈ wsA, w.before args s = true := fun w h => atoms_spec (ws := wsM yX0_tell cX0_tell 3 (some .int)) B.pre w (List.mem_cons_of_mem _ h)
  have hown : s.vm.findClass RX0 = some m.cls := findClass_of_methodNamed B.named
  have hlocks := B.notSynchronized
  subst hsz
  have hD := hD0.self (sz := s.heap.size)
  generalize hAe : va_A (zW_0 cy h0 w0) s.heap.size = A at hD hG ⊢
  have hA : ∀ q : Nat, s.heap.size ≤ q → A q := fun q h => by rw [← hAe]; exact Or.inr h
  have hS : va_S A s.heap s.heap [] := va_S.rf
  have hP : va_P (dC, dI) vwCl (zW_0 cy h0 (ups (ups (ups w0 0 (w0 0)) 1 (w0 1)) 2 (w0 2))) s.heap := hP
  have hD : va_D A (zW_0 cy h0 (ups (ups (ups w0 0 (w0 0)) 1 (w0 1)) 2 (w0 2))) := hD
  obtain ⟨ls, hl, he⟩ := zent (m := m) (n := 3) (L := [(0, .ref (h0 0)), (1, .int x1), (2, .int x2)]) ha (Nat.le_of_ble_eq_true rfl) rfl
  refine W.eq he ?_
  unfold fX0_tell at hf
  have kE : ∀ (H : Heap) (locs : List Loc), va_P (dC, dI) vwCl (zW_0 cy h0 (ups (ups (ups w0 0 (w0 0)) 1 (w0 1)) 2 (w0 2))) H → va_D A (zW_0 cy h0 (ups (ups (ups w0 0 (w0 0)) 1 (w0 1)) 2 (w0 2))) → va_S A s.heap H locs → W p l e ({ frames := 0, cells := 0, slots := 0, locals := 0 } : Room) s m args below meth c H locs 0 0 (MQ below (va_Qi (fun (q : Int32) (v : (Nat → Int32) × (Nat → Int32) × (Nat → Int32)) => (q, v) = z) (fun v => aWR (dC, dI) vwCl [(cy, .int)] A (zW_0 cy h0 (ups (ups (ups w0 0 v.1) 1 v.2.1) 2 v.2.2))) A) args s 0 0 A) (F0 m 0 ls []) := by
    intro H locs hP hD hS
    refine lv_aload_n hx hb dX0_tell_0 rfl (lv_at hl 0 rfl) ?_
    refine zget hx hb hts hown hK hP hin_0 0 rfl rfl 2 (by decide) mw_52 (v := .int (w0 0 2)) rfl dX0_tell_1 ?_
    refine lv_if_lt (tgt := 61) hx hb dX0_tell_4 (by decide) (fun hc => ?_) (fun hc => ?_)
    · have hf := it_t hc hf
      refine lv_aload_n hx hb dX0_tell_61 rfl (lv_at hl 0 rfl) ?_
      refine zget hx hb hts hown hK hP hin_0 0 rfl rfl 2 (by decide) mw_52 (v := .int (w0 0 2)) rfl dX0_tell_62 ?_
      exact zretI hx hb hr hlocks hP hK hD hS hf rfl dX0_tell_65
    · have hf := it_f hc hf
      refine lv_aload_n hx hb dX0_tell_7 rfl (lv_at hl 0 rfl) ?_
      refine zget hx hb hts hown hK hP hin_0 0 rfl rfl 2 (by decide) mw_52 (v := .int (w0 0 2)) rfl dX0_tell_8 ?_
      refine lv_aload_n hx hb dX0_tell_11 rfl (lv_at hl 0 rfl) ?_
      refine zget hx hb hts hown hK hP hin_0 0 rfl rfl 0 (by decide) mw_50 (v := .ref (h0 1)) rfl dX0_tell_12 ?_
      refine va_alen hx hb hK hP 1 0 rfl rfl (v := (8 : Int32)) (show Int32.ofNat 8 = (8 : Int32) from by decide) dX0_tell_15 ?_
      refine lv_icmp_ge (tgt := 61) hx hb dX0_tell_16 (by decide) (fun hc => ?_) (fun hc => ?_)
      · have hf := it_t hc hf
        refine lv_aload_n hx hb dX0_tell_61 rfl (lv_at hl 0 rfl) ?_
        refine zget hx hb hts hown hK hP hin_0 0 rfl rfl 2 (by decide) mw_52 (v := .int (w0 0 2)) rfl dX0_tell_62 ?_
        exact zretI hx hb hr hlocks hP hK hD hS hf rfl dX0_tell_65
      · have hf := it_f hc hf
        refine lv_aload_n hx hb dX0_tell_19 rfl (lv_at hl 0 rfl) ?_
        refine zget hx hb hts hown hK hP hin_0 0 rfl rfl 2 (by decide) mw_52 (v := .int (w0 0 2)) rfl dX0_tell_20 ?_
        refine lv_aload_n hx hb dX0_tell_23 rfl (lv_at hl 0 rfl) ?_
        refine zget hx hb hts hown hK hP hin_0 0 rfl rfl 1 (by decide) mw_51 (v := .ref (h0 2)) rfl dX0_tell_24 ?_
        refine va_alen hx hb hK hP 2 0 rfl rfl (v := (8 : Int32)) (show Int32.ofNat 8 = (8 : Int32) from by decide) dX0_tell_27 ?_
        refine lv_icmp_ge (tgt := 61) hx hb dX0_tell_28 (by decide) (fun hc => ?_) (fun hc => ?_)
        · have hf := it_t hc hf
          refine lv_aload_n hx hb dX0_tell_61 rfl (lv_at hl 0 rfl) ?_
          refine zget hx hb hts hown hK hP hin_0 0 rfl rfl 2 (by decide) mw_52 (v := .int (w0 0 2)) rfl dX0_tell_62 ?_
          exact zretI hx hb hr hlocks hP hK hD hS hf rfl dX0_tell_65
        · have hf := it_f hc hf
          refine lv_aload_n hx hb dX0_tell_31 rfl (lv_at hl 0 rfl) ?_
          refine zget hx hb hts hown hK hP hin_0 0 rfl rfl 0 (by decide) mw_50 (v := .ref (h0 1)) rfl dX0_tell_32 ?_
          refine lv_aload_n hx hb dX0_tell_35 rfl (lv_at hl 0 rfl) ?_
          refine zget hx hb hts hown hK hP hin_0 0 rfl rfl 2 (by decide) mw_52 (v := .int (w0 0 2)) rfl dX0_tell_36 ?_
          refine lv_iload_n hx hb dX0_tell_39 rfl (lv_at hl 1 rfl) ?_
          obtain ⟨hin1, hf⟩ := gd_d hf
          obtain ⟨g2, hg2, hf⟩ := nm_d hf
          refine zast hx hb hK hP hD hS 1 (wn := (zW_0 cy h0 (ups (ups (ups w0 0 (w0 0)) 1 g2) 2 (w0 2)))) hg2 rfl rfl hin1 rfl dX0_tell_40 (fun H locs hP hD hS => ?_)
          refine lv_aload_n hx hb dX0_tell_41 rfl (lv_at hl 0 rfl) ?_
          refine zget hx hb hts hown hK hP hin_0 0 rfl rfl 1 (by decide) mw_51 (v := .ref (h0 2)) rfl dX0_tell_42 ?_
          refine lv_aload_n hx hb dX0_tell_45 rfl (lv_at hl 0 rfl) ?_
          refine zget hx hb hts hown hK hP hin_0 0 rfl rfl 2 (by decide) mw_52 (v := .int (w0 0 2)) rfl dX0_tell_46 ?_
          refine lv_iload_n hx hb dX0_tell_49 rfl (lv_at hl 2 rfl) ?_
          obtain ⟨hin3, hf⟩ := gd_d hf
          obtain ⟨g4, hg4, hf⟩ := nm_d hf
          refine zast hx hb hK hP hD hS 2 (wn := (zW_0 cy h0 (ups (ups (ups w0 0 (w0 0)) 1 g2) 2 g4))) hg4 rfl rfl hin3 rfl dX0_tell_50 (fun H locs hP hD hS => ?_)
          refine lv_aload_n hx hb dX0_tell_51 rfl (lv_at hl 0 rfl) ?_
          refine lv_dup hx hb dX0_tell_52 rfl ?_
          refine zget hx hb hts hown hK hP hin_0 0 rfl rfl 2 (by decide) mw_52 (v := .int (w0 0 2)) rfl dX0_tell_53 ?_
          refine lv_iconst (v := (1 : Int32)) hx hb dX0_tell_56 (by decide) ?_
          refine lv_iadd hx hb dX0_tell_57 ?_
          refine zput hx hb hts hown hK hP hD hS hin_0 tyX0 tyX0_ok nmX0 0 rfl rfl 2 (by decide) mw_52 rfl (v := .int ((w0 0 2) + (1 : Int32))) rfl rfl (Nat.le_of_ble_eq_true rfl) (wn := (zW_0 cy h0 (ups (ups (ups w0 0 (ups (w0 0) 2 ((w0 0 2) + (1 : Int32)))) 1 g2) 2 g4))) rfl dX0_tell_58 (fun H locs hP hD hS => ?_)
          refine lv_aload_n hx hb dX0_tell_61 rfl (lv_at hl 0 rfl) ?_
          refine zget hx hb hts hown hK hP hin_0 0 rfl rfl 2 (by decide) mw_52 (v := .int ((w0 0 2) + (1 : Int32))) rfl dX0_tell_62 ?_
          exact zretI hx hb hr hlocks hP hK hD hS hf rfl dX0_tell_65
  exact kE s.heap [] hP hD hS
set_option maxHeartbeats 4000000 in
set_option maxRecDepth 100000 in
theorem kX7_isSea (l : Launch) (dC : Nat → ClassId) (dI : Nat → Nat → Nat) (cy : ClassId) (x0 : Int32) (z : Int32) (hf : fX7_isSea x0 = some z) : Met l yX7_isSea (wsM yX7_isSea cX7_isSea 1 (some .boolean)) ({ frames := 0, cells := 0, slots := 0, locals := 0 } : Room) (va_Pc [.int x0] (pRO (dC, dI) vwCl [(cy, .int)] ([] : va_W))) (vp_Si (fun q => q = z)) 0 0 (fun _ => False) := by
  refine Met.ofW (cc := cX7_isSea) (maxL := 1) (ret := (some .boolean)) (by decide) rfl ?_
  intro p e s m args below meth c s₁ B hml hv
  obtain ⟨ha, hP, hK, hG⟩ := hv
  have hx := B.exec
  have hb := B.bytes
  have hr := B.returns
  have hts : ∀ w ∈ wsA, w.before args s = true := fun w h => atoms_spec (ws := wsM yX7_isSea cX7_isSea 1 (some .boolean)) B.pre w (List.mem_cons_of_mem _ h)
  have hown : s.vm.findClass RX7 = some m.cls := findClass_of_methodNamed B.named
  have hlocks := B.notSynchronized
  have hS : va_S (fun _ => False) s.heap s.heap [] := va_S.rf
  obtain ⟨ls, hl, he⟩ := zent (m := m) (n := 1) (L := [(0, .int x0)]) ha (Nat.le_of_ble_eq_true rfl) rfl
  refine W.eq he ?_
  unfold fX7_isSea at hf
  have kE : W p l e ({ frames := 0, cells := 0, slots := 0, locals := 0 } : Room) s m args below meth c s.heap [] 0 0 (MQ below (vp_Si (fun q => q = z)) args s 0 0 (fun _ => False)) (F0 m 0 ls []) := by
    refine lv_iload_n hx hb dX7_isSea_0 rfl (lv_at hl 0 rfl) ?_
    refine lv_if_le (tgt := 14) hx hb dX7_isSea_1 (by decide) (fun hc => ?_) (fun hc => ?_)
    · have hf := it_t hc hf
      refine lv_iconst (v := (0 : Int32)) hx hb dX7_isSea_14 (by decide) ?_
      exact zretRZ hx hb hr hlocks rfl hf dX7_isSea_15
    · have hf := it_f hc hf
      refine lv_iload_n hx hb dX7_isSea_4 rfl (lv_at hl 0 rfl) ?_
      refine lv_bipush (v := (20 : Int32)) hx hb dX7_isSea_5 (by decide) ?_
      refine lv_icmp_gt (tgt := 14) hx hb dX7_isSea_7 (by decide) (fun hc => ?_) (fun hc => ?_)
      · have hf := it_t hc hf
        refine lv_iconst (v := (0 : Int32)) hx hb dX7_isSea_14 (by decide) ?_
        exact zretRZ hx hb hr hlocks rfl hf dX7_isSea_15
      · have hf := it_f hc hf
        refine lv_iconst (v := (1 : Int32)) hx hb dX7_isSea_10 (by decide) ?_
        refine lv_goto (tgt := 15) hx hb dX7_isSea_11 (by decide) ?_
        exact zretRZ hx hb hr hlocks rfl hf dX7_isSea_15
  exact kE
set_option maxHeartbeats 4000000 in
set_option maxRecDepth 100000 in
theorem kX6_floatsAt (l : Launch) (dC : Nat → ClassId) (dI : Nat → Nat → Nat) (cy : ClassId) (h0 : Nat → Nat) (w0 : Nat → Nat → Int32) (x1 : Int32) (z : Int32) (hf : fX6_floatsAt w0 x1 = some z) : Met l yX6_floatsAt (wsM yX6_floatsAt cX6_floatsAt 3 (some .boolean)) ({ frames := 1, cells := 0, slots := 0, locals := 21 } : Room) (va_Pc [.ref (h0 0), .int x1] (pRO (dC, dI) vwCl [(cy, .int)] (zW_6 cy h0 w0))) (vp_Si (fun q => q = z)) 0 0 (fun _ => False) := by
  refine Met.ofW (cc := cX6_floatsAt) (maxL := 3) (ret := (some .boolean)) (by decide) rfl ?_
  intro p e s m args below meth c s₁ B hml hv
  obtain ⟨ha, hP, hK, hG⟩ := hv
  have hx := B.exec
  have hb := B.bytes
  have hr := B.returns
  have hts : ∀ w ∈ wsA, w.before args s = true := fun w h => atoms_spec (ws := wsM yX6_floatsAt cX6_floatsAt 3 (some .boolean)) B.pre w (List.mem_cons_of_mem _ h)
  have hown : s.vm.findClass RX6 = some m.cls := findClass_of_methodNamed B.named
  have hlocks := B.notSynchronized
  have hS : va_S (fun _ => False) s.heap s.heap [] := va_S.rf
  obtain ⟨ls, hl, he⟩ := zent (m := m) (n := 3) (L := [(0, .ref (h0 0)), (1, .int x1)]) ha (Nat.le_of_ble_eq_true rfl) rfl
  refine W.eq he ?_
  unfold fX6_floatsAt at hf
  have kE : W p l e ({ frames := 1, cells := 0, slots := 0, locals := 21 } : Room) s m args below meth c s.heap [] 0 0 (MQ below (vp_Si (fun q => q = z)) args s 0 0 (fun _ => False)) (F0 m 0 ls []) := by
    refine lv_aload_n hx hb dX6_floatsAt_0 rfl (lv_at hl 0 rfl) ?_
    refine zget hx hb hts hown hK hP hin_6 0 rfl rfl 0 (by decide) mw_56 (v := .ref (h0 1)) rfl dX6_floatsAt_1 ?_
    refine lv_iload_n hx hb dX6_floatsAt_4 rfl (lv_at hl 1 rfl) ?_
    obtain ⟨r2, hq1, hf⟩ := ob1_d hf
    refine zroV (q := (RX1, TX1, 3)) (As := [.int x1]) (rest := []) (r := r2) ⟨hx, hb, hml, hown, hts⟩ (kX1_has l dC dI cy (sh 1 h0) (sh 1 w0) x1 r2 hq1) mw_258 mw_209 mw_210 mw_4 mw_211 hdX1_has rfl rfl ⟨Nat.le_of_ble_eq_true rfl, Nat.le_of_ble_eq_true rfl⟩ hP hK hG hS 1 rfl rfl [1, 2] rfl rfl hl.1 rfl (Nat.le_of_ble_eq_true rfl) dX6_floatsAt_5 ⟨Nat.zero_le _, Nat.zero_le _⟩ ?_
    refine lv_if_ne (tgt := 13) hx hb dX6_floatsAt_8 (by decide) (fun hc => ?_) (fun hc => ?_)
    · have hf := it_f hc hf
      refine lv_aload_n hx hb dX6_floatsAt_13 rfl (lv_at hl 0 rfl) ?_
      refine zget hx hb hts hown hK hP hin_6 0 rfl rfl 0 (by decide) mw_56 (v := .ref (h0 1)) rfl dX6_floatsAt_14 ?_
      refine lv_iload_n hx hb dX6_floatsAt_17 rfl (lv_at hl 1 rfl) ?_
      obtain ⟨r4, hq3, hf⟩ := ob1_d hf
      refine zroV (q := (RX1, TX1, 3)) (As := [.int x1]) (rest := []) (r := r4) ⟨hx, hb, hml, hown, hts⟩ (kX1_groundAt l dC dI cy (sh 1 h0) (sh 1 w0) x1 r4 hq3) mw_259 mw_213 mw_214 mw_4 mw_215 hdX1_groundAt rfl rfl ⟨Nat.le_of_ble_eq_true rfl, Nat.le_of_ble_eq_true rfl⟩ hP hK hG hS 1 rfl rfl [1, 2] rfl rfl hl.1 rfl (Nat.le_of_ble_eq_true rfl) dX6_floatsAt_18 ⟨Nat.zero_le _, Nat.zero_le _⟩ ?_
      refine lv_istore_n (lv' := [(2, .int r4), (0, .ref (h0 0)), (1, .int x1)]) hx hb dX6_floatsAt_21 rfl hl (by decide) rfl (fun ls hl => ?_)
      refine lv_iload_n hx hb dX6_floatsAt_22 rfl (lv_at hl 0 rfl) ?_
      obtain ⟨r6, hq5, hf⟩ := ob1_d hf
      refine zroSN (As := [.int r4]) (rest := []) (r := r6) ⟨hx, hb, hml, hown, hts⟩ (kX7_isSea l dC dI cy r4 r6 hq5) (List.mem_of_getElem? (i := 7) rfl) mw_260 mw_1 mw_261 hdX7_isSea rfl rfl ⟨Nat.le_of_ble_eq_true rfl, Nat.le_of_ble_eq_true rfl⟩ hP hK hG hS [] rfl rfl hl.1 rfl (Nat.le_of_ble_eq_true rfl) dX6_floatsAt_23 ⟨Nat.zero_le _, Nat.zero_le _⟩ ?_
      refine lv_if_eq (tgt := 41) hx hb dX6_floatsAt_26 (by decide) (fun hc => ?_) (fun hc => ?_)
      · have hf := it_t hc hf
        refine lv_iconst (v := (0 : Int32)) hx hb dX6_floatsAt_41 (by decide) ?_
        exact zretRZ hx hb hr hlocks rfl hf dX6_floatsAt_42
      · have hf := it_f hc hf
        refine lv_iload_n hx hb dX6_floatsAt_29 rfl (lv_at hl 0 rfl) ?_
        refine lv_aload_n hx hb dX6_floatsAt_30 rfl (lv_at hl 1 rfl) ?_
        refine zget hx hb hts hown hK hP hin_6 0 rfl rfl 4 (by decide) mw_60 (v := .int (w0 0 4)) rfl dX6_floatsAt_31 ?_
        refine lv_icmp_lt (tgt := 41) hx hb dX6_floatsAt_34 (by decide) (fun hc => ?_) (fun hc => ?_)
        · have hf := it_t hc hf
          refine lv_iconst (v := (0 : Int32)) hx hb dX6_floatsAt_41 (by decide) ?_
          exact zretRZ hx hb hr hlocks rfl hf dX6_floatsAt_42
        · have hf := it_f hc hf
          refine lv_iconst (v := (1 : Int32)) hx hb dX6_floatsAt_37 (by decide) ?_
          refine lv_goto (tgt := 42) hx hb dX6_floatsAt_38 (by decide) ?_
          exact zretRZ hx hb hr hlocks rfl hf dX6_floatsAt_42
    · have hf := it_t hc hf
      refine lv_iconst (v := (0 : Int32)) hx hb dX6_floatsAt_11 (by decide) ?_
      exact zretRZ hx hb hr hlocks rfl hf dX6_floatsAt_12
  exact kE
set_option maxHeartbeats 4000000 in
set_option maxRecDepth 100000 in
theorem kX0_latestAt (l : Launch) (dC : Nat → ClassId) (dI : Nat → Nat → Nat) (cy : ClassId) (h0 : Nat → Nat) (w0 : Nat → Nat → Int32) (x1 : Int32) (z : Int32) (hf : fX0_latestAt w0 x1 = some z) : Met l yX0_latestAt (wsM yX0_latestAt cX0_latestAt 5 (some .int)) ({ frames := 0, cells := 0, slots := 0, locals := 0 } : Room) (va_Pc [.ref (h0 0), .int x1] (pRO (dC, dI) vwCl [(cy, .int)] (zW_0 cy h0 w0))) (vp_Si (fun q => q = z)) 0 0 (fun _ => False) := by
  refine Met.ofW (cc := cX0_latestAt) (maxL := 5) (ret := (some .int)) (by decide) rfl ?_
  intro p e s m args below meth c s₁ B hml hv
  obtain ⟨ha, hP, hK, hG⟩ := hv
  have hx := B.exec
  have hb := B.bytes
  have hr := B.returns
  have hts : ∀ w ∈ wsA, w.before args s = true := fun w h => atoms_spec (ws := wsM yX0_latestAt cX0_latestAt 5 (some .int)) B.pre w (List.mem_cons_of_mem _ h)
  have hown : s.vm.findClass RX0 = some m.cls := findClass_of_methodNamed B.named
  have hlocks := B.notSynchronized
  have hS : va_S (fun _ => False) s.heap s.heap [] := va_S.rf
  have k74 : ∀ (s7 : Int32 → Int32 → Int32 → Int32 → Option (Int32)) (hs7 : ∀ (x1 : Int32) (x2 : Int32) (x3 : Int32) (x4 : Int32) (ls : Array Slot), lv_has ls 5 [(0, .ref (h0 0)), (1, .int x1), (2, .int x2), (3, .int x3), (4, .int x4)] → s7 x1 x2 x3 x4 = some z → W p l e ({ frames := 0, cells := 0, slots := 0, locals := 0 } : Room) s m args below meth c s.heap [] 0 0 (MQ below (vp_Si (fun q => q = z)) args s 0 0 (fun _ => False)) (F0 m 7 ls [])), ∀ (x1 : Int32) (x2 : Int32) (x3 : Int32) (x4 : Int32) (ls : Array Slot), lv_has ls 5 [(0, .ref (h0 0)), (1, .int x1), (2, .int x2), (3, .int x3), (4, .int x4)] → (fX0_latestAt_74 w0 s7) x1 x2 x3 x4 = some z → W p l e ({ frames := 0, cells := 0, slots := 0, locals := 0 } : Room) s m args below meth c s.heap [] 0 0 (MQ below (vp_Si (fun q => q = z)) args s 0 0 (fun _ => False)) (F0 m 74 ls []) := by
    intro s7 hs7
    intro x1 x2 x3 x4 ls hl hf
    unfold fX0_latestAt_74 at hf
    refine lv_zinc (lv' := [(4, .int (x4 + (1 : Int32))), (0, .ref (h0 0)), (1, .int x1), (2, .int x2), (3, .int x3)]) hx hb dX0_latestAt_74 hl (k := 4) rfl (v := (1 : Int32)) (by decide) (by decide) rfl (fun ls hl => ?_)
    refine lv_goto (tgt := 7) hx hb dX0_latestAt_77 (by decide) ?_
    exact hs7 x1 x2 x3 (x4 + (1 : Int32)) ls (lv_sub hl [1, 2, 3, 4, 0] rfl) hf
  have k7 : ∀ n : Nat, ∀ (x1 : Int32) (x2 : Int32) (x3 : Int32) (x4 : Int32) (ls : Array Slot), lv_has ls 5 [(0, .ref (h0 0)), (1, .int x1), (2, .int x2), (3, .int x3), (4, .int x4)] → (zl4 (fX0_latestAt_7 w0) n) x1 x2 x3 x4 = some z → W p l e ({ frames := 0, cells := 0, slots := 0, locals := 0 } : Room) s m args below meth c s.heap [] 0 0 (MQ below (vp_Si (fun q => q = z)) args s 0 0 (fun _ => False)) (F0 m 7 ls []) := by
    intro n
    induction n with
    | zero =>
      intro x1 x2 x3 x4 ls hl hf
      exact z_no hf
    | succ n hs7 =>
      intro x1 x2 x3 x4 ls hl hf
      have hf : fX0_latestAt_7 w0 (zl4 (fX0_latestAt_7 w0) n) x1 x2 x3 x4 = some z := hf
      generalize zl4 (fX0_latestAt_7 w0) n = s7 at hs7 hf
      unfold fX0_latestAt_7 at hf
      refine lv_iload hx hb dX0_latestAt_7 (lv_at hl 4 rfl) ?_
      refine lv_aload_n hx hb dX0_latestAt_9 rfl (lv_at hl 0 rfl) ?_
      refine zget hx hb hts hown hK hP hin_0 0 rfl rfl 2 (by decide) mw_52 (v := .int (w0 0 2)) rfl dX0_latestAt_10 ?_
      refine lv_icmp_ge (tgt := 80) hx hb dX0_latestAt_13 (by decide) (fun hc => ?_) (fun hc => ?_)
      · have hf := it_t hc hf
        refine lv_iload_n hx hb dX0_latestAt_80 rfl (lv_at hl 3 rfl) ?_
        exact zretR hx hb hr hlocks hf dX0_latestAt_81
      · have hf := it_f hc hf
        refine lv_iload hx hb dX0_latestAt_16 (lv_at hl 4 rfl) ?_
        refine lv_aload_n hx hb dX0_latestAt_18 rfl (lv_at hl 0 rfl) ?_
        refine zget hx hb hts hown hK hP hin_0 0 rfl rfl 0 (by decide) mw_50 (v := .ref (h0 1)) rfl dX0_latestAt_19 ?_
        refine va_alen hx hb hK hP 1 0 rfl rfl (v := (8 : Int32)) (show Int32.ofNat 8 = (8 : Int32) from by decide) dX0_latestAt_22 ?_
        refine lv_icmp_ge (tgt := 80) hx hb dX0_latestAt_23 (by decide) (fun hc => ?_) (fun hc => ?_)
        · have hf := it_t hc hf
          refine lv_iload_n hx hb dX0_latestAt_80 rfl (lv_at hl 3 rfl) ?_
          exact zretR hx hb hr hlocks hf dX0_latestAt_81
        · have hf := it_f hc hf
          refine lv_iload hx hb dX0_latestAt_26 (lv_at hl 4 rfl) ?_
          refine lv_aload_n hx hb dX0_latestAt_28 rfl (lv_at hl 0 rfl) ?_
          refine zget hx hb hts hown hK hP hin_0 0 rfl rfl 1 (by decide) mw_51 (v := .ref (h0 2)) rfl dX0_latestAt_29 ?_
          refine va_alen hx hb hK hP 2 0 rfl rfl (v := (8 : Int32)) (show Int32.ofNat 8 = (8 : Int32) from by decide) dX0_latestAt_32 ?_
          refine lv_icmp_ge (tgt := 80) hx hb dX0_latestAt_33 (by decide) (fun hc => ?_) (fun hc => ?_)
          · have hf := it_t hc hf
            refine lv_iload_n hx hb dX0_latestAt_80 rfl (lv_at hl 3 rfl) ?_
            exact zretR hx hb hr hlocks hf dX0_latestAt_81
          · have hf := it_f hc hf
            refine lv_aload_n hx hb dX0_latestAt_36 rfl (lv_at hl 0 rfl) ?_
            refine zget hx hb hts hown hK hP hin_0 0 rfl rfl 0 (by decide) mw_50 (v := .ref (h0 1)) rfl dX0_latestAt_37 ?_
            refine lv_iload hx hb dX0_latestAt_40 (lv_at hl 4 rfl) ?_
            obtain ⟨hin1, hf⟩ := gd_d hf
            refine va_iald hx hb hK hP 1 0 rfl rfl hin1 dX0_latestAt_42 ?_
            refine lv_iload_n hx hb dX0_latestAt_43 rfl (lv_at hl 1 rfl) ?_
            refine lv_icmp_gt (tgt := 74) hx hb dX0_latestAt_44 (by decide) (fun hc => ?_) (fun hc => ?_)
            · have hf := it_t hc hf
              exact k74 s7 hs7 x1 x2 x3 x4 ls (lv_sub hl [0, 1, 2, 3, 4] rfl) hf
            · have hf := it_f hc hf
              refine lv_aload_n hx hb dX0_latestAt_47 rfl (lv_at hl 0 rfl) ?_
              refine zget hx hb hts hown hK hP hin_0 0 rfl rfl 0 (by decide) mw_50 (v := .ref (h0 1)) rfl dX0_latestAt_48 ?_
              refine lv_iload hx hb dX0_latestAt_51 (lv_at hl 4 rfl) ?_
              obtain ⟨hin2, hf⟩ := gd_d hf
              refine va_iald hx hb hK hP 1 0 rfl rfl hin2 dX0_latestAt_53 ?_
              refine lv_iload_n hx hb dX0_latestAt_54 rfl (lv_at hl 2 rfl) ?_
              refine lv_icmp_lt (tgt := 74) hx hb dX0_latestAt_55 (by decide) (fun hc => ?_) (fun hc => ?_)
              · have hf := it_t hc hf
                exact k74 s7 hs7 x1 x2 x3 x4 ls (lv_sub hl [0, 1, 2, 3, 4] rfl) hf
              · have hf := it_f hc hf
                refine lv_aload_n hx hb dX0_latestAt_58 rfl (lv_at hl 0 rfl) ?_
                refine zget hx hb hts hown hK hP hin_0 0 rfl rfl 0 (by decide) mw_50 (v := .ref (h0 1)) rfl dX0_latestAt_59 ?_
                refine lv_iload hx hb dX0_latestAt_62 (lv_at hl 4 rfl) ?_
                obtain ⟨hin3, hf⟩ := gd_d hf
                refine va_iald hx hb hK hP 1 0 rfl rfl hin3 dX0_latestAt_64 ?_
                refine lv_istore_n (lv' := [(2, .int ((w0 1) (x4).toNatClampNeg)), (0, .ref (h0 0)), (1, .int x1), (3, .int x3), (4, .int x4)]) hx hb dX0_latestAt_65 rfl hl (by decide) rfl (fun ls hl => ?_)
                refine lv_aload_n hx hb dX0_latestAt_66 rfl (lv_at hl 1 rfl) ?_
                refine zget hx hb hts hown hK hP hin_0 0 rfl rfl 1 (by decide) mw_51 (v := .ref (h0 2)) rfl dX0_latestAt_67 ?_
                refine lv_iload hx hb dX0_latestAt_70 (lv_at hl 4 rfl) ?_
                obtain ⟨hin4, hf⟩ := gd_d hf
                refine va_iald hx hb hK hP 2 0 rfl rfl hin4 dX0_latestAt_72 ?_
                refine lv_istore_n (lv' := [(3, .int ((w0 2) (x4).toNatClampNeg)), (2, .int ((w0 1) (x4).toNatClampNeg)), (0, .ref (h0 0)), (1, .int x1), (4, .int x4)]) hx hb dX0_latestAt_73 rfl hl (by decide) rfl (fun ls hl => ?_)
                exact k74 s7 hs7 x1 ((w0 1) (x4).toNatClampNeg) ((w0 2) (x4).toNatClampNeg) x4 ls (lv_sub hl [2, 3, 1, 0, 4] rfl) hf
  obtain ⟨ls, hl, he⟩ := zent (m := m) (n := 5) (L := [(0, .ref (h0 0)), (1, .int x1)]) ha (Nat.le_of_ble_eq_true rfl) rfl
  refine W.eq he ?_
  unfold fX0_latestAt at hf
  have kE : W p l e ({ frames := 0, cells := 0, slots := 0, locals := 0 } : Room) s m args below meth c s.heap [] 0 0 (MQ below (vp_Si (fun q => q = z)) args s 0 0 (fun _ => False)) (F0 m 0 ls []) := by
    refine lv_iconst (v := (0 : Int32)) hx hb dX0_latestAt_0 (by decide) ?_
    refine lv_istore_n (lv' := [(2, .int (0 : Int32)), (0, .ref (h0 0)), (1, .int x1)]) hx hb dX0_latestAt_1 rfl hl (by decide) rfl (fun ls hl => ?_)
    refine lv_iconst (v := (0 : Int32)) hx hb dX0_latestAt_2 (by decide) ?_
    refine lv_istore_n (lv' := [(3, .int (0 : Int32)), (2, .int (0 : Int32)), (0, .ref (h0 0)), (1, .int x1)]) hx hb dX0_latestAt_3 rfl hl (by decide) rfl (fun ls hl => ?_)
    refine lv_iconst (v := (0 : Int32)) hx hb dX0_latestAt_4 (by decide) ?_
    refine lv_istore (lv' := [(4, .int (0 : Int32)), (3, .int (0 : Int32)), (2, .int (0 : Int32)), (0, .ref (h0 0)), (1, .int x1)]) hx hb dX0_latestAt_5 hl (by decide) rfl (fun ls hl => ?_)
    exact k7 zFU x1 (0 : Int32) (0 : Int32) (0 : Int32) ls (lv_sub hl [3, 4, 2, 1, 0] rfl) hf
  exact kE
set_option maxHeartbeats 4000000 in
set_option maxRecDepth 100000 in
theorem kX7_goneRound (l : Launch) (dC : Nat → ClassId) (dI : Nat → Nat → Nat) (cy : ClassId) (x0 : Int32) (z : Int32) (hf : fX7_goneRound x0 = some z) : Met l yX7_goneRound (wsM yX7_goneRound cX7_goneRound 1 (some .int)) ({ frames := 0, cells := 0, slots := 0, locals := 0 } : Room) (va_Pc [.int x0] (pRO (dC, dI) vwCl [(cy, .int)] ([] : va_W))) (vp_Si (fun q => q = z)) 0 0 (fun _ => False) := by
  refine Met.ofW (cc := cX7_goneRound) (maxL := 1) (ret := (some .int)) (by decide) rfl ?_
  intro p e s m args below meth c s₁ B hml hv
  obtain ⟨ha, hP, hK, hG⟩ := hv
  have hx := B.exec
  have hb := B.bytes
  have hr := B.returns
  have hts : ∀ w ∈ wsA, w.before args s = true := fun w h => atoms_spec (ws := wsM yX7_goneRound cX7_goneRound 1 (some .int)) B.pre w (List.mem_cons_of_mem _ h)
  have hown : s.vm.findClass RX7 = some m.cls := findClass_of_methodNamed B.named
  have hlocks := B.notSynchronized
  have hS : va_S (fun _ => False) s.heap s.heap [] := va_S.rf
  obtain ⟨ls, hl, he⟩ := zent (m := m) (n := 1) (L := [(0, .int x0)]) ha (Nat.le_of_ble_eq_true rfl) rfl
  refine W.eq he ?_
  unfold fX7_goneRound at hf
  have kE : W p l e ({ frames := 0, cells := 0, slots := 0, locals := 0 } : Room) s m args below meth c s.heap [] 0 0 (MQ below (vp_Si (fun q => q = z)) args s 0 0 (fun _ => False)) (F0 m 0 ls []) := by
    refine lv_iload_n hx hb dX7_goneRound_0 rfl (lv_at hl 0 rfl) ?_
    refine lv_bipush (v := (7 : Int32)) hx hb dX7_goneRound_1 (by decide) ?_
    refine lv_iand hx hb dX7_goneRound_3 ?_
    exact zretR hx hb hr hlocks hf dX7_goneRound_4
  exact kE
set_option maxHeartbeats 4000000 in
set_option maxRecDepth 100000 in
theorem kX7_leeOf (l : Launch) (dC : Nat → ClassId) (dI : Nat → Nat → Nat) (cy : ClassId) (x0 : Int32) (z : Int32) (hf : fX7_leeOf x0 = some z) : Met l yX7_leeOf (wsM yX7_leeOf cX7_leeOf 1 (some .int)) ({ frames := 1, cells := 0, slots := 0, locals := 20 } : Room) (va_Pc [.int x0] (pRO (dC, dI) vwCl [(cy, .int)] ([] : va_W))) (vp_Si (fun q => q = z)) 0 0 (fun _ => False) := by
  refine Met.ofW (cc := cX7_leeOf) (maxL := 1) (ret := (some .int)) (by decide) rfl ?_
  intro p e s m args below meth c s₁ B hml hv
  obtain ⟨ha, hP, hK, hG⟩ := hv
  have hx := B.exec
  have hb := B.bytes
  have hr := B.returns
  have hts : ∀ w ∈ wsA, w.before args s = true := fun w h => atoms_spec (ws := wsM yX7_leeOf cX7_leeOf 1 (some .int)) B.pre w (List.mem_cons_of_mem _ h)
  have hown : s.vm.findClass RX7 = some m.cls := findClass_of_methodNamed B.named
  have hlocks := B.notSynchronized
  have hS : va_S (fun _ => False) s.heap s.heap [] := va_S.rf
  obtain ⟨ls, hl, he⟩ := zent (m := m) (n := 1) (L := [(0, .int x0)]) ha (Nat.le_of_ble_eq_true rfl) rfl
  refine W.eq he ?_
  unfold fX7_leeOf at hf
  have kE : W p l e ({ frames := 1, cells := 0, slots := 0, locals := 20 } : Room) s m args below meth c s.heap [] 0 0 (MQ below (vp_Si (fun q => q = z)) args s 0 0 (fun _ => False)) (F0 m 0 ls []) := by
    refine lv_iload_n hx hb dX7_leeOf_0 rfl (lv_at hl 0 rfl) ?_
    refine lv_iconst (v := (4 : Int32)) hx hb dX7_leeOf_1 (by decide) ?_
    refine lv_iadd hx hb dX7_leeOf_2 ?_
    obtain ⟨r2, hq1, hf⟩ := ob1_d hf
    refine zroS (As := [.int (x0 + (4 : Int32))]) (rest := []) (r := r2) ⟨hx, hb, hml, hown, hts⟩ (kX7_goneRound l dC dI cy (x0 + (4 : Int32)) r2 hq1) mw_276 mw_271 mw_1 mw_272 hdX7_goneRound rfl rfl ⟨Nat.le_of_ble_eq_true rfl, Nat.le_of_ble_eq_true rfl⟩ hP hK hG hS [] rfl rfl hl.1 rfl (Nat.le_of_ble_eq_true rfl) dX7_leeOf_3 ⟨Nat.zero_le _, Nat.zero_le _⟩ ?_
    exact zretR hx hb hr hlocks hf dX7_leeOf_6
  exact kE
set_option maxHeartbeats 4000000 in
set_option maxRecDepth 100000 in
theorem kX6_livesOnBeach (l : Launch) (dC : Nat → ClassId) (dI : Nat → Nat → Nat) (cy : ClassId) (h0 : Nat → Nat) (w0 : Nat → Nat → Int32) (x1 : Int32) (x2 : Int32) (z : Int32) (hf : fX6_livesOnBeach w0 x1 x2 = some z) : Met l yX6_livesOnBeach (wsM yX6_livesOnBeach cX6_livesOnBeach 4 (some .int)) ({ frames := 1, cells := 0, slots := 0, locals := 21 } : Room) (va_Pc [.ref (h0 0), .int x1, .int x2] (pRO (dC, dI) vwCl [(cy, .int)] (zW_6 cy h0 w0))) (vp_Si (fun q => q = z)) 0 0 (fun _ => False) := by
  refine Met.ofW (cc := cX6_livesOnBeach) (maxL := 4) (ret := (some .int)) (by decide) rfl ?_
  intro p e s m args below meth c s₁ B hml hv
  obtain ⟨ha, hP, hK, hG⟩ := hv
  have hx := B.exec
  have hb := B.bytes
  have hr := B.returns
  have hts : ∀ w ∈ wsA, w.before args s = true := fun w h => atoms_spec (ws := wsM yX6_livesOnBeach cX6_livesOnBeach 4 (some .int)) B.pre w (List.mem_cons_of_mem _ h)
  have hown : s.vm.findClass RX6 = some m.cls := findClass_of_methodNamed B.named
  have hlocks := B.notSynchronized
  have hS : va_S (fun _ => False) s.heap s.heap [] := va_S.rf
  have k17 : ∀ (t0 : Int32) (t1 : Int32) (ls : Array Slot), lv_has ls 4 [(0, .ref (h0 0))] → (fX6_livesOnBeach_17 w0) t0 t1 = some z → W p l e ({ frames := 1, cells := 0, slots := 0, locals := 21 } : Room) s m args below meth c s.heap [] 0 0 (MQ below (vp_Si (fun q => q = z)) args s 0 0 (fun _ => False)) (F0 m 17 ls [.int t1, .int t0]) := by
    intro t0 t1 ls hl hf
    unfold fX6_livesOnBeach_17 at hf
    refine lv_iadd hx hb dX6_livesOnBeach_17 ?_
    refine lv_istore_n (lv' := [(3, .int (t0 + t1)), (0, .ref (h0 0))]) hx hb dX6_livesOnBeach_18 rfl hl (by decide) rfl (fun ls hl => ?_)
    refine lv_aload_n hx hb dX6_livesOnBeach_19 rfl (lv_at hl 1 rfl) ?_
    refine zget hx hb hts hown hK hP hin_6 0 rfl rfl 6 (by decide) mw_62 (v := .int (w0 0 6)) rfl dX6_livesOnBeach_20 ?_
    refine lv_aload_n hx hb dX6_livesOnBeach_23 rfl (lv_at hl 1 rfl) ?_
    refine zget hx hb hts hown hK hP hin_6 0 rfl rfl 6 (by decide) mw_62 (v := .int (w0 0 6)) rfl dX6_livesOnBeach_24 ?_
    refine lv_iload_n hx hb dX6_livesOnBeach_27 rfl (lv_at hl 0 rfl) ?_
    refine lv_imul hx hb dX6_livesOnBeach_28 ?_
    refine lv_bipush (v := (100 : Int32)) hx hb dX6_livesOnBeach_29 (by decide) ?_
    refine lv_idiv hx hb dX6_livesOnBeach_31 (by decide) ?_
    refine z_mmin hx hb hml hl.1 hts hown mw_293 (Nat.le_of_ble_eq_true rfl) (Nat.le_of_ble_eq_true rfl) (Nat.zero_le _) (Nat.zero_le _) dX6_livesOnBeach_32 ?_
    exact zretR hx hb hr hlocks hf dX6_livesOnBeach_35
  obtain ⟨ls, hl, he⟩ := zent (m := m) (n := 4) (L := [(0, .ref (h0 0)), (1, .int x1), (2, .int x2)]) ha (Nat.le_of_ble_eq_true rfl) rfl
  refine W.eq he ?_
  unfold fX6_livesOnBeach at hf
  have kE : W p l e ({ frames := 1, cells := 0, slots := 0, locals := 21 } : Room) s m args below meth c s.heap [] 0 0 (MQ below (vp_Si (fun q => q = z)) args s 0 0 (fun _ => False)) (F0 m 0 ls []) := by
    refine lv_bipush (v := (20 : Int32)) hx hb dX6_livesOnBeach_0 (by decide) ?_
    refine lv_bipush (v := (10 : Int32)) hx hb dX6_livesOnBeach_2 (by decide) ?_
    refine lv_iload_n hx hb dX6_livesOnBeach_4 rfl (lv_at hl 1 rfl) ?_
    refine lv_imul hx hb dX6_livesOnBeach_5 ?_
    refine lv_iadd hx hb dX6_livesOnBeach_6 ?_
    refine lv_iload_n hx hb dX6_livesOnBeach_7 rfl (lv_at hl 2 rfl) ?_
    refine lv_if_eq (tgt := 15) hx hb dX6_livesOnBeach_8 (by decide) (fun hc => ?_) (fun hc => ?_)
    · have hf := it_t hc hf
      refine lv_bipush (v := (30 : Int32)) hx hb dX6_livesOnBeach_15 (by decide) ?_
      exact k17 ((20 : Int32) + ((10 : Int32) * x1)) (30 : Int32) ls (lv_sub hl [0] rfl) hf
    · have hf := it_f hc hf
      refine lv_iconst (v := (0 : Int32)) hx hb dX6_livesOnBeach_11 (by decide) ?_
      refine lv_goto (tgt := 17) hx hb dX6_livesOnBeach_12 (by decide) ?_
      exact k17 ((20 : Int32) + ((10 : Int32) * x1)) (0 : Int32) ls (lv_sub hl [0] rfl) hf
  exact kE
set_option maxHeartbeats 4000000 in
set_option maxRecDepth 100000 in
theorem kX7_apart (l : Launch) (dC : Nat → ClassId) (dI : Nat → Nat → Nat) (cy : ClassId) (x0 : Int32) (x1 : Int32) (z : Int32) (hf : fX7_apart x0 x1 = some z) : Met l yX7_apart (wsM yX7_apart cX7_apart 3 (some .int)) ({ frames := 1, cells := 0, slots := 0, locals := 21 } : Room) (va_Pc [.int x0, .int x1] (pRO (dC, dI) vwCl [(cy, .int)] ([] : va_W))) (vp_Si (fun q => q = z)) 0 0 (fun _ => False) := by
  refine Met.ofW (cc := cX7_apart) (maxL := 3) (ret := (some .int)) (by decide) rfl ?_
  intro p e s m args below meth c s₁ B hml hv
  obtain ⟨ha, hP, hK, hG⟩ := hv
  have hx := B.exec
  have hb := B.bytes
  have hr := B.returns
  have hts : ∀ w ∈ wsA, w.before args s = true := fun w h => atoms_spec (ws := wsM yX7_apart cX7_apart 3 (some .int)) B.pre w (List.mem_cons_of_mem _ h)
  have hown : s.vm.findClass RX7 = some m.cls := findClass_of_methodNamed B.named
  have hlocks := B.notSynchronized
  have hS : va_S (fun _ => False) s.heap s.heap [] := va_S.rf
  obtain ⟨ls, hl, he⟩ := zent (m := m) (n := 3) (L := [(0, .int x0), (1, .int x1)]) ha (Nat.le_of_ble_eq_true rfl) rfl
  refine W.eq he ?_
  unfold fX7_apart at hf
  have kE : W p l e ({ frames := 1, cells := 0, slots := 0, locals := 21 } : Room) s m args below meth c s.heap [] 0 0 (MQ below (vp_Si (fun q => q = z)) args s 0 0 (fun _ => False)) (F0 m 0 ls []) := by
    refine lv_iload_n hx hb dX7_apart_0 rfl (lv_at hl 0 rfl) ?_
    refine lv_iload_n hx hb dX7_apart_1 rfl (lv_at hl 1 rfl) ?_
    refine lv_isub hx hb dX7_apart_2 ?_
    obtain ⟨r2, hq1, hf⟩ := ob1_d hf
    refine zroS (As := [.int (x0 - x1)]) (rest := []) (r := r2) ⟨hx, hb, hml, hown, hts⟩ (kX7_goneRound l dC dI cy (x0 - x1) r2 hq1) mw_276 mw_271 mw_1 mw_272 hdX7_goneRound rfl rfl ⟨Nat.le_of_ble_eq_true rfl, Nat.le_of_ble_eq_true rfl⟩ hP hK hG hS [] rfl rfl hl.1 rfl (Nat.le_of_ble_eq_true rfl) dX7_apart_3 ⟨Nat.zero_le _, Nat.zero_le _⟩ ?_
    refine lv_istore_n (lv' := [(2, .int r2), (0, .int x0), (1, .int x1)]) hx hb dX7_apart_6 rfl hl (by decide) rfl (fun ls hl => ?_)
    refine lv_iload_n hx hb dX7_apart_7 rfl (lv_at hl 0 rfl) ?_
    refine lv_bipush (v := (8 : Int32)) hx hb dX7_apart_8 (by decide) ?_
    refine lv_iload_n hx hb dX7_apart_10 rfl (lv_at hl 0 rfl) ?_
    refine lv_isub hx hb dX7_apart_11 ?_
    refine z_mmin hx hb hml hl.1 hts hown mw_318 (Nat.le_of_ble_eq_true rfl) (Nat.le_of_ble_eq_true rfl) (Nat.zero_le _) (Nat.zero_le _) dX7_apart_12 ?_
    exact zretR hx hb hr hlocks hf dX7_apart_15
  exact kE
set_option maxHeartbeats 4000000 in
set_option maxRecDepth 100000 in
theorem kX7_holdOf (l : Launch) (dC : Nat → ClassId) (dI : Nat → Nat → Nat) (cy : ClassId) (x0 : Int32) (x1 : Int32) (z : Int32) (hf : fX7_holdOf x0 x1 = some z) : Met l yX7_holdOf (wsM yX7_holdOf cX7_holdOf 2 (some .int)) ({ frames := 1, cells := 0, slots := 0, locals := 21 } : Room) (va_Pc [.int x0, .int x1] (pRO (dC, dI) vwCl [(cy, .int)] ([] : va_W))) (vp_Si (fun q => q = z)) 0 0 (fun _ => False) := by
  refine Met.ofW (cc := cX7_holdOf) (maxL := 2) (ret := (some .int)) (by decide) rfl ?_
  intro p e s m args below meth c s₁ B hml hv
  obtain ⟨ha, hP, hK, hG⟩ := hv
  have hx := B.exec
  have hb := B.bytes
  have hr := B.returns
  have hts : ∀ w ∈ wsA, w.before args s = true := fun w h => atoms_spec (ws := wsM yX7_holdOf cX7_holdOf 2 (some .int)) B.pre w (List.mem_cons_of_mem _ h)
  have hown : s.vm.findClass RX7 = some m.cls := findClass_of_methodNamed B.named
  have hlocks := B.notSynchronized
  have hS : va_S (fun _ => False) s.heap s.heap [] := va_S.rf
  obtain ⟨ls, hl, he⟩ := zent (m := m) (n := 2) (L := [(0, .int x0), (1, .int x1)]) ha (Nat.le_of_ble_eq_true rfl) rfl
  refine W.eq he ?_
  unfold fX7_holdOf at hf
  have kE : W p l e ({ frames := 1, cells := 0, slots := 0, locals := 21 } : Room) s m args below meth c s.heap [] 0 0 (MQ below (vp_Si (fun q => q = z)) args s 0 0 (fun _ => False)) (F0 m 0 ls []) := by
    refine lv_iconst (v := (2 : Int32)) hx hb dX7_holdOf_0 (by decide) ?_
    refine lv_bipush (v := (9 : Int32)) hx hb dX7_holdOf_1 (by decide) ?_
    refine lv_iload_n hx hb dX7_holdOf_3 rfl (lv_at hl 0 rfl) ?_
    refine lv_iload_n hx hb dX7_holdOf_4 rfl (lv_at hl 1 rfl) ?_
    refine lv_iadd hx hb dX7_holdOf_5 ?_
    refine z_mmin hx hb hml hl.1 hts hown mw_318 (Nat.le_of_ble_eq_true rfl) (Nat.le_of_ble_eq_true rfl) (Nat.zero_le _) (Nat.zero_le _) dX7_holdOf_6 ?_
    refine lv_imul hx hb dX7_holdOf_9 ?_
    refine lv_iconst (v := (3 : Int32)) hx hb dX7_holdOf_10 (by decide) ?_
    refine lv_iadd hx hb dX7_holdOf_11 ?_
    exact zretR hx hb hr hlocks hf dX7_holdOf_12
  exact kE
set_option maxHeartbeats 4000000 in
set_option maxRecDepth 100000 in
theorem kX7_loadOf (l : Launch) (dC : Nat → ClassId) (dI : Nat → Nat → Nat) (cy : ClassId) (x0 : Int32) (x1 : Int32) (z : Int32) (hf : fX7_loadOf x0 x1 = some z) : Met l yX7_loadOf (wsM yX7_loadOf cX7_loadOf 2 (some .int)) ({ frames := 0, cells := 0, slots := 0, locals := 0 } : Room) (va_Pc [.int x0, .int x1] (pRO (dC, dI) vwCl [(cy, .int)] ([] : va_W))) (vp_Si (fun q => q = z)) 0 0 (fun _ => False) := by
  refine Met.ofW (cc := cX7_loadOf) (maxL := 2) (ret := (some .int)) (by decide) rfl ?_
  intro p e s m args below meth c s₁ B hml hv
  obtain ⟨ha, hP, hK, hG⟩ := hv
  have hx := B.exec
  have hb := B.bytes
  have hr := B.returns
  have hts : ∀ w ∈ wsA, w.before args s = true := fun w h => atoms_spec (ws := wsM yX7_loadOf cX7_loadOf 2 (some .int)) B.pre w (List.mem_cons_of_mem _ h)
  have hown : s.vm.findClass RX7 = some m.cls := findClass_of_methodNamed B.named
  have hlocks := B.notSynchronized
  have hS : va_S (fun _ => False) s.heap s.heap [] := va_S.rf
  obtain ⟨ls, hl, he⟩ := zent (m := m) (n := 2) (L := [(0, .int x0), (1, .int x1)]) ha (Nat.le_of_ble_eq_true rfl) rfl
  refine W.eq he ?_
  unfold fX7_loadOf at hf
  have kE : W p l e ({ frames := 0, cells := 0, slots := 0, locals := 0 } : Room) s m args below meth c s.heap [] 0 0 (MQ below (vp_Si (fun q => q = z)) args s 0 0 (fun _ => False)) (F0 m 0 ls []) := by
    refine lv_iconst (v := (2 : Int32)) hx hb dX7_loadOf_0 (by decide) ?_
    refine lv_iload_n hx hb dX7_loadOf_1 rfl (lv_at hl 0 rfl) ?_
    refine lv_imul hx hb dX7_loadOf_2 ?_
    refine lv_iload_n hx hb dX7_loadOf_3 rfl (lv_at hl 1 rfl) ?_
    refine lv_iadd hx hb dX7_loadOf_4 ?_
    exact zretR hx hb hr hlocks hf dX7_loadOf_5
  exact kE
set_option maxHeartbeats 4000000 in
set_option maxRecDepth 100000 in
theorem kX1_beside (l : Launch) (dC : Nat → ClassId) (dI : Nat → Nat → Nat) (cy : ClassId) (h0 : Nat → Nat) (w0 : Nat → Nat → Int32) (x1 : Int32) (x2 : Int32) (z : Int32) (hf : fX1_beside w0 x1 x2 = some z) : Met l yX1_beside (wsM yX1_beside cX1_beside 5 (some .int)) ({ frames := 1, cells := 0, slots := 0, locals := 21 } : Room) (va_Pc [.ref (h0 0), .int x1, .int x2] (pRO (dC, dI) vwCl [(cy, .int)] (zW_1 cy h0 w0))) (vp_Si (fun q => q = z)) 0 0 (fun _ => False) := by
  refine Met.ofW (cc := cX1_beside) (maxL := 5) (ret := (some .int)) (by decide) rfl ?_
  intro p e s m args below meth c s₁ B hml hv
  obtain ⟨ha, hP, hK, hG⟩ := hv
  have hx := B.exec
  have hb := B.bytes
  have hr := B.returns
  have hts : ∀ w ∈ wsA, w.before args s = true := fun w h => atoms_spec (ws := wsM yX1_beside cX1_beside 5 (some .int)) B.pre w (List.mem_cons_of_mem _ h)
  have hown : s.vm.findClass RX1 = some m.cls := findClass_of_methodNamed B.named
  have hlocks := B.notSynchronized
  have hS : va_S (fun _ => False) s.heap s.heap [] := va_S.rf
  obtain ⟨ls, hl, he⟩ := zent (m := m) (n := 5) (L := [(0, .ref (h0 0)), (1, .int x1), (2, .int x2)]) ha (Nat.le_of_ble_eq_true rfl) rfl
  refine W.eq he ?_
  unfold fX1_beside at hf
  have kE : W p l e ({ frames := 1, cells := 0, slots := 0, locals := 21 } : Room) s m args below meth c s.heap [] 0 0 (MQ below (vp_Si (fun q => q = z)) args s 0 0 (fun _ => False)) (F0 m 0 ls []) := by
    refine lv_aload_n hx hb dX1_beside_0 rfl (lv_at hl 0 rfl) ?_
    refine lv_iload_n hx hb dX1_beside_1 rfl (lv_at hl 1 rfl) ?_
    obtain ⟨r2, hq1, hf⟩ := ob1_d hf
    refine zroV (q := (RX1, TX1, 3)) (As := [.int x1]) (rest := []) (r := r2) ⟨hx, hb, hml, hown, hts⟩ (kX1_has l dC dI cy h0 w0 x1 r2 hq1) mw_336 mw_209 mw_210 mw_4 mw_211 hdX1_has rfl rfl ⟨Nat.le_of_ble_eq_true rfl, Nat.le_of_ble_eq_true rfl⟩ hP hK hG hS 0 rfl rfl [0, 1] rfl rfl hl.1 rfl (Nat.le_of_ble_eq_true rfl) dX1_beside_2 ⟨Nat.zero_le _, Nat.zero_le _⟩ ?_
    refine lv_if_eq (tgt := 15) hx hb dX1_beside_5 (by decide) (fun hc => ?_) (fun hc => ?_)
    · have hf := it_t hc hf
      refine lv_iconst (v := (-1 : Int32)) hx hb dX1_beside_15 (by decide) ?_
      exact zretR hx hb hr hlocks hf dX1_beside_16
    · have hf := it_f hc hf
      refine lv_aload_n hx hb dX1_beside_8 rfl (lv_at hl 0 rfl) ?_
      refine zget hx hb hts hown hK hP hin_1 0 rfl rfl 2 (by decide) mw_41 (v := .int (w0 0 2)) rfl dX1_beside_9 ?_
      refine lv_if_gt (tgt := 17) hx hb dX1_beside_12 (by decide) (fun hc => ?_) (fun hc => ?_)
      · have hf := it_t hc hf
        refine lv_iload_n hx hb dX1_beside_17 rfl (lv_at hl 1 rfl) ?_
        refine lv_aload_n hx hb dX1_beside_18 rfl (lv_at hl 0 rfl) ?_
        refine zget hx hb hts hown hK hP hin_1 0 rfl rfl 2 (by decide) mw_41 (v := .int (w0 0 2)) rfl dX1_beside_19 ?_
        obtain ⟨hne3, hf⟩ := dv_d hf
        refine lv_idiv hx hb dX1_beside_22 hne3 ?_
        obtain ⟨t4, hZ4, hT4⟩ := hG.1
        refine va_getsN hx hb hZ4 hS hown (va_Nw.use rfl (hG.2.2.2.2.2 _ (List.mem_of_getElem? (i := 59) rfl))) (fun _ h => h) dX1_beside_23 ?_
        refine lv_iload_n hx hb dX1_beside_26 rfl (lv_at hl 2 rfl) ?_
        obtain ⟨r6, hq5, hf⟩ := ob1_d hf
        refine zroTSN (As := [.ref t4, .int x2]) (rest := [.int (x1 / (w0 0 2))]) (r := r6) ⟨hx, hb, hml, hown, hts⟩ (kX7_valueAt_s l t4 8 sDOWN x2 r6 hq5) (List.mem_of_getElem? (i := 13) rfl) mw_184 mw_1 mw_185 hdX7_valueAt rfl rfl ⟨Nat.le_of_ble_eq_true rfl, Nat.le_of_ble_eq_true rfl⟩ hT4 hS hG rfl hl.1 rfl (Nat.le_of_ble_eq_true rfl) dX1_beside_27 ⟨Nat.zero_le _, Nat.zero_le _⟩ ?_
        refine lv_iadd hx hb dX1_beside_30 ?_
        refine lv_istore_n (lv' := [(3, .int ((x1 / (w0 0 2)) + r6)), (0, .ref (h0 0)), (1, .int x1), (2, .int x2)]) hx hb dX1_beside_31 rfl hl (by decide) rfl (fun ls hl => ?_)
        refine lv_iload_n hx hb dX1_beside_32 rfl (lv_at hl 2 rfl) ?_
        refine lv_aload_n hx hb dX1_beside_33 rfl (lv_at hl 1 rfl) ?_
        refine zget hx hb hts hown hK hP hin_1 0 rfl rfl 2 (by decide) mw_41 (v := .int (w0 0 2)) rfl dX1_beside_34 ?_
        obtain ⟨hne7, hf⟩ := dv_d hf
        refine lv_zrem hx hb dX1_beside_37 hne7 ?_
        obtain ⟨t8, hZ8, hT8⟩ := hG.2.1
        refine va_getsN hx hb hZ8 hS hown (va_Nw.use rfl (hG.2.2.2.2.2 _ (List.mem_of_getElem? (i := 60) rfl))) (fun _ h => h) dX1_beside_38 ?_
        refine lv_iload_n hx hb dX1_beside_41 rfl (lv_at hl 3 rfl) ?_
        obtain ⟨r10, hq9, hf⟩ := ob1_d hf
        refine zroTSN (As := [.ref t8, .int x2]) (rest := [.int (zrem x1 (w0 0 2))]) (r := r10) ⟨hx, hb, hml, hown, hts⟩ (kX7_valueAt_s l t8 8 sACROSS x2 r10 hq9) (List.mem_of_getElem? (i := 13) rfl) mw_184 mw_1 mw_185 hdX7_valueAt rfl rfl ⟨Nat.le_of_ble_eq_true rfl, Nat.le_of_ble_eq_true rfl⟩ hT8 hS hG rfl hl.1 rfl (Nat.le_of_ble_eq_true rfl) dX1_beside_42 ⟨Nat.zero_le _, Nat.zero_le _⟩ ?_
        refine lv_iadd hx hb dX1_beside_45 ?_
        refine lv_istore (lv' := [(4, .int ((zrem x1 (w0 0 2)) + r10)), (3, .int ((x1 / (w0 0 2)) + r6)), (0, .ref (h0 0)), (1, .int x1), (2, .int x2)]) hx hb dX1_beside_46 hl (by decide) rfl (fun ls hl => ?_)
        refine lv_iload_n hx hb dX1_beside_48 rfl (lv_at hl 1 rfl) ?_
        refine lv_if_lt (tgt := 74) hx hb dX1_beside_49 (by decide) (fun hc => ?_) (fun hc => ?_)
        · have hf := it_t hc hf
          refine lv_iconst (v := (-1 : Int32)) hx hb dX1_beside_74 (by decide) ?_
          exact zretR hx hb hr hlocks hf dX1_beside_75
        · have hf := it_f hc hf
          refine lv_iload_n hx hb dX1_beside_52 rfl (lv_at hl 1 rfl) ?_
          refine lv_aload_n hx hb dX1_beside_53 rfl (lv_at hl 2 rfl) ?_
          refine zget hx hb hts hown hK hP hin_1 0 rfl rfl 1 (by decide) mw_40 (v := .int (w0 0 1)) rfl dX1_beside_54 ?_
          refine lv_icmp_ge (tgt := 74) hx hb dX1_beside_57 (by decide) (fun hc => ?_) (fun hc => ?_)
          · have hf := it_t hc hf
            refine lv_iconst (v := (-1 : Int32)) hx hb dX1_beside_74 (by decide) ?_
            exact zretR hx hb hr hlocks hf dX1_beside_75
          · have hf := it_f hc hf
            refine lv_iload hx hb dX1_beside_60 (lv_at hl 0 rfl) ?_
            refine lv_if_lt (tgt := 74) hx hb dX1_beside_62 (by decide) (fun hc => ?_) (fun hc => ?_)
            · have hf := it_t hc hf
              refine lv_iconst (v := (-1 : Int32)) hx hb dX1_beside_74 (by decide) ?_
              exact zretR hx hb hr hlocks hf dX1_beside_75
            · have hf := it_f hc hf
              refine lv_iload hx hb dX1_beside_65 (lv_at hl 0 rfl) ?_
              refine lv_aload_n hx hb dX1_beside_67 rfl (lv_at hl 2 rfl) ?_
              refine zget hx hb hts hown hK hP hin_1 0 rfl rfl 2 (by decide) mw_41 (v := .int (w0 0 2)) rfl dX1_beside_68 ?_
              refine lv_icmp_lt (tgt := 76) hx hb dX1_beside_71 (by decide) (fun hc => ?_) (fun hc => ?_)
              · have hf := it_t hc hf
                refine lv_iload_n hx hb dX1_beside_76 rfl (lv_at hl 1 rfl) ?_
                refine lv_aload_n hx hb dX1_beside_77 rfl (lv_at hl 2 rfl) ?_
                refine zget hx hb hts hown hK hP hin_1 0 rfl rfl 2 (by decide) mw_41 (v := .int (w0 0 2)) rfl dX1_beside_78 ?_
                refine lv_imul hx hb dX1_beside_81 ?_
                refine lv_iload hx hb dX1_beside_82 (lv_at hl 0 rfl) ?_
                refine lv_iadd hx hb dX1_beside_84 ?_
                exact zretR hx hb hr hlocks hf dX1_beside_85
              · have hf := it_f hc hf
                refine lv_iconst (v := (-1 : Int32)) hx hb dX1_beside_74 (by decide) ?_
                exact zretR hx hb hr hlocks hf dX1_beside_75
      · have hf := it_f hc hf
        refine lv_iconst (v := (-1 : Int32)) hx hb dX1_beside_15 (by decide) ?_
        exact zretR hx hb hr hlocks hf dX1_beside_16
  exact kE
set_option maxHeartbeats 4000000 in
set_option maxRecDepth 100000 in
theorem kX6_isDarkAt (l : Launch) (dC : Nat → ClassId) (dI : Nat → Nat → Nat) (cy : ClassId) (h0 : Nat → Nat) (w0 : Nat → Nat → Int32) (x1 : Int32) (z : Int32) (hf : fX6_isDarkAt w0 x1 = some z) : Met l yX6_isDarkAt (wsM yX6_isDarkAt cX6_isDarkAt 2 (some .boolean)) ({ frames := 0, cells := 0, slots := 0, locals := 0 } : Room) (va_Pc [.ref (h0 0), .int x1] (pRO (dC, dI) vwCl [(cy, .int)] (zW_6 cy h0 w0))) (vp_Si (fun q => q = z)) 0 0 (fun _ => False) := by
  refine Met.ofW (cc := cX6_isDarkAt) (maxL := 2) (ret := (some .boolean)) (by decide) rfl ?_
  intro p e s m args below meth c s₁ B hml hv
  obtain ⟨ha, hP, hK, hG⟩ := hv
  have hx := B.exec
  have hb := B.bytes
  have hr := B.returns
  have hts : ∀ w ∈ wsA, w.before args s = true := fun w h => atoms_spec (ws := wsM yX6_isDarkAt cX6_isDarkAt 2 (some .boolean)) B.pre w (List.mem_cons_of_mem _ h)
  have hown : s.vm.findClass RX6 = some m.cls := findClass_of_methodNamed B.named
  have hlocks := B.notSynchronized
  have hS : va_S (fun _ => False) s.heap s.heap [] := va_S.rf
  obtain ⟨ls, hl, he⟩ := zent (m := m) (n := 2) (L := [(0, .ref (h0 0)), (1, .int x1)]) ha (Nat.le_of_ble_eq_true rfl) rfl
  refine W.eq he ?_
  unfold fX6_isDarkAt at hf
  have kE : W p l e ({ frames := 0, cells := 0, slots := 0, locals := 0 } : Room) s m args below meth c s.heap [] 0 0 (MQ below (vp_Si (fun q => q = z)) args s 0 0 (fun _ => False)) (F0 m 0 ls []) := by
    refine lv_iload_n hx hb dX6_isDarkAt_0 rfl (lv_at hl 1 rfl) ?_
    refine lv_aload_n hx hb dX6_isDarkAt_1 rfl (lv_at hl 0 rfl) ?_
    refine zget hx hb hts hown hK hP hin_6 0 rfl rfl 9 (by decide) mw_65 (v := .int (w0 0 9)) rfl dX6_isDarkAt_2 ?_
    refine lv_icmp_lt (tgt := 12) hx hb dX6_isDarkAt_5 (by decide) (fun hc => ?_) (fun hc => ?_)
    · have hf := it_t hc hf
      refine lv_iconst (v := (0 : Int32)) hx hb dX6_isDarkAt_12 (by decide) ?_
      exact zretRZ hx hb hr hlocks rfl hf dX6_isDarkAt_13
    · have hf := it_f hc hf
      refine lv_iconst (v := (1 : Int32)) hx hb dX6_isDarkAt_8 (by decide) ?_
      refine lv_goto (tgt := 13) hx hb dX6_isDarkAt_9 (by decide) ?_
      exact zretRZ hx hb hr hlocks rfl hf dX6_isDarkAt_13
  exact kE
set_option maxHeartbeats 4000000 in
set_option maxRecDepth 100000 in
theorem kX2_leftBehindMove (l : Launch) (dC : Nat → ClassId) (dI : Nat → Nat → Nat) (cy : ClassId) (h0 : Nat → Nat) (w0 : Nat → Nat → Int32) (h1 : Nat → Nat) (w1 : Nat → Nat → Int32) (x2 : Int32) (x3 : Int32) (x4 : Int32) (x5 : Int32) (z : Int32) (hf : fX2_leftBehindMove w0 w1 x2 x3 x4 x5 = some z) : Met l yX2_leftBehindMove (wsM yX2_leftBehindMove cX2_leftBehindMove 7 (some .int)) ({ frames := 2, cells := 0, slots := 0, locals := 45 } : Room) (va_Pc [.ref (h0 0), .ref (h1 0), .int x2, .int x3, .int x4, .int x5] (pRO (dC, dI) vwCl [(cy, .int)] (zW_26 cy h0 w0 h1 w1))) (vp_Si (fun q => q = z)) 0 0 (fun _ => False) := by
  refine Met.ofW (cc := cX2_leftBehindMove) (maxL := 7) (ret := (some .int)) (by decide) rfl ?_
  intro p e s m args below meth c s₁ B hml hv
  obtain ⟨ha, hP, hK, hG⟩ := hv
  have hx := B.exec
  have hb := B.bytes
  have hr := B.returns
  have hts : ∀ w ∈ wsA, w.before args s = true := fun w h => atoms_spec (ws := wsM yX2_leftBehindMove cX2_leftBehindMove 7 (some .int)) B.pre w (List.mem_cons_of_mem _ h)
  have hown : s.vm.findClass RX2 = some m.cls := findClass_of_methodNamed B.named
  have hlocks := B.notSynchronized
  have hS : va_S (fun _ => False) s.heap s.heap [] := va_S.rf
  have k73 : ∀ (x4 : Int32) (x6 : Int32) (ls : Array Slot), lv_has ls 7 [(0, .ref (h0 0)), (4, .int x4), (6, .int x6)] → (fX2_leftBehindMove_73 w0 w1) x4 x6 = some z → W p l e ({ frames := 2, cells := 0, slots := 0, locals := 45 } : Room) s m args below meth c s.heap [] 0 0 (MQ below (vp_Si (fun q => q = z)) args s 0 0 (fun _ => False)) (F0 m 73 ls []) := by
    intro x4 x6 ls hl hf
    unfold fX2_leftBehindMove_73 at hf
    refine lv_aload_n hx hb dX2_leftBehindMove_73 rfl (lv_at hl 0 rfl) ?_
    refine zget hx hb hts hown hK hP hin_2 0 rfl rfl 0 (by decide) mw_130 (v := .ref (h0 1)) rfl dX2_leftBehindMove_74 ?_
    refine lv_iload hx hb dX2_leftBehindMove_77 (lv_at hl 1 rfl) ?_
    refine lv_iconst (v := (1 : Int32)) hx hb dX2_leftBehindMove_79 (by decide) ?_
    refine lv_iadd hx hb dX2_leftBehindMove_80 ?_
    refine lv_iconst (v := (3 : Int32)) hx hb dX2_leftBehindMove_81 (by decide) ?_
    refine lv_zrem hx hb dX2_leftBehindMove_82 (by decide) ?_
    refine lv_bipush (v := (64 : Int32)) hx hb dX2_leftBehindMove_83 (by decide) ?_
    refine lv_imul hx hb dX2_leftBehindMove_85 ?_
    refine lv_iload hx hb dX2_leftBehindMove_86 (lv_at hl 2 rfl) ?_
    refine lv_iadd hx hb dX2_leftBehindMove_88 ?_
    obtain ⟨r6, hq5, hf⟩ := ob1_d hf
    refine zroSN (As := [.ref (h0 1), .int (((zrem (x4 + (1 : Int32)) (3 : Int32)) * (64 : Int32)) + x6)]) (rest := []) (r := r6) ⟨hx, hb, hml, hown, hts⟩ (kX7_valueAt l dC dI cy (h0 1) 192 (w0 1) (((zrem (x4 + (1 : Int32)) (3 : Int32)) * (64 : Int32)) + x6) r6 hq5) (List.mem_of_getElem? (i := 16) rfl) mw_184 mw_1 mw_185 hdX7_valueAt rfl rfl ⟨Nat.le_of_ble_eq_true rfl, Nat.le_of_ble_eq_true rfl⟩ hP hK hG hS [1] rfl rfl hl.1 rfl (Nat.le_of_ble_eq_true rfl) dX2_leftBehindMove_89 ⟨Nat.zero_le _, Nat.zero_le _⟩ ?_
    exact zretR hx hb hr hlocks hf dX2_leftBehindMove_92
  obtain ⟨ls, hl, he⟩ := zent (m := m) (n := 7) (L := [(0, .ref (h0 0)), (1, .ref (h1 0)), (2, .int x2), (3, .int x3), (4, .int x4), (5, .int x5)]) ha (Nat.le_of_ble_eq_true rfl) rfl
  refine W.eq he ?_
  unfold fX2_leftBehindMove at hf
  have kE : W p l e ({ frames := 2, cells := 0, slots := 0, locals := 45 } : Room) s m args below meth c s.heap [] 0 0 (MQ below (vp_Si (fun q => q = z)) args s 0 0 (fun _ => False)) (F0 m 0 ls []) := by
    refine lv_aload_n hx hb dX2_leftBehindMove_0 rfl (lv_at hl 1 rfl) ?_
    refine zgetN hx hb hts hG hown hK hP hin_6 2 rfl rfl 0 (by decide) (host := "Embayed") (List.mem_of_getElem? (i := 27) rfl) (v := .ref (h1 1)) rfl dX2_leftBehindMove_1 ?_
    refine lv_iload_n hx hb dX2_leftBehindMove_4 rfl (lv_at hl 3 rfl) ?_
    refine lv_iload hx hb dX2_leftBehindMove_5 (lv_at hl 5 rfl) ?_
    obtain ⟨r2, hq1, hf⟩ := ob1_d hf
    refine zroV (q := (RX1, TX1, 3)) (As := [.int x3, .int x5]) (rest := []) (r := r2) ⟨hx, hb, hml, hown, hts⟩ (kX1_beside l dC dI cy (sh 1 h1) (sh 1 w1) x3 x5 r2 hq1) mw_435 mw_333 mw_334 mw_4 mw_335 hdX1_beside rfl rfl ⟨Nat.le_of_ble_eq_true rfl, Nat.le_of_ble_eq_true rfl⟩ hP hK hG hS 3 rfl rfl [3, 4] rfl rfl hl.1 rfl (Nat.le_of_ble_eq_true rfl) dX2_leftBehindMove_7 ⟨Nat.zero_le _, Nat.zero_le _⟩ ?_
    refine lv_istore (lv' := [(6, .int r2), (0, .ref (h0 0)), (1, .ref (h1 0)), (2, .int x2), (3, .int x3), (4, .int x4), (5, .int x5)]) hx hb dX2_leftBehindMove_10 hl (by decide) rfl (fun ls hl => ?_)
    refine lv_iload hx hb dX2_leftBehindMove_12 (lv_at hl 0 rfl) ?_
    refine lv_iconst (v := (-1 : Int32)) hx hb dX2_leftBehindMove_14 (by decide) ?_
    refine lv_icmp_ne (tgt := 20) hx hb dX2_leftBehindMove_15 (by decide) (fun hc => ?_) (fun hc => ?_)
    · have hf := it_f hc hf
      refine lv_aload_n hx hb dX2_leftBehindMove_20 rfl (lv_at hl 2 rfl) ?_
      refine lv_iload hx hb dX2_leftBehindMove_21 (lv_at hl 0 rfl) ?_
      obtain ⟨r4, hq3, hf⟩ := ob1_d hf
      refine zroV (q := (RX6, TX6, 10)) (As := [.int r2]) (rest := []) (r := r4) ⟨hx, hb, hml, hown, hts⟩ (kX6_floatsAt l dC dI cy h1 w1 r2 r4 hq3) mw_431 mw_255 mw_256 mw_3 mw_257 hdX6_floatsAt rfl rfl ⟨Nat.le_of_ble_eq_true rfl, Nat.le_of_ble_eq_true rfl⟩ hP hK hG hS 2 rfl rfl [2, 3, 4, 5, 6, 7, 8, 9, 10] rfl rfl hl.1 rfl (Nat.le_of_ble_eq_true rfl) dX2_leftBehindMove_23 ⟨Nat.zero_le _, Nat.zero_le _⟩ ?_
      refine lv_if_ne (tgt := 32) hx hb dX2_leftBehindMove_26 (by decide) (fun hc => ?_) (fun hc => ?_)
      · have hf := it_f hc hf
        refine lv_iload hx hb dX2_leftBehindMove_32 (lv_at hl 5 rfl) ?_
        refine lv_iconst (v := (2 : Int32)) hx hb dX2_leftBehindMove_34 (by decide) ?_
        refine lv_icmp_ne (tgt := 73) hx hb dX2_leftBehindMove_35 (by decide) (fun hc => ?_) (fun hc => ?_)
        · have hf := it_f hc hf
          exact k73 x4 r2 ls (lv_sub hl [1, 5, 0] rfl) hf
        · have hf := it_t hc hf
          refine lv_aload_n hx hb dX2_leftBehindMove_38 rfl (lv_at hl 2 rfl) ?_
          refine zgetN hx hb hts hG hown hK hP hin_6 2 rfl rfl 0 (by decide) (host := "Embayed") (List.mem_of_getElem? (i := 27) rfl) (v := .ref (h1 1)) rfl dX2_leftBehindMove_39 ?_
          refine lv_iload hx hb dX2_leftBehindMove_42 (lv_at hl 0 rfl) ?_
          refine lv_iload_n hx hb dX2_leftBehindMove_44 rfl (lv_at hl 3 rfl) ?_
          obtain ⟨r8, hq7, hf⟩ := ob1_d hf
          refine zroSN (As := [.int x2]) (rest := [.int r2, .ref (h1 1)]) (r := r8) ⟨hx, hb, hml, hown, hts⟩ (kX7_leeOf l dC dI cy x2 r8 hq7) (List.mem_of_getElem? (i := 15) rfl) mw_274 mw_1 mw_275 hdX7_leeOf rfl rfl ⟨Nat.le_of_ble_eq_true rfl, Nat.le_of_ble_eq_true rfl⟩ hP hK hG hS [] rfl rfl hl.1 rfl (Nat.le_of_ble_eq_true rfl) dX2_leftBehindMove_45 ⟨Nat.zero_le _, Nat.zero_le _⟩ ?_
          obtain ⟨r10, hq9, hf⟩ := ob1_d hf
          refine zroV (q := (RX1, TX1, 3)) (As := [.int r2, .int r8]) (rest := []) (r := r10) ⟨hx, hb, hml, hown, hts⟩ (kX1_beside l dC dI cy (sh 1 h1) (sh 1 w1) r2 r8 r10 hq9) mw_435 mw_333 mw_334 mw_4 mw_335 hdX1_beside rfl rfl ⟨Nat.le_of_ble_eq_true rfl, Nat.le_of_ble_eq_true rfl⟩ hP hK hG hS 3 rfl rfl [3, 4] rfl rfl hl.1 rfl (Nat.le_of_ble_eq_true rfl) dX2_leftBehindMove_48 ⟨Nat.zero_le _, Nat.zero_le _⟩ ?_
          refine lv_istore (lv' := [(6, .int r10), (0, .ref (h0 0)), (1, .ref (h1 0)), (2, .int x2), (3, .int x3), (4, .int x4), (5, .int x5)]) hx hb dX2_leftBehindMove_51 hl (by decide) rfl (fun ls hl => ?_)
          refine lv_iload hx hb dX2_leftBehindMove_53 (lv_at hl 0 rfl) ?_
          refine lv_iconst (v := (-1 : Int32)) hx hb dX2_leftBehindMove_55 (by decide) ?_
          refine lv_icmp_ne (tgt := 61) hx hb dX2_leftBehindMove_56 (by decide) (fun hc => ?_) (fun hc => ?_)
          · have hf := it_f hc hf
            refine lv_aload_n hx hb dX2_leftBehindMove_61 rfl (lv_at hl 2 rfl) ?_
            refine lv_iload hx hb dX2_leftBehindMove_62 (lv_at hl 0 rfl) ?_
            obtain ⟨r12, hq11, hf⟩ := ob1_d hf
            refine zroV (q := (RX6, TX6, 10)) (As := [.int r10]) (rest := []) (r := r12) ⟨hx, hb, hml, hown, hts⟩ (kX6_floatsAt l dC dI cy h1 w1 r10 r12 hq11) mw_431 mw_255 mw_256 mw_3 mw_257 hdX6_floatsAt rfl rfl ⟨Nat.le_of_ble_eq_true rfl, Nat.le_of_ble_eq_true rfl⟩ hP hK hG hS 2 rfl rfl [2, 3, 4, 5, 6, 7, 8, 9, 10] rfl rfl hl.1 rfl (Nat.le_of_ble_eq_true rfl) dX2_leftBehindMove_64 ⟨Nat.zero_le _, Nat.zero_le _⟩ ?_
            refine lv_if_ne (tgt := 73) hx hb dX2_leftBehindMove_67 (by decide) (fun hc => ?_) (fun hc => ?_)
            · have hf := it_f hc hf
              exact k73 x4 r10 ls (lv_sub hl [1, 5, 0] rfl) hf
            · have hf := it_t hc hf
              refine lv_bipush (v := (-9 : Int32)) hx hb dX2_leftBehindMove_70 (by decide) ?_
              exact zretR hx hb hr hlocks hf dX2_leftBehindMove_72
          · have hf := it_t hc hf
            refine lv_iconst (v := (0 : Int32)) hx hb dX2_leftBehindMove_59 (by decide) ?_
            exact zretR hx hb hr hlocks hf dX2_leftBehindMove_60
      · have hf := it_t hc hf
        refine lv_bipush (v := (-9 : Int32)) hx hb dX2_leftBehindMove_29 (by decide) ?_
        exact zretR hx hb hr hlocks hf dX2_leftBehindMove_31
    · have hf := it_t hc hf
      refine lv_iconst (v := (0 : Int32)) hx hb dX2_leftBehindMove_18 (by decide) ?_
      exact zretR hx hb hr hlocks hf dX2_leftBehindMove_19
  exact kE
set_option maxHeartbeats 4000000 in
set_option maxRecDepth 100000 in
theorem kX2_isOneMoveBefore (l : Launch) (dC : Nat → ClassId) (dI : Nat → Nat → Nat) (cy : ClassId) (h0 : Nat → Nat) (w0 : Nat → Nat → Int32) (h1 : Nat → Nat) (w1 : Nat → Nat → Int32) (x2 : Int32) (x3 : Int32) (x4 : Int32) (z : Int32) (hf : fX2_isOneMoveBefore w0 w1 x2 x3 x4 = some z) : Met l yX2_isOneMoveBefore (wsM yX2_isOneMoveBefore cX2_isOneMoveBefore 8 (some .boolean)) ({ frames := 3, cells := 0, slots := 0, locals := 71 } : Room) (va_Pc [.ref (h0 0), .ref (h1 0), .int x2, .int x3, .int x4] (pRO (dC, dI) vwCl [(cy, .int)] (zW_26 cy h0 w0 h1 w1))) (vp_Si (fun q => q = z)) 0 0 (fun _ => False) := by
  refine Met.ofW (cc := cX2_isOneMoveBefore) (maxL := 8) (ret := (some .boolean)) (by decide) rfl ?_
  intro p e s m args below meth c s₁ B hml hv
  obtain ⟨ha, hP, hK, hG⟩ := hv
  have hx := B.exec
  have hb := B.bytes
  have hr := B.returns
  have hts : ∀ w ∈ wsA, w.before args s = true := fun w h => atoms_spec (ws := wsM yX2_isOneMoveBefore cX2_isOneMoveBefore 8 (some .boolean)) B.pre w (List.mem_cons_of_mem _ h)
  have hown : s.vm.findClass RX2 = some m.cls := findClass_of_methodNamed B.named
  have hlocks := B.notSynchronized
  have hS : va_S (fun _ => False) s.heap s.heap [] := va_S.rf
  have k65 : ∀ (s26 : Int32 → Int32 → Int32 → Int32 → Int32 → Option (Int32)) (hs26 : ∀ (x2 : Int32) (x4 : Int32) (x5 : Int32) (x6 : Int32) (x7 : Int32) (ls : Array Slot), lv_has ls 8 [(0, .ref (h0 0)), (1, .ref (h1 0)), (2, .int x2), (4, .int x4), (5, .int x5), (6, .int x6), (7, .int x7)] → s26 x2 x4 x5 x6 x7 = some z → W p l e ({ frames := 3, cells := 0, slots := 0, locals := 71 } : Room) s m args below meth c s.heap [] 0 0 (MQ below (vp_Si (fun q => q = z)) args s 0 0 (fun _ => False)) (F0 m 26 ls [])), ∀ (x2 : Int32) (x4 : Int32) (x5 : Int32) (x6 : Int32) (x7 : Int32) (ls : Array Slot), lv_has ls 8 [(0, .ref (h0 0)), (1, .ref (h1 0)), (2, .int x2), (4, .int x4), (5, .int x5), (6, .int x6), (7, .int x7)] → (fX2_isOneMoveBefore_65 w0 w1 s26) x2 x4 x5 x6 x7 = some z → W p l e ({ frames := 3, cells := 0, slots := 0, locals := 71 } : Room) s m args below meth c s.heap [] 0 0 (MQ below (vp_Si (fun q => q = z)) args s 0 0 (fun _ => False)) (F0 m 65 ls []) := by
    intro s26 hs26
    intro x2 x4 x5 x6 x7 ls hl hf
    unfold fX2_isOneMoveBefore_65 at hf
    refine lv_zinc (lv' := [(7, .int (x7 + (1 : Int32))), (0, .ref (h0 0)), (1, .ref (h1 0)), (2, .int x2), (4, .int x4), (5, .int x5), (6, .int x6)]) hx hb dX2_isOneMoveBefore_65 hl (k := 6) rfl (v := (1 : Int32)) (by decide) (by decide) rfl (fun ls hl => ?_)
    refine lv_goto (tgt := 26) hx hb dX2_isOneMoveBefore_68 (by decide) ?_
    exact hs26 x2 x4 x5 x6 (x7 + (1 : Int32)) ls (lv_sub hl [1, 2, 3, 4, 5, 6, 0] rfl) hf
  have k26 : ∀ n : Nat, ∀ (x2 : Int32) (x4 : Int32) (x5 : Int32) (x6 : Int32) (x7 : Int32) (ls : Array Slot), lv_has ls 8 [(0, .ref (h0 0)), (1, .ref (h1 0)), (2, .int x2), (4, .int x4), (5, .int x5), (6, .int x6), (7, .int x7)] → (zl5 (fX2_isOneMoveBefore_26 w0 w1) n) x2 x4 x5 x6 x7 = some z → W p l e ({ frames := 3, cells := 0, slots := 0, locals := 71 } : Room) s m args below meth c s.heap [] 0 0 (MQ below (vp_Si (fun q => q = z)) args s 0 0 (fun _ => False)) (F0 m 26 ls []) := by
    intro n
    induction n with
    | zero =>
      intro x2 x4 x5 x6 x7 ls hl hf
      exact z_no hf
    | succ n hs26 =>
      intro x2 x4 x5 x6 x7 ls hl hf
      have hf : fX2_isOneMoveBefore_26 w0 w1 (zl5 (fX2_isOneMoveBefore_26 w0 w1) n) x2 x4 x5 x6 x7 = some z := hf
      generalize zl5 (fX2_isOneMoveBefore_26 w0 w1) n = s26 at hs26 hf
      unfold fX2_isOneMoveBefore_26 at hf
      refine lv_iload hx hb dX2_isOneMoveBefore_26 (lv_at hl 6 rfl) ?_
      refine lv_bipush (v := (8 : Int32)) hx hb dX2_isOneMoveBefore_28 (by decide) ?_
      refine lv_icmp_ge (tgt := 71) hx hb dX2_isOneMoveBefore_30 (by decide) (fun hc => ?_) (fun hc => ?_)
      · have hf := it_t hc hf
        refine lv_iconst (v := (0 : Int32)) hx hb dX2_isOneMoveBefore_71 (by decide) ?_
        exact zretRZ hx hb hr hlocks rfl hf dX2_isOneMoveBefore_72
      · have hf := it_f hc hf
        refine lv_iload hx hb dX2_isOneMoveBefore_33 (lv_at hl 6 rfl) ?_
        refine lv_iload_n hx hb dX2_isOneMoveBefore_35 rfl (lv_at hl 2 rfl) ?_
        obtain ⟨r4, hq3, hf⟩ := ob1_d hf
        refine zroSN (As := [.int x7, .int x2]) (rest := []) (r := r4) ⟨hx, hb, hml, hown, hts⟩ (kX7_apart l dC dI cy x7 x2 r4 hq3) (List.mem_of_getElem? (i := 14) rfl) mw_316 mw_1 mw_317 hdX7_apart rfl rfl ⟨Nat.le_of_ble_eq_true rfl, Nat.le_of_ble_eq_true rfl⟩ hP hK hG hS [] rfl rfl hl.1 rfl (Nat.le_of_ble_eq_true rfl) dX2_isOneMoveBefore_36 ⟨Nat.zero_le _, Nat.zero_le _⟩ ?_
        refine lv_aload_n hx hb dX2_isOneMoveBefore_39 rfl (lv_at hl 1 rfl) ?_
        refine zgetN hx hb hts hG hown hK hP hin_6 2 rfl rfl 7 (by decide) (host := "Embayed") (List.mem_of_getElem? (i := 38) rfl) (v := .int (w1 0 7)) rfl dX2_isOneMoveBefore_40 ?_
        refine lv_icmp_lt (tgt := 65) hx hb dX2_isOneMoveBefore_43 (by decide) (fun hc => ?_) (fun hc => ?_)
        · have hf := it_t hc hf
          exact k65 s26 hs26 x2 x4 x5 x6 x7 ls (lv_sub hl [0, 1, 2, 3, 4, 5, 6] rfl) hf
        · have hf := it_f hc hf
          refine lv_aload_n hx hb dX2_isOneMoveBefore_46 rfl (lv_at hl 0 rfl) ?_
          refine lv_aload_n hx hb dX2_isOneMoveBefore_47 rfl (lv_at hl 1 rfl) ?_
          refine lv_iload_n hx hb dX2_isOneMoveBefore_48 rfl (lv_at hl 2 rfl) ?_
          refine lv_iload hx hb dX2_isOneMoveBefore_49 (lv_at hl 4 rfl) ?_
          refine lv_iload hx hb dX2_isOneMoveBefore_51 (lv_at hl 5 rfl) ?_
          refine lv_iload hx hb dX2_isOneMoveBefore_53 (lv_at hl 6 rfl) ?_
          obtain ⟨r6, hq5, hf⟩ := ob1_d hf
          refine zroV (q := (RX2, TX2, 1)) (As := [.ref (h1 0), .int x2, .int x5, .int x6, .int x7]) (rest := []) (r := r6) ⟨hx, hb, hml, hown, hts⟩ (kX2_leftBehindMove l dC dI cy h0 w0 h1 w1 x2 x5 x6 x7 r6 hq5) mw_432 mw_433 mw_894 mw_7 mw_434 hdX2_leftBehindMove rfl rfl ⟨Nat.le_of_ble_eq_true rfl, Nat.le_of_ble_eq_true rfl⟩ hP hK hG hS 0 rfl rfl [0, 1, 2, 3, 4, 5, 6, 7, 8, 9, 10] rfl rfl hl.1 rfl (Nat.le_of_ble_eq_true rfl) dX2_isOneMoveBefore_55 ⟨Nat.zero_le _, Nat.zero_le _⟩ ?_
          refine lv_iload hx hb dX2_isOneMoveBefore_58 (lv_at hl 3 rfl) ?_
          refine lv_icmp_ne (tgt := 65) hx hb dX2_isOneMoveBefore_60 (by decide) (fun hc => ?_) (fun hc => ?_)
          · have hf := it_f hc hf
            exact k65 s26 hs26 x2 x4 x5 x6 x7 ls (lv_sub hl [0, 1, 2, 3, 4, 5, 6] rfl) hf
          · have hf := it_t hc hf
            refine lv_iconst (v := (1 : Int32)) hx hb dX2_isOneMoveBefore_63 (by decide) ?_
            exact zretRZ hx hb hr hlocks rfl hf dX2_isOneMoveBefore_64
  obtain ⟨ls, hl, he⟩ := zent (m := m) (n := 8) (L := [(0, .ref (h0 0)), (1, .ref (h1 0)), (2, .int x2), (3, .int x3), (4, .int x4)]) ha (Nat.le_of_ble_eq_true rfl) rfl
  refine W.eq he ?_
  unfold fX2_isOneMoveBefore at hf
  have kE : W p l e ({ frames := 3, cells := 0, slots := 0, locals := 71 } : Room) s m args below meth c s.heap [] 0 0 (MQ below (vp_Si (fun q => q = z)) args s 0 0 (fun _ => False)) (F0 m 0 ls []) := by
    refine lv_iload_n hx hb dX2_isOneMoveBefore_0 rfl (lv_at hl 3 rfl) ?_
    refine lv_bipush (v := (64 : Int32)) hx hb dX2_isOneMoveBefore_1 (by decide) ?_
    refine lv_zrem hx hb dX2_isOneMoveBefore_3 (by decide) ?_
    refine lv_istore (lv' := [(5, .int (zrem x3 (64 : Int32))), (0, .ref (h0 0)), (1, .ref (h1 0)), (2, .int x2), (3, .int x3), (4, .int x4)]) hx hb dX2_isOneMoveBefore_4 hl (by decide) rfl (fun ls hl => ?_)
    refine lv_iload_n hx hb dX2_isOneMoveBefore_6 rfl (lv_at hl 4 rfl) ?_
    refine lv_bipush (v := (64 : Int32)) hx hb dX2_isOneMoveBefore_7 (by decide) ?_
    refine lv_idiv hx hb dX2_isOneMoveBefore_9 (by decide) ?_
    refine lv_istore (lv' := [(6, .int (x3 / (64 : Int32))), (5, .int (zrem x3 (64 : Int32))), (0, .ref (h0 0)), (1, .ref (h1 0)), (2, .int x2), (3, .int x3), (4, .int x4)]) hx hb dX2_isOneMoveBefore_10 hl (by decide) rfl (fun ls hl => ?_)
    refine lv_aload_n hx hb dX2_isOneMoveBefore_12 rfl (lv_at hl 3 rfl) ?_
    refine lv_iload hx hb dX2_isOneMoveBefore_13 (lv_at hl 1 rfl) ?_
    obtain ⟨r2, hq1, hf⟩ := ob1_d hf
    refine zroV (q := (RX6, TX6, 10)) (As := [.int (zrem x3 (64 : Int32))]) (rest := []) (r := r2) ⟨hx, hb, hml, hown, hts⟩ (kX6_floatsAt l dC dI cy h1 w1 (zrem x3 (64 : Int32)) r2 hq1) mw_431 mw_255 mw_256 mw_3 mw_257 hdX6_floatsAt rfl rfl ⟨Nat.le_of_ble_eq_true rfl, Nat.le_of_ble_eq_true rfl⟩ hP hK hG hS 2 rfl rfl [2, 3, 4, 5, 6, 7, 8, 9, 10] rfl rfl hl.1 rfl (Nat.le_of_ble_eq_true rfl) dX2_isOneMoveBefore_15 ⟨Nat.zero_le _, Nat.zero_le _⟩ ?_
    refine lv_if_ne (tgt := 23) hx hb dX2_isOneMoveBefore_18 (by decide) (fun hc => ?_) (fun hc => ?_)
    · have hf := it_f hc hf
      refine lv_iconst (v := (0 : Int32)) hx hb dX2_isOneMoveBefore_23 (by decide) ?_
      refine lv_istore (lv' := [(7, .int (0 : Int32)), (6, .int (x3 / (64 : Int32))), (5, .int (zrem x3 (64 : Int32))), (0, .ref (h0 0)), (1, .ref (h1 0)), (2, .int x2), (3, .int x3), (4, .int x4)]) hx hb dX2_isOneMoveBefore_24 hl (by decide) rfl (fun ls hl => ?_)
      exact k26 zFU x2 x4 (zrem x3 (64 : Int32)) (x3 / (64 : Int32)) (0 : Int32) ls (lv_sub hl [3, 4, 5, 7, 2, 1, 0] rfl) hf
    · have hf := it_t hc hf
      refine lv_iconst (v := (0 : Int32)) hx hb dX2_isOneMoveBefore_21 (by decide) ?_
      exact zretRZ hx hb hr hlocks rfl hf dX2_isOneMoveBefore_22
  exact kE
set_option maxHeartbeats 4000000 in
set_option maxRecDepth 100000 in
theorem kX2_markRound (l : Launch) (dC : Nat → ClassId) (dI : Nat → Nat → Nat) (cy : ClassId) (h0 : Nat → Nat) (w0 : Nat → Nat → Int32) (h1 : Nat → Nat) (w1 : Nat → Nat → Int32) (x2 : Int32) (x3 : Int32) (sz : Nat) (z : Int32 × (Nat → Int32)) (hf : fX2_markRound w0 w1 x2 x3 = some z) : Met l yX2_markRound (wsM yX2_markRound cX2_markRound 6 (some .boolean)) ({ frames := 4, cells := 0, slots := 0, locals := 98 } : Room) (va_Pc [.ref (h0 0), .ref (h1 0), .int x2, .int x3] (pWR (dC, dI) vwCl [(cy, .int)] (zW_26 cy h0 w0 h1 w1) sz)) (va_Qi (fun (q : Int32) (v : (Nat → Int32)) => (q, v) = z) (fun v => aWR (dC, dI) vwCl [(cy, .int)] (va_A (zW_26 cy h0 w0 h1 w1) sz) (zW_26 cy h0 (ups w0 1 v) h1 w1)) (va_A (zW_26 cy h0 w0 h1 w1) sz)) 0 0 (va_A (zW_26 cy h0 w0 h1 w1) sz) := by
  refine Met.ofW (cc := cX2_markRound) (maxL := 6) (ret := (some .boolean)) (by decide) rfl ?_
  intro p e s m args below meth c s₁ B hml hv
  obtain ⟨ha, hsz, hP, hK, hD0, hG⟩ := hv
  have hx := B.exec
  have hb := B.bytes
  have hr := B.returns
  have hts : ∀ w ∈ wsA, w.before args s = true := fun w h => atoms_spec (ws := wsM yX2_markRound cX2_markRound 6 (some .boolean)) B.pre w (List.mem_cons_of_mem _ h)
  have hown : s.vm.findClass RX2 = some m.cls := findClass_of_methodNamed B.named
  have hlocks := B.notSynchronized
  subst hsz
  have hD := hD0.self (sz := s.heap.size)
  generalize hAe : va_A (zW_26 cy h0 w0 h1 w1) s.heap.size = A at hD hG ⊢
  have hA : ∀ q : Nat, s.heap.size ≤ q → A q := fun q h => by rw [← hAe]; exact Or.inr h
  have hS : va_S A s.heap s.heap [] := va_S.rf
  have hP : va_P (dC, dI) vwCl (zW_26 cy h0 (ups w0 1 (w0 1)) h1 w1) s.heap := hP
  have hD : va_D A (zW_26 cy h0 (ups w0 1 (w0 1)) h1 w1) := hD
  have k53 : ∀ (s6 : (Nat → Int32) → Int32 → Int32 → Int32 → Int32 → Option (Int32 × (Nat → Int32))) (hs6 : ∀ (c0_1 : (Nat → Int32)) (x2 : Int32) (x3 : Int32) (x4 : Int32) (x5 : Int32) (H : Heap) (locs : List Loc) (ls : Array Slot), va_P (dC, dI) vwCl (zW_26 cy h0 (ups w0 1 c0_1) h1 w1) H → va_D A (zW_26 cy h0 (ups w0 1 c0_1) h1 w1) → va_S A s.heap H locs → lv_has ls 6 [(0, .ref (h0 0)), (1, .ref (h1 0)), (2, .int x2), (3, .int x3), (4, .int x4), (5, .int x5)] → s6 c0_1 x2 x3 x4 x5 = some z → W p l e ({ frames := 4, cells := 0, slots := 0, locals := 98 } : Room) s m args below meth c H locs 0 0 (MQ below (va_Qi (fun (q : Int32) (v : (Nat → Int32)) => (q, v) = z) (fun v => aWR (dC, dI) vwCl [(cy, .int)] A (zW_26 cy h0 (ups w0 1 v) h1 w1)) A) args s 0 0 A) (F0 m 6 ls [])), ∀ (c0_1 : (Nat → Int32)) (x2 : Int32) (x3 : Int32) (x4 : Int32) (x5 : Int32) (H : Heap) (locs : List Loc) (ls : Array Slot), va_P (dC, dI) vwCl (zW_26 cy h0 (ups w0 1 c0_1) h1 w1) H → va_D A (zW_26 cy h0 (ups w0 1 c0_1) h1 w1) → va_S A s.heap H locs → lv_has ls 6 [(0, .ref (h0 0)), (1, .ref (h1 0)), (2, .int x2), (3, .int x3), (4, .int x4), (5, .int x5)] → (fX2_markRound_53 w0 w1 s6) c0_1 x2 x3 x4 x5 = some z → W p l e ({ frames := 4, cells := 0, slots := 0, locals := 98 } : Room) s m args below meth c H locs 0 0 (MQ below (va_Qi (fun (q : Int32) (v : (Nat → Int32)) => (q, v) = z) (fun v => aWR (dC, dI) vwCl [(cy, .int)] A (zW_26 cy h0 (ups w0 1 v) h1 w1)) A) args s 0 0 A) (F0 m 53 ls []) := by
    intro s6 hs6
    intro c0_1 x2 x3 x4 x5 H locs ls hP hD hS hl hf
    unfold fX2_markRound_53 at hf
    refine lv_zinc (lv' := [(5, .int (x5 + (1 : Int32))), (0, .ref (h0 0)), (1, .ref (h1 0)), (2, .int x2), (3, .int x3), (4, .int x4)]) hx hb dX2_markRound_53 hl (k := 5) rfl (v := (1 : Int32)) (by decide) (by decide) rfl (fun ls hl => ?_)
    refine lv_goto (tgt := 6) hx hb dX2_markRound_56 (by decide) ?_
    exact hs6 c0_1 x2 x3 x4 (x5 + (1 : Int32)) H locs ls hP hD hS (lv_sub hl [1, 2, 3, 4, 5, 0] rfl) hf
  have k6 : ∀ n : Nat, ∀ (c0_1 : (Nat → Int32)) (x2 : Int32) (x3 : Int32) (x4 : Int32) (x5 : Int32) (H : Heap) (locs : List Loc) (ls : Array Slot), va_P (dC, dI) vwCl (zW_26 cy h0 (ups w0 1 c0_1) h1 w1) H → va_D A (zW_26 cy h0 (ups w0 1 c0_1) h1 w1) → va_S A s.heap H locs → lv_has ls 6 [(0, .ref (h0 0)), (1, .ref (h1 0)), (2, .int x2), (3, .int x3), (4, .int x4), (5, .int x5)] → (zl5 (fX2_markRound_6 w0 w1) n) c0_1 x2 x3 x4 x5 = some z → W p l e ({ frames := 4, cells := 0, slots := 0, locals := 98 } : Room) s m args below meth c H locs 0 0 (MQ below (va_Qi (fun (q : Int32) (v : (Nat → Int32)) => (q, v) = z) (fun v => aWR (dC, dI) vwCl [(cy, .int)] A (zW_26 cy h0 (ups w0 1 v) h1 w1)) A) args s 0 0 A) (F0 m 6 ls []) := by
    intro n
    induction n with
    | zero =>
      intro c0_1 x2 x3 x4 x5 H locs ls hP hD hS hl hf
      exact z_no hf
    | succ n hs6 =>
      intro c0_1 x2 x3 x4 x5 H locs ls hP hD hS hl hf
      have hf : fX2_markRound_6 w0 w1 (zl5 (fX2_markRound_6 w0 w1) n) c0_1 x2 x3 x4 x5 = some z := hf
      generalize zl5 (fX2_markRound_6 w0 w1) n = s6 at hs6 hf
      unfold fX2_markRound_6 at hf
      refine lv_iload hx hb dX2_markRound_6 (lv_at hl 5 rfl) ?_
      refine lv_aload_n hx hb dX2_markRound_8 rfl (lv_at hl 0 rfl) ?_
      refine zget hx hb hts hown hK hP hin_2 0 rfl rfl 0 (by decide) mw_130 (v := .ref (h0 1)) rfl dX2_markRound_9 ?_
      refine va_alen hx hb hK hP 1 0 rfl rfl (v := (192 : Int32)) (show Int32.ofNat 192 = (192 : Int32) from by decide) dX2_markRound_12 ?_
      refine lv_icmp_ge (tgt := 59) hx hb dX2_markRound_13 (by decide) (fun hc => ?_) (fun hc => ?_)
      · have hf := it_t hc hf
        refine lv_iload hx hb dX2_markRound_59 (lv_at hl 4 rfl) ?_
        obtain ⟨hz1, hf⟩ := gz_d hf
        exact zretZ hx hb hr hlocks hP hK hD hS (gz_n hz1) hf rfl dX2_markRound_61
      · have hf := it_f hc hf
        refine lv_aload_n hx hb dX2_markRound_16 rfl (lv_at hl 0 rfl) ?_
        refine zget hx hb hts hown hK hP hin_2 0 rfl rfl 0 (by decide) mw_130 (v := .ref (h0 1)) rfl dX2_markRound_17 ?_
        refine lv_iload hx hb dX2_markRound_20 (lv_at hl 5 rfl) ?_
        obtain ⟨hin2, hf⟩ := gd_d hf
        refine va_iald hx hb hK hP 1 0 rfl rfl hin2 dX2_markRound_22 ?_
        refine lv_bipush (v := (-9 : Int32)) hx hb dX2_markRound_23 (by decide) ?_
        refine lv_icmp_ne (tgt := 53) hx hb dX2_markRound_25 (by decide) (fun hc => ?_) (fun hc => ?_)
        · have hf := it_f hc hf
          exact k53 s6 hs6 c0_1 x2 x3 x4 x5 H locs ls hP hD hS (lv_sub hl [0, 1, 2, 3, 4, 5] rfl) hf
        · have hf := it_t hc hf
          refine lv_aload_n hx hb dX2_markRound_28 rfl (lv_at hl 0 rfl) ?_
          refine lv_aload_n hx hb dX2_markRound_29 rfl (lv_at hl 1 rfl) ?_
          refine lv_iload_n hx hb dX2_markRound_30 rfl (lv_at hl 2 rfl) ?_
          refine lv_iload hx hb dX2_markRound_31 (lv_at hl 5 rfl) ?_
          refine lv_iload_n hx hb dX2_markRound_33 rfl (lv_at hl 3 rfl) ?_
          refine lv_iconst (v := (1 : Int32)) hx hb dX2_markRound_34 (by decide) ?_
          refine lv_isub hx hb dX2_markRound_35 ?_
          obtain ⟨r4, hq3, hf⟩ := ob1_d hf
          refine zroV (q := (RX2, TX2, 1)) (As := [.ref (h1 0), .int x2, .int x5, .int (x3 - (1 : Int32))]) (rest := []) (r := r4) ⟨hx, hb, hml, hown, hts⟩ (kX2_isOneMoveBefore l dC dI cy h0 (ups w0 1 c0_1) h1 w1 x2 x5 (x3 - (1 : Int32)) r4 hq3) mw_428 mw_429 mw_893 mw_7 mw_430 hdX2_isOneMoveBefore rfl rfl ⟨Nat.le_of_ble_eq_true rfl, Nat.le_of_ble_eq_true rfl⟩ hP hK hG hS 0 rfl rfl [0, 1, 2, 3, 4, 5, 6, 7, 8, 9, 10] rfl rfl hl.1 rfl (Nat.le_of_ble_eq_true rfl) dX2_markRound_36 ⟨Nat.zero_le _, Nat.zero_le _⟩ ?_
          refine lv_if_eq (tgt := 53) hx hb dX2_markRound_39 (by decide) (fun hc => ?_) (fun hc => ?_)
          · have hf := it_t hc hf
            exact k53 s6 hs6 c0_1 x2 x3 x4 x5 H locs ls hP hD hS (lv_sub hl [0, 1, 2, 3, 4, 5] rfl) hf
          · have hf := it_f hc hf
            refine lv_aload_n hx hb dX2_markRound_42 rfl (lv_at hl 0 rfl) ?_
            refine zget hx hb hts hown hK hP hin_2 0 rfl rfl 0 (by decide) mw_130 (v := .ref (h0 1)) rfl dX2_markRound_43 ?_
            refine lv_iload hx hb dX2_markRound_46 (lv_at hl 5 rfl) ?_
            refine lv_iload_n hx hb dX2_markRound_48 rfl (lv_at hl 3 rfl) ?_
            obtain ⟨hin5, hf⟩ := gd_d hf
            obtain ⟨g6, hg6, hf⟩ := nm_d hf
            refine zast hx hb hK hP hD hS 1 (wn := (zW_26 cy h0 (ups w0 1 g6) h1 w1)) hg6 rfl rfl hin5 rfl dX2_markRound_49 (fun H locs hP hD hS => ?_)
            refine lv_iconst (v := (1 : Int32)) hx hb dX2_markRound_50 (by decide) ?_
            refine lv_istore (lv' := [(4, .int (1 : Int32)), (0, .ref (h0 0)), (1, .ref (h1 0)), (2, .int x2), (3, .int x3), (5, .int x5)]) hx hb dX2_markRound_51 hl (by decide) rfl (fun ls hl => ?_)
            exact k53 s6 hs6 g6 x2 x3 (1 : Int32) x5 H locs ls hP hD hS (lv_sub hl [1, 2, 3, 4, 0, 5] rfl) hf
  obtain ⟨ls, hl, he⟩ := zent (m := m) (n := 6) (L := [(0, .ref (h0 0)), (1, .ref (h1 0)), (2, .int x2), (3, .int x3)]) ha (Nat.le_of_ble_eq_true rfl) rfl
  refine W.eq he ?_
  unfold fX2_markRound at hf
  have kE : ∀ (H : Heap) (locs : List Loc), va_P (dC, dI) vwCl (zW_26 cy h0 (ups w0 1 (w0 1)) h1 w1) H → va_D A (zW_26 cy h0 (ups w0 1 (w0 1)) h1 w1) → va_S A s.heap H locs → W p l e ({ frames := 4, cells := 0, slots := 0, locals := 98 } : Room) s m args below meth c H locs 0 0 (MQ below (va_Qi (fun (q : Int32) (v : (Nat → Int32)) => (q, v) = z) (fun v => aWR (dC, dI) vwCl [(cy, .int)] A (zW_26 cy h0 (ups w0 1 v) h1 w1)) A) args s 0 0 A) (F0 m 0 ls []) := by
    intro H locs hP hD hS
    refine lv_iconst (v := (0 : Int32)) hx hb dX2_markRound_0 (by decide) ?_
    refine lv_istore (lv' := [(4, .int (0 : Int32)), (0, .ref (h0 0)), (1, .ref (h1 0)), (2, .int x2), (3, .int x3)]) hx hb dX2_markRound_1 hl (by decide) rfl (fun ls hl => ?_)
    refine lv_iconst (v := (0 : Int32)) hx hb dX2_markRound_3 (by decide) ?_
    refine lv_istore (lv' := [(5, .int (0 : Int32)), (4, .int (0 : Int32)), (0, .ref (h0 0)), (1, .ref (h1 0)), (2, .int x2), (3, .int x3)]) hx hb dX2_markRound_4 hl (by decide) rfl (fun ls hl => ?_)
    exact k6 zFU (w0 1) x2 x3 (0 : Int32) (0 : Int32) H locs ls hP hD hS (lv_sub hl [2, 3, 4, 5, 1, 0] rfl) hf
  exact kE s.heap [] hP hD hS
set_option maxHeartbeats 4000000 in
set_option maxRecDepth 100000 in
theorem kX2_reckon (l : Launch) (dC : Nat → ClassId) (dI : Nat → Nat → Nat) (cy : ClassId) (h0 : Nat → Nat) (w0 : Nat → Nat → Int32) (h1 : Nat → Nat) (w1 : Nat → Nat → Int32) (x2 : Int32) (sz : Nat) (z : (Nat → Int32)) (hf : fX2_reckon w0 w1 x2 = some z) : Met l yX2_reckon (wsM yX2_reckon cX2_reckon 5 none) ({ frames := 5, cells := 0, slots := 0, locals := 123 } : Room) (va_Pc [.ref (h0 0), .ref (h1 0), .int x2] (pWR (dC, dI) vwCl [(cy, .int)] (zW_26 cy h0 w0 h1 w1) sz)) (va_Qv (fun (v : (Nat → Int32)) => v = z) (fun v => aWR (dC, dI) vwCl [(cy, .int)] (va_A (zW_26 cy h0 w0 h1 w1) sz) (zW_26 cy h0 (ups w0 1 v) h1 w1)) (va_A (zW_26 cy h0 w0 h1 w1) sz)) 0 0 (va_A (zW_26 cy h0 w0 h1 w1) sz) := by
  refine Met.ofW (cc := cX2_reckon) (maxL := 5) (ret := none) (by decide) rfl ?_
  intro p e s m args below meth c s₁ B hml hv
  obtain ⟨ha, hsz, hP, hK, hD0, hG⟩ := hv
  have hx := B.exec
  have hb := B.bytes
  have hr := B.returns
  have hts : ∀ w ∈ wsA, w.before args s = true := fun w h => atoms_spec (ws := wsM yX2_reckon cX2_reckon 5 none) B.pre w (List.mem_cons_of_mem _ h)
  have hown : s.vm.findClass RX2 = some m.cls := findClass_of_methodNamed B.named
  have hlocks := B.notSynchronized
  subst hsz
  have hD := hD0.self (sz := s.heap.size)
  generalize hAe : va_A (zW_26 cy h0 w0 h1 w1) s.heap.size = A at hD hG ⊢
  have hA : ∀ q : Nat, s.heap.size ≤ q → A q := fun q h => by rw [← hAe]; exact Or.inr h
  have hS : va_S A s.heap s.heap [] := va_S.rf
  have hP : va_P (dC, dI) vwCl (zW_26 cy h0 (ups w0 1 (w0 1)) h1 w1) s.heap := hP
  have hD : va_D A (zW_26 cy h0 (ups w0 1 (w0 1)) h1 w1) := hD
  have k30 : ∀ n : Nat, ∀ (c0_1 : (Nat → Int32)) (x2 : Int32) (x3 : Int32) (x4 : Int32) (H : Heap) (locs : List Loc) (ls : Array Slot), va_P (dC, dI) vwCl (zW_26 cy h0 (ups w0 1 c0_1) h1 w1) H → va_D A (zW_26 cy h0 (ups w0 1 c0_1) h1 w1) → va_S A s.heap H locs → lv_has ls 5 [(0, .ref (h0 0)), (1, .ref (h1 0)), (2, .int x2), (3, .int x3), (4, .int x4)] → (zl4 (fX2_reckon_30 w0 w1) n) c0_1 x2 x3 x4 = some z → W p l e ({ frames := 5, cells := 0, slots := 0, locals := 123 } : Room) s m args below meth c H locs 0 0 (MQ below (va_Qv (fun (v : (Nat → Int32)) => v = z) (fun v => aWR (dC, dI) vwCl [(cy, .int)] A (zW_26 cy h0 (ups w0 1 v) h1 w1)) A) args s 0 0 A) (F0 m 30 ls []) := by
    intro n
    induction n with
    | zero =>
      intro c0_1 x2 x3 x4 H locs ls hP hD hS hl hf
      exact z_no hf
    | succ n hs30 =>
      intro c0_1 x2 x3 x4 H locs ls hP hD hS hl hf
      have hf : fX2_reckon_30 w0 w1 (zl4 (fX2_reckon_30 w0 w1) n) c0_1 x2 x3 x4 = some z := hf
      generalize zl4 (fX2_reckon_30 w0 w1) n = s30 at hs30 hf
      unfold fX2_reckon_30 at hf
      refine lv_iload hx hb dX2_reckon_30 (lv_at hl 4 rfl) ?_
      refine lv_aload_n hx hb dX2_reckon_32 rfl (lv_at hl 0 rfl) ?_
      refine zget hx hb hts hown hK hP hin_2 0 rfl rfl 0 (by decide) mw_130 (v := .ref (h0 1)) rfl dX2_reckon_33 ?_
      refine va_alen hx hb hK hP 1 0 rfl rfl (v := (192 : Int32)) (show Int32.ofNat 192 = (192 : Int32) from by decide) dX2_reckon_36 ?_
      refine lv_icmp_gt (tgt := 59) hx hb dX2_reckon_37 (by decide) (fun hc => ?_) (fun hc => ?_)
      · have hf := it_t hc hf
        exact zretV hx hb hr hlocks hP hK hD hS hf rfl dX2_reckon_59
      · have hf := it_f hc hf
        refine lv_iload_n hx hb dX2_reckon_40 rfl (lv_at hl 3 rfl) ?_
        refine lv_if_eq (tgt := 59) hx hb dX2_reckon_41 (by decide) (fun hc => ?_) (fun hc => ?_)
        · have hf := it_t hc hf
          exact zretV hx hb hr hlocks hP hK hD hS hf rfl dX2_reckon_59
        · have hf := it_f hc hf
          refine lv_aload_n hx hb dX2_reckon_44 rfl (lv_at hl 0 rfl) ?_
          refine lv_aload_n hx hb dX2_reckon_45 rfl (lv_at hl 1 rfl) ?_
          refine lv_iload_n hx hb dX2_reckon_46 rfl (lv_at hl 2 rfl) ?_
          refine lv_iload hx hb dX2_reckon_47 (lv_at hl 4 rfl) ?_
          obtain ⟨r2, u3, hq1, hf⟩ := ob2_d hf
          refine zwiV (q := (RX2, TX2, 1)) (As := [.ref (h1 0), .int x2, .int x4]) (rest := []) (r := r2) (u := u3) (wn := (zW_26 cy h0 (ups w0 1 u3) h1 w1)) ⟨hx, hb, hml, hown, hts⟩ (kX2_markRound l dC dI cy h0 (ups w0 1 c0_1) h1 w1 x2 x4 H.size (r2, u3) hq1) mw_425 mw_426 mw_892 mw_7 mw_427 hdX2_markRound rfl rfl ⟨Nat.le_of_ble_eq_true rfl, Nat.le_of_ble_eq_true rfl⟩ hP hK hG hS 0 rfl rfl hD hA [0, 1, 2, 3, 4, 5, 6, 7, 8, 9, 10] [] [0, 1, 2, 3, 4, 5, 6, 7, 8, 9, 10] rfl rfl rfl rfl (by decide) rfl rfl rfl hl.1 rfl (Nat.le_of_ble_eq_true rfl) dX2_reckon_49 ⟨Nat.zero_le _, Nat.zero_le _⟩ (fun H locs hP hD hS => ?_)
          refine lv_istore_n (lv' := [(3, .int r2), (0, .ref (h0 0)), (1, .ref (h1 0)), (2, .int x2), (4, .int x4)]) hx hb dX2_reckon_52 rfl hl (by decide) rfl (fun ls hl => ?_)
          refine lv_zinc (lv' := [(4, .int (x4 + (1 : Int32))), (3, .int r2), (0, .ref (h0 0)), (1, .ref (h1 0)), (2, .int x2)]) hx hb dX2_reckon_53 hl (k := 4) rfl (v := (1 : Int32)) (by decide) (by decide) rfl (fun ls hl => ?_)
          refine lv_goto (tgt := 30) hx hb dX2_reckon_56 (by decide) ?_
          exact hs30 u3 x2 r2 (x4 + (1 : Int32)) H locs ls hP hD hS (lv_sub hl [2, 3, 4, 1, 0] rfl) hf
  have k2 : ∀ n : Nat, ∀ (c0_1 : (Nat → Int32)) (x2 : Int32) (x3 : Int32) (H : Heap) (locs : List Loc) (ls : Array Slot), va_P (dC, dI) vwCl (zW_26 cy h0 (ups w0 1 c0_1) h1 w1) H → va_D A (zW_26 cy h0 (ups w0 1 c0_1) h1 w1) → va_S A s.heap H locs → lv_has ls 5 [(0, .ref (h0 0)), (1, .ref (h1 0)), (2, .int x2), (3, .int x3)] → (zl3 (fX2_reckon_2 w0 w1) n) c0_1 x2 x3 = some z → W p l e ({ frames := 5, cells := 0, slots := 0, locals := 123 } : Room) s m args below meth c H locs 0 0 (MQ below (va_Qv (fun (v : (Nat → Int32)) => v = z) (fun v => aWR (dC, dI) vwCl [(cy, .int)] A (zW_26 cy h0 (ups w0 1 v) h1 w1)) A) args s 0 0 A) (F0 m 2 ls []) := by
    intro n
    induction n with
    | zero =>
      intro c0_1 x2 x3 H locs ls hP hD hS hl hf
      exact z_no hf
    | succ n hs2 =>
      intro c0_1 x2 x3 H locs ls hP hD hS hl hf
      have hf : fX2_reckon_2 w0 w1 (zl3 (fX2_reckon_2 w0 w1) n) c0_1 x2 x3 = some z := hf
      generalize zl3 (fX2_reckon_2 w0 w1) n = s2 at hs2 hf
      unfold fX2_reckon_2 at hf
      refine lv_iload_n hx hb dX2_reckon_2 rfl (lv_at hl 3 rfl) ?_
      refine lv_aload_n hx hb dX2_reckon_3 rfl (lv_at hl 0 rfl) ?_
      refine zget hx hb hts hown hK hP hin_2 0 rfl rfl 0 (by decide) mw_130 (v := .ref (h0 1)) rfl dX2_reckon_4 ?_
      refine va_alen hx hb hK hP 1 0 rfl rfl (v := (192 : Int32)) (show Int32.ofNat 192 = (192 : Int32) from by decide) dX2_reckon_7 ?_
      refine lv_icmp_ge (tgt := 25) hx hb dX2_reckon_8 (by decide) (fun hc => ?_) (fun hc => ?_)
      · have hf := it_t hc hf
        refine lv_iconst (v := (1 : Int32)) hx hb dX2_reckon_25 (by decide) ?_
        refine lv_istore_n (lv' := [(3, .int (1 : Int32)), (0, .ref (h0 0)), (1, .ref (h1 0)), (2, .int x2)]) hx hb dX2_reckon_26 rfl hl (by decide) rfl (fun ls hl => ?_)
        refine lv_iconst (v := (1 : Int32)) hx hb dX2_reckon_27 (by decide) ?_
        refine lv_istore (lv' := [(4, .int (1 : Int32)), (3, .int (1 : Int32)), (0, .ref (h0 0)), (1, .ref (h1 0)), (2, .int x2)]) hx hb dX2_reckon_28 hl (by decide) rfl (fun ls hl => ?_)
        exact k30 zFU c0_1 x2 (1 : Int32) (1 : Int32) H locs ls hP hD hS (lv_sub hl [2, 3, 4, 1, 0] rfl) hf
      · have hf := it_f hc hf
        refine lv_aload_n hx hb dX2_reckon_11 rfl (lv_at hl 0 rfl) ?_
        refine zget hx hb hts hown hK hP hin_2 0 rfl rfl 0 (by decide) mw_130 (v := .ref (h0 1)) rfl dX2_reckon_12 ?_
        refine lv_iload_n hx hb dX2_reckon_15 rfl (lv_at hl 3 rfl) ?_
        refine lv_bipush (v := (-9 : Int32)) hx hb dX2_reckon_16 (by decide) ?_
        obtain ⟨hin4, hf⟩ := gd_d hf
        obtain ⟨g5, hg5, hf⟩ := nm_d hf
        refine zast hx hb hK hP hD hS 1 (wn := (zW_26 cy h0 (ups w0 1 g5) h1 w1)) hg5 rfl rfl hin4 rfl dX2_reckon_18 (fun H locs hP hD hS => ?_)
        refine lv_zinc (lv' := [(3, .int (x3 + (1 : Int32))), (0, .ref (h0 0)), (1, .ref (h1 0)), (2, .int x2)]) hx hb dX2_reckon_19 hl (k := 3) rfl (v := (1 : Int32)) (by decide) (by decide) rfl (fun ls hl => ?_)
        refine lv_goto (tgt := 2) hx hb dX2_reckon_22 (by decide) ?_
        exact hs2 g5 x2 (x3 + (1 : Int32)) H locs ls hP hD hS (lv_sub hl [1, 2, 3, 0] rfl) hf
  obtain ⟨ls, hl, he⟩ := zent (m := m) (n := 5) (L := [(0, .ref (h0 0)), (1, .ref (h1 0)), (2, .int x2)]) ha (Nat.le_of_ble_eq_true rfl) rfl
  refine W.eq he ?_
  unfold fX2_reckon at hf
  have kE : ∀ (H : Heap) (locs : List Loc), va_P (dC, dI) vwCl (zW_26 cy h0 (ups w0 1 (w0 1)) h1 w1) H → va_D A (zW_26 cy h0 (ups w0 1 (w0 1)) h1 w1) → va_S A s.heap H locs → W p l e ({ frames := 5, cells := 0, slots := 0, locals := 123 } : Room) s m args below meth c H locs 0 0 (MQ below (va_Qv (fun (v : (Nat → Int32)) => v = z) (fun v => aWR (dC, dI) vwCl [(cy, .int)] A (zW_26 cy h0 (ups w0 1 v) h1 w1)) A) args s 0 0 A) (F0 m 0 ls []) := by
    intro H locs hP hD hS
    refine lv_iconst (v := (0 : Int32)) hx hb dX2_reckon_0 (by decide) ?_
    refine lv_istore_n (lv' := [(3, .int (0 : Int32)), (0, .ref (h0 0)), (1, .ref (h1 0)), (2, .int x2)]) hx hb dX2_reckon_1 rfl hl (by decide) rfl (fun ls hl => ?_)
    exact k2 zFU (w0 1) x2 (0 : Int32) H locs ls hP hD hS (lv_sub hl [1, 2, 3, 0] rfl) hf
  exact kE s.heap [] hP hD hS
set_option maxHeartbeats 4000000 in
set_option maxRecDepth 100000 in
theorem kX2_movesFrom (l : Launch) (dC : Nat → ClassId) (dI : Nat → Nat → Nat) (cy : ClassId) (h0 : Nat → Nat) (w0 : Nat → Nat → Int32) (x1 : Int32) (z : Int32) (hf : fX2_movesFrom w0 x1 = some z) : Met l yX2_movesFrom (wsM yX2_movesFrom cX2_movesFrom 2 (some .int)) ({ frames := 1, cells := 0, slots := 0, locals := 21 } : Room) (va_Pc [.ref (h0 0), .int x1] (pRO (dC, dI) vwCl [(cy, .int)] (zW_2 cy h0 w0))) (vp_Si (fun q => q = z)) 0 0 (fun _ => False) := by
  refine Met.ofW (cc := cX2_movesFrom) (maxL := 2) (ret := (some .int)) (by decide) rfl ?_
  intro p e s m args below meth c s₁ B hml hv
  obtain ⟨ha, hP, hK, hG⟩ := hv
  have hx := B.exec
  have hb := B.bytes
  have hr := B.returns
  have hts : ∀ w ∈ wsA, w.before args s = true := fun w h => atoms_spec (ws := wsM yX2_movesFrom cX2_movesFrom 2 (some .int)) B.pre w (List.mem_cons_of_mem _ h)
  have hown : s.vm.findClass RX2 = some m.cls := findClass_of_methodNamed B.named
  have hlocks := B.notSynchronized
  have hS : va_S (fun _ => False) s.heap s.heap [] := va_S.rf
  obtain ⟨ls, hl, he⟩ := zent (m := m) (n := 2) (L := [(0, .ref (h0 0)), (1, .int x1)]) ha (Nat.le_of_ble_eq_true rfl) rfl
  refine W.eq he ?_
  unfold fX2_movesFrom at hf
  have kE : W p l e ({ frames := 1, cells := 0, slots := 0, locals := 21 } : Room) s m args below meth c s.heap [] 0 0 (MQ below (vp_Si (fun q => q = z)) args s 0 0 (fun _ => False)) (F0 m 0 ls []) := by
    refine lv_iload_n hx hb dX2_movesFrom_0 rfl (lv_at hl 1 rfl) ?_
    refine lv_if_lt (tgt := 21) hx hb dX2_movesFrom_1 (by decide) (fun hc => ?_) (fun hc => ?_)
    · have hf := it_t hc hf
      refine lv_bipush (v := (-9 : Int32)) hx hb dX2_movesFrom_21 (by decide) ?_
      exact zretR hx hb hr hlocks hf dX2_movesFrom_23
    · have hf := it_f hc hf
      refine lv_iload_n hx hb dX2_movesFrom_4 rfl (lv_at hl 1 rfl) ?_
      refine lv_bipush (v := (64 : Int32)) hx hb dX2_movesFrom_5 (by decide) ?_
      refine lv_icmp_ge (tgt := 21) hx hb dX2_movesFrom_7 (by decide) (fun hc => ?_) (fun hc => ?_)
      · have hf := it_t hc hf
        refine lv_bipush (v := (-9 : Int32)) hx hb dX2_movesFrom_21 (by decide) ?_
        exact zretR hx hb hr hlocks hf dX2_movesFrom_23
      · have hf := it_f hc hf
        refine lv_aload_n hx hb dX2_movesFrom_10 rfl (lv_at hl 0 rfl) ?_
        refine zget hx hb hts hown hK hP hin_2 0 rfl rfl 0 (by decide) mw_130 (v := .ref (h0 1)) rfl dX2_movesFrom_11 ?_
        refine lv_iload_n hx hb dX2_movesFrom_14 rfl (lv_at hl 1 rfl) ?_
        obtain ⟨r2, hq1, hf⟩ := ob1_d hf
        refine zroSN (As := [.ref (h0 1), .int x1]) (rest := []) (r := r2) ⟨hx, hb, hml, hown, hts⟩ (kX7_valueAt l dC dI cy (h0 1) 192 (w0 1) x1 r2 hq1) (List.mem_of_getElem? (i := 16) rfl) mw_184 mw_1 mw_185 hdX7_valueAt rfl rfl ⟨Nat.le_of_ble_eq_true rfl, Nat.le_of_ble_eq_true rfl⟩ hP hK hG hS [1] rfl rfl hl.1 rfl (Nat.le_of_ble_eq_true rfl) dX2_movesFrom_15 ⟨Nat.zero_le _, Nat.zero_le _⟩ ?_
        refine lv_goto (tgt := 23) hx hb dX2_movesFrom_18 (by decide) ?_
        exact zretR hx hb hr hlocks hf dX2_movesFrom_23
  exact kE
set_option maxHeartbeats 4000000 in
set_option maxRecDepth 100000 in
theorem kX1_hasBeach (l : Launch) (dC : Nat → ClassId) (dI : Nat → Nat → Nat) (cy : ClassId) (h0 : Nat → Nat) (w0 : Nat → Nat → Int32) (z : Int32) (hf : fX1_hasBeach w0 = some z) : Met l yX1_hasBeach (wsM yX1_hasBeach cX1_hasBeach 2 (some .boolean)) ({ frames := 1, cells := 0, slots := 0, locals := 21 } : Room) (va_Pc [.ref (h0 0)] (pRO (dC, dI) vwCl [(cy, .int)] (zW_1 cy h0 w0))) (vp_Si (fun q => q = z)) 0 0 (fun _ => False) := by
  refine Met.ofW (cc := cX1_hasBeach) (maxL := 2) (ret := (some .boolean)) (by decide) rfl ?_
  intro p e s m args below meth c s₁ B hml hv
  obtain ⟨ha, hP, hK, hG⟩ := hv
  have hx := B.exec
  have hb := B.bytes
  have hr := B.returns
  have hts : ∀ w ∈ wsA, w.before args s = true := fun w h => atoms_spec (ws := wsM yX1_hasBeach cX1_hasBeach 2 (some .boolean)) B.pre w (List.mem_cons_of_mem _ h)
  have hown : s.vm.findClass RX1 = some m.cls := findClass_of_methodNamed B.named
  have hlocks := B.notSynchronized
  have hS : va_S (fun _ => False) s.heap s.heap [] := va_S.rf
  have k2 : ∀ n : Nat, ∀ (x1 : Int32) (ls : Array Slot), lv_has ls 2 [(0, .ref (h0 0)), (1, .int x1)] → (zl1 (fX1_hasBeach_2 w0) n) x1 = some z → W p l e ({ frames := 1, cells := 0, slots := 0, locals := 21 } : Room) s m args below meth c s.heap [] 0 0 (MQ below (vp_Si (fun q => q = z)) args s 0 0 (fun _ => False)) (F0 m 2 ls []) := by
    intro n
    induction n with
    | zero =>
      intro x1 ls hl hf
      exact z_no hf
    | succ n hs2 =>
      intro x1 ls hl hf
      have hf : fX1_hasBeach_2 w0 (zl1 (fX1_hasBeach_2 w0) n) x1 = some z := hf
      generalize zl1 (fX1_hasBeach_2 w0) n = s2 at hs2 hf
      unfold fX1_hasBeach_2 at hf
      refine lv_iload_n hx hb dX1_hasBeach_2 rfl (lv_at hl 1 rfl) ?_
      refine lv_aload_n hx hb dX1_hasBeach_3 rfl (lv_at hl 0 rfl) ?_
      obtain ⟨r2, hq1, hf⟩ := ob1_d hf
      refine zroV (q := (RX1, TX1, 3)) (As := []) (rest := [.int x1]) (r := r2) ⟨hx, hb, hml, hown, hts⟩ (kX1_cells l dC dI cy h0 w0 r2 hq1) mw_476 mw_201 mw_202 mw_4 mw_203 hdX1_cells rfl rfl ⟨Nat.le_of_ble_eq_true rfl, Nat.le_of_ble_eq_true rfl⟩ hP hK hG hS 0 rfl rfl [0, 1] rfl rfl hl.1 rfl (Nat.le_of_ble_eq_true rfl) dX1_hasBeach_4 ⟨Nat.zero_le _, Nat.zero_le _⟩ ?_
      refine lv_icmp_ge (tgt := 28) hx hb dX1_hasBeach_7 (by decide) (fun hc => ?_) (fun hc => ?_)
      · have hf := it_t hc hf
        refine lv_iconst (v := (0 : Int32)) hx hb dX1_hasBeach_28 (by decide) ?_
        exact zretRZ hx hb hr hlocks rfl hf dX1_hasBeach_29
      · have hf := it_f hc hf
        refine lv_aload_n hx hb dX1_hasBeach_10 rfl (lv_at hl 0 rfl) ?_
        refine lv_iload_n hx hb dX1_hasBeach_11 rfl (lv_at hl 1 rfl) ?_
        obtain ⟨r4, hq3, hf⟩ := ob1_d hf
        refine zroV (q := (RX1, TX1, 3)) (As := [.int x1]) (rest := []) (r := r4) ⟨hx, hb, hml, hown, hts⟩ (kX1_groundAt l dC dI cy h0 w0 x1 r4 hq3) mw_477 mw_213 mw_214 mw_4 mw_215 hdX1_groundAt rfl rfl ⟨Nat.le_of_ble_eq_true rfl, Nat.le_of_ble_eq_true rfl⟩ hP hK hG hS 0 rfl rfl [0, 1] rfl rfl hl.1 rfl (Nat.le_of_ble_eq_true rfl) dX1_hasBeach_12 ⟨Nat.zero_le _, Nat.zero_le _⟩ ?_
        refine lv_bipush (v := (30 : Int32)) hx hb dX1_hasBeach_15 (by decide) ?_
        refine lv_icmp_ne (tgt := 22) hx hb dX1_hasBeach_17 (by decide) (fun hc => ?_) (fun hc => ?_)
        · have hf := it_f hc hf
          refine lv_zinc (lv' := [(1, .int (x1 + (1 : Int32))), (0, .ref (h0 0))]) hx hb dX1_hasBeach_22 hl (k := 1) rfl (v := (1 : Int32)) (by decide) (by decide) rfl (fun ls hl => ?_)
          refine lv_goto (tgt := 2) hx hb dX1_hasBeach_25 (by decide) ?_
          exact hs2 (x1 + (1 : Int32)) ls (lv_sub hl [1, 0] rfl) hf
        · have hf := it_t hc hf
          refine lv_iconst (v := (1 : Int32)) hx hb dX1_hasBeach_20 (by decide) ?_
          exact zretRZ hx hb hr hlocks rfl hf dX1_hasBeach_21
  obtain ⟨ls, hl, he⟩ := zent (m := m) (n := 2) (L := [(0, .ref (h0 0))]) ha (Nat.le_of_ble_eq_true rfl) rfl
  refine W.eq he ?_
  unfold fX1_hasBeach at hf
  have kE : W p l e ({ frames := 1, cells := 0, slots := 0, locals := 21 } : Room) s m args below meth c s.heap [] 0 0 (MQ below (vp_Si (fun q => q = z)) args s 0 0 (fun _ => False)) (F0 m 0 ls []) := by
    refine lv_iconst (v := (0 : Int32)) hx hb dX1_hasBeach_0 (by decide) ?_
    refine lv_istore_n (lv' := [(1, .int (0 : Int32)), (0, .ref (h0 0))]) hx hb dX1_hasBeach_1 rfl hl (by decide) rfl (fun ls hl => ?_)
    exact k2 zFU (0 : Int32) ls (lv_sub hl [1, 0] rfl) hf
  exact kE
set_option maxHeartbeats 4000000 in
set_option maxRecDepth 100000 in
theorem kX7_actInRow (l : Launch) (dC : Nat → ClassId) (dI : Nat → Nat → Nat) (cy : ClassId) (x0 : Int32) (x1 : Int32) (x2 : Int32) (z : Int32) (hf : fX7_actInRow x0 x1 x2 = some z) : Met l yX7_actInRow (wsM yX7_actInRow cX7_actInRow 4 (some .int)) ({ frames := 1, cells := 0, slots := 0, locals := 21 } : Room) (va_Pc [.int x0, .int x1, .int x2] (pRO (dC, dI) vwCl [(cy, .int)] ([] : va_W))) (vp_Si (fun q => q = z)) 0 0 (fun _ => False) := by
  refine Met.ofW (cc := cX7_actInRow) (maxL := 4) (ret := (some .int)) (by decide) rfl ?_
  intro p e s m args below meth c s₁ B hml hv
  obtain ⟨ha, hP, hK, hG⟩ := hv
  have hx := B.exec
  have hb := B.bytes
  have hr := B.returns
  have hts : ∀ w ∈ wsA, w.before args s = true := fun w h => atoms_spec (ws := wsM yX7_actInRow cX7_actInRow 4 (some .int)) B.pre w (List.mem_cons_of_mem _ h)
  have hown : s.vm.findClass RX7 = some m.cls := findClass_of_methodNamed B.named
  have hlocks := B.notSynchronized
  have hS : va_S (fun _ => False) s.heap s.heap [] := va_S.rf
  obtain ⟨ls, hl, he⟩ := zent (m := m) (n := 4) (L := [(0, .int x0), (1, .int x1), (2, .int x2)]) ha (Nat.le_of_ble_eq_true rfl) rfl
  refine W.eq he ?_
  unfold fX7_actInRow at hf
  have kE : W p l e ({ frames := 1, cells := 0, slots := 0, locals := 21 } : Room) s m args below meth c s.heap [] 0 0 (MQ below (vp_Si (fun q => q = z)) args s 0 0 (fun _ => False)) (F0 m 0 ls []) := by
    obtain ⟨t1, hZ1, hT1⟩ := hG.2.2.2.2.1
    refine va_gets hx hb hZ1 hS hown (hts _ mw_488) (fun _ h => h) dX7_actInRow_0 ?_
    refine lv_iload_n hx hb dX7_actInRow_3 rfl (lv_at hl 0 rfl) ?_
    refine lv_iconst (v := (1 : Int32)) hx hb dX7_actInRow_4 (by decide) ?_
    refine lv_isub hx hb dX7_actInRow_5 ?_
    refine lv_iload_n hx hb dX7_actInRow_6 rfl (lv_at hl 2 rfl) ?_
    refine lv_isub hx hb dX7_actInRow_7 ?_
    obtain ⟨r3, hq2, hf⟩ := ob1_d hf
    refine zroTS (As := [.ref t1, .int ((x0 - (1 : Int32)) - x2)]) (rest := []) (r := r3) ⟨hx, hb, hml, hown, hts⟩ (kX7_valueAt_s l t1 5 sROWS_OF_ACTS ((x0 - (1 : Int32)) - x2) r3 hq2) mw_221 mw_184 mw_1 mw_185 hdX7_valueAt rfl rfl ⟨Nat.le_of_ble_eq_true rfl, Nat.le_of_ble_eq_true rfl⟩ hT1 hS rfl hl.1 rfl (Nat.le_of_ble_eq_true rfl) dX7_actInRow_8 ⟨Nat.zero_le _, Nat.zero_le _⟩ ?_
    refine lv_istore_n (lv' := [(3, .int r3), (0, .int x0), (1, .int x1), (2, .int x2)]) hx hb dX7_actInRow_11 rfl hl (by decide) rfl (fun ls hl => ?_)
    refine lv_iload_n hx hb dX7_actInRow_12 rfl (lv_at hl 0 rfl) ?_
    refine lv_if_le (tgt := 24) hx hb dX7_actInRow_13 (by decide) (fun hc => ?_) (fun hc => ?_)
    · have hf := it_t hc hf
      refine lv_iconst (v := (0 : Int32)) hx hb dX7_actInRow_24 (by decide) ?_
      exact zretR hx hb hr hlocks hf dX7_actInRow_25
    · have hf := it_f hc hf
      refine lv_iload_n hx hb dX7_actInRow_16 rfl (lv_at hl 2 rfl) ?_
      refine lv_iload_n hx hb dX7_actInRow_17 rfl (lv_at hl 0 rfl) ?_
      obtain ⟨hne4, hf⟩ := dv_d hf
      refine lv_idiv hx hb dX7_actInRow_18 hne4 ?_
      refine lv_iconst (v := (5 : Int32)) hx hb dX7_actInRow_19 (by decide) ?_
      refine lv_zrem hx hb dX7_actInRow_20 (by decide) ?_
      refine lv_goto (tgt := 25) hx hb dX7_actInRow_21 (by decide) ?_
      exact zretR hx hb hr hlocks hf dX7_actInRow_25
  exact kE
set_option maxHeartbeats 4000000 in
set_option maxRecDepth 100000 in
theorem kX1_seaSeenBy (l : Launch) (dC : Nat → ClassId) (dI : Nat → Nat → Nat) (cy : ClassId) (h0 : Nat → Nat) (w0 : Nat → Nat → Int32) (x1 : Int32) (x2 : Int32) (z : Int32) (hf : fX1_seaSeenBy w0 x1 x2 = some z) : Met l yX1_seaSeenBy (wsM yX1_seaSeenBy cX1_seaSeenBy 6 (some .int)) ({ frames := 2, cells := 0, slots := 0, locals := 45 } : Room) (va_Pc [.ref (h0 0), .int x1, .int x2] (pRO (dC, dI) vwCl [(cy, .int)] (zW_1 cy h0 w0))) (vp_Si (fun q => q = z)) 0 0 (fun _ => False) := by
  refine Met.ofW (cc := cX1_seaSeenBy) (maxL := 6) (ret := (some .int)) (by decide) rfl ?_
  intro p e s m args below meth c s₁ B hml hv
  obtain ⟨ha, hP, hK, hG⟩ := hv
  have hx := B.exec
  have hb := B.bytes
  have hr := B.returns
  have hts : ∀ w ∈ wsA, w.before args s = true := fun w h => atoms_spec (ws := wsM yX1_seaSeenBy cX1_seaSeenBy 6 (some .int)) B.pre w (List.mem_cons_of_mem _ h)
  have hown : s.vm.findClass RX1 = some m.cls := findClass_of_methodNamed B.named
  have hlocks := B.notSynchronized
  have hS : va_S (fun _ => False) s.heap s.heap [] := va_S.rf
  have k52 : ∀ (s13 : Int32 → Int32 → Int32 → Int32 → Option (Int32)) (hs13 : ∀ (x2 : Int32) (x3 : Int32) (x4 : Int32) (x5 : Int32) (ls : Array Slot), lv_has ls 6 [(0, .ref (h0 0)), (2, .int x2), (3, .int x3), (4, .int x4), (5, .int x5)] → s13 x2 x3 x4 x5 = some z → W p l e ({ frames := 2, cells := 0, slots := 0, locals := 45 } : Room) s m args below meth c s.heap [] 0 0 (MQ below (vp_Si (fun q => q = z)) args s 0 0 (fun _ => False)) (F0 m 13 ls [])), ∀ (x2 : Int32) (x3 : Int32) (x4 : Int32) (x5 : Int32) (ls : Array Slot), lv_has ls 6 [(0, .ref (h0 0)), (2, .int x2), (3, .int x3), (4, .int x4), (5, .int x5)] → (fX1_seaSeenBy_52 w0 s13) x2 x3 x4 x5 = some z → W p l e ({ frames := 2, cells := 0, slots := 0, locals := 45 } : Room) s m args below meth c s.heap [] 0 0 (MQ below (vp_Si (fun q => q = z)) args s 0 0 (fun _ => False)) (F0 m 52 ls []) := by
    intro s13 hs13
    intro x2 x3 x4 x5 ls hl hf
    unfold fX1_seaSeenBy_52 at hf
    refine lv_aload_n hx hb dX1_seaSeenBy_52 rfl (lv_at hl 0 rfl) ?_
    refine lv_iload hx hb dX1_seaSeenBy_53 (lv_at hl 3 rfl) ?_
    refine lv_iload_n hx hb dX1_seaSeenBy_55 rfl (lv_at hl 1 rfl) ?_
    obtain ⟨r10, hq9, hf⟩ := ob1_d hf
    refine zroV (q := (RX1, TX1, 3)) (As := [.int x4, .int x2]) (rest := []) (r := r10) ⟨hx, hb, hml, hown, hts⟩ (kX1_beside l dC dI cy h0 w0 x4 x2 r10 hq9) mw_523 mw_333 mw_334 mw_4 mw_335 hdX1_beside rfl rfl ⟨Nat.le_of_ble_eq_true rfl, Nat.le_of_ble_eq_true rfl⟩ hP hK hG hS 0 rfl rfl [0, 1] rfl rfl hl.1 rfl (Nat.le_of_ble_eq_true rfl) dX1_seaSeenBy_56 ⟨Nat.zero_le _, Nat.zero_le _⟩ ?_
    refine lv_istore (lv' := [(4, .int r10), (0, .ref (h0 0)), (2, .int x2), (3, .int x3), (5, .int x5)]) hx hb dX1_seaSeenBy_59 hl (by decide) rfl (fun ls hl => ?_)
    refine lv_zinc (lv' := [(5, .int (x5 + (1 : Int32))), (4, .int r10), (0, .ref (h0 0)), (2, .int x2), (3, .int x3)]) hx hb dX1_seaSeenBy_61 hl (k := 4) rfl (v := (1 : Int32)) (by decide) (by decide) rfl (fun ls hl => ?_)
    refine lv_goto (tgt := 13) hx hb dX1_seaSeenBy_64 (by decide) ?_
    exact hs13 x2 x3 r10 (x5 + (1 : Int32)) ls (lv_sub hl [2, 3, 4, 1, 0] rfl) hf
  have k13 : ∀ n : Nat, ∀ (x2 : Int32) (x3 : Int32) (x4 : Int32) (x5 : Int32) (ls : Array Slot), lv_has ls 6 [(0, .ref (h0 0)), (2, .int x2), (3, .int x3), (4, .int x4), (5, .int x5)] → (zl4 (fX1_seaSeenBy_13 w0) n) x2 x3 x4 x5 = some z → W p l e ({ frames := 2, cells := 0, slots := 0, locals := 45 } : Room) s m args below meth c s.heap [] 0 0 (MQ below (vp_Si (fun q => q = z)) args s 0 0 (fun _ => False)) (F0 m 13 ls []) := by
    intro n
    induction n with
    | zero =>
      intro x2 x3 x4 x5 ls hl hf
      exact z_no hf
    | succ n hs13 =>
      intro x2 x3 x4 x5 ls hl hf
      have hf : fX1_seaSeenBy_13 w0 (zl4 (fX1_seaSeenBy_13 w0) n) x2 x3 x4 x5 = some z := hf
      generalize zl4 (fX1_seaSeenBy_13 w0) n = s13 at hs13 hf
      unfold fX1_seaSeenBy_13 at hf
      refine lv_iload hx hb dX1_seaSeenBy_13 (lv_at hl 4 rfl) ?_
      refine lv_bipush (v := (8 : Int32)) hx hb dX1_seaSeenBy_15 (by decide) ?_
      refine lv_icmp_ge (tgt := 67) hx hb dX1_seaSeenBy_17 (by decide) (fun hc => ?_) (fun hc => ?_)
      · have hf := it_t hc hf
        refine lv_iload_n hx hb dX1_seaSeenBy_67 rfl (lv_at hl 2 rfl) ?_
        exact zretR hx hb hr hlocks hf dX1_seaSeenBy_68
      · have hf := it_f hc hf
        refine lv_iload hx hb dX1_seaSeenBy_20 (lv_at hl 3 rfl) ?_
        refine lv_iconst (v := (-1 : Int32)) hx hb dX1_seaSeenBy_22 (by decide) ?_
        refine lv_icmp_eq (tgt := 35) hx hb dX1_seaSeenBy_23 (by decide) (fun hc => ?_) (fun hc => ?_)
        · have hf := it_t hc hf
          refine lv_iload_n hx hb dX1_seaSeenBy_35 rfl (lv_at hl 2 rfl) ?_
          exact zretR hx hb hr hlocks hf dX1_seaSeenBy_36
        · have hf := it_f hc hf
          refine lv_aload_n hx hb dX1_seaSeenBy_26 rfl (lv_at hl 0 rfl) ?_
          refine lv_iload hx hb dX1_seaSeenBy_27 (lv_at hl 3 rfl) ?_
          obtain ⟨r4, hq3, hf⟩ := ob1_d hf
          refine zroV (q := (RX1, TX1, 3)) (As := [.int x4]) (rest := []) (r := r4) ⟨hx, hb, hml, hown, hts⟩ (kX1_groundAt l dC dI cy h0 w0 x4 r4 hq3) mw_477 mw_213 mw_214 mw_4 mw_215 hdX1_groundAt rfl rfl ⟨Nat.le_of_ble_eq_true rfl, Nat.le_of_ble_eq_true rfl⟩ hP hK hG hS 0 rfl rfl [0, 1] rfl rfl hl.1 rfl (Nat.le_of_ble_eq_true rfl) dX1_seaSeenBy_29 ⟨Nat.zero_le _, Nat.zero_le _⟩ ?_
          refine lv_if_ne (tgt := 37) hx hb dX1_seaSeenBy_32 (by decide) (fun hc => ?_) (fun hc => ?_)
          · have hf := it_f hc hf
            refine lv_aload_n hx hb dX1_seaSeenBy_37 rfl (lv_at hl 0 rfl) ?_
            refine lv_iload hx hb dX1_seaSeenBy_38 (lv_at hl 3 rfl) ?_
            obtain ⟨r6, hq5, hf⟩ := ob1_d hf
            refine zroV (q := (RX1, TX1, 3)) (As := [.int x4]) (rest := []) (r := r6) ⟨hx, hb, hml, hown, hts⟩ (kX1_groundAt l dC dI cy h0 w0 x4 r6 hq5) mw_477 mw_213 mw_214 mw_4 mw_215 hdX1_groundAt rfl rfl ⟨Nat.le_of_ble_eq_true rfl, Nat.le_of_ble_eq_true rfl⟩ hP hK hG hS 0 rfl rfl [0, 1] rfl rfl hl.1 rfl (Nat.le_of_ble_eq_true rfl) dX1_seaSeenBy_40 ⟨Nat.zero_le _, Nat.zero_le _⟩ ?_
            obtain ⟨r8, hq7, hf⟩ := ob1_d hf
            refine zroSN (As := [.int r6]) (rest := []) (r := r8) ⟨hx, hb, hml, hown, hts⟩ (kX7_isSea l dC dI cy r6 r8 hq7) (List.mem_of_getElem? (i := 17) rfl) mw_260 mw_1 mw_261 hdX7_isSea rfl rfl ⟨Nat.le_of_ble_eq_true rfl, Nat.le_of_ble_eq_true rfl⟩ hP hK hG hS [] rfl rfl hl.1 rfl (Nat.le_of_ble_eq_true rfl) dX1_seaSeenBy_43 ⟨Nat.zero_le _, Nat.zero_le _⟩ ?_
            refine lv_if_eq (tgt := 52) hx hb dX1_seaSeenBy_46 (by decide) (fun hc => ?_) (fun hc => ?_)
            · have hf := it_t hc hf
              exact k52 s13 hs13 x2 x3 x4 x5 ls (lv_sub hl [0, 1, 2, 3, 4] rfl) hf
            · have hf := it_f hc hf
              refine lv_zinc (lv' := [(3, .int (x3 + (1 : Int32))), (0, .ref (h0 0)), (2, .int x2), (4, .int x4), (5, .int x5)]) hx hb dX1_seaSeenBy_49 hl (k := 2) rfl (v := (1 : Int32)) (by decide) (by decide) rfl (fun ls hl => ?_)
              exact k52 s13 hs13 x2 (x3 + (1 : Int32)) x4 x5 ls (lv_sub hl [1, 2, 0, 3, 4] rfl) hf
          · have hf := it_t hc hf
            refine lv_iload_n hx hb dX1_seaSeenBy_35 rfl (lv_at hl 2 rfl) ?_
            exact zretR hx hb hr hlocks hf dX1_seaSeenBy_36
  obtain ⟨ls, hl, he⟩ := zent (m := m) (n := 6) (L := [(0, .ref (h0 0)), (1, .int x1), (2, .int x2)]) ha (Nat.le_of_ble_eq_true rfl) rfl
  refine W.eq he ?_
  unfold fX1_seaSeenBy at hf
  have kE : W p l e ({ frames := 2, cells := 0, slots := 0, locals := 45 } : Room) s m args below meth c s.heap [] 0 0 (MQ below (vp_Si (fun q => q = z)) args s 0 0 (fun _ => False)) (F0 m 0 ls []) := by
    refine lv_iconst (v := (0 : Int32)) hx hb dX1_seaSeenBy_0 (by decide) ?_
    refine lv_istore_n (lv' := [(3, .int (0 : Int32)), (0, .ref (h0 0)), (1, .int x1), (2, .int x2)]) hx hb dX1_seaSeenBy_1 rfl hl (by decide) rfl (fun ls hl => ?_)
    refine lv_aload_n hx hb dX1_seaSeenBy_2 rfl (lv_at hl 1 rfl) ?_
    refine lv_iload_n hx hb dX1_seaSeenBy_3 rfl (lv_at hl 2 rfl) ?_
    refine lv_iload_n hx hb dX1_seaSeenBy_4 rfl (lv_at hl 3 rfl) ?_
    obtain ⟨r2, hq1, hf⟩ := ob1_d hf
    refine zroV (q := (RX1, TX1, 3)) (As := [.int x1, .int x2]) (rest := []) (r := r2) ⟨hx, hb, hml, hown, hts⟩ (kX1_beside l dC dI cy h0 w0 x1 x2 r2 hq1) mw_523 mw_333 mw_334 mw_4 mw_335 hdX1_beside rfl rfl ⟨Nat.le_of_ble_eq_true rfl, Nat.le_of_ble_eq_true rfl⟩ hP hK hG hS 0 rfl rfl [0, 1] rfl rfl hl.1 rfl (Nat.le_of_ble_eq_true rfl) dX1_seaSeenBy_5 ⟨Nat.zero_le _, Nat.zero_le _⟩ ?_
    refine lv_istore (lv' := [(4, .int r2), (3, .int (0 : Int32)), (0, .ref (h0 0)), (1, .int x1), (2, .int x2)]) hx hb dX1_seaSeenBy_8 hl (by decide) rfl (fun ls hl => ?_)
    refine lv_iconst (v := (1 : Int32)) hx hb dX1_seaSeenBy_10 (by decide) ?_
    refine lv_istore (lv' := [(5, .int (1 : Int32)), (4, .int r2), (3, .int (0 : Int32)), (0, .ref (h0 0)), (1, .int x1), (2, .int x2)]) hx hb dX1_seaSeenBy_11 hl (by decide) rfl (fun ls hl => ?_)
    exact k13 zFU x2 (0 : Int32) r2 (1 : Int32) ls (lv_sub hl [3, 5, 2, 1, 0] rfl) hf
  exact kE
set_option maxHeartbeats 4000000 in
set_option maxRecDepth 100000 in
theorem kX1_seaSeenFrom (l : Launch) (dC : Nat → ClassId) (dI : Nat → Nat → Nat) (cy : ClassId) (h0 : Nat → Nat) (w0 : Nat → Nat → Int32) (x1 : Int32) (z : Int32) (hf : fX1_seaSeenFrom w0 x1 = some z) : Met l yX1_seaSeenFrom (wsM yX1_seaSeenFrom cX1_seaSeenFrom 4 (some .int)) ({ frames := 3, cells := 0, slots := 0, locals := 70 } : Room) (va_Pc [.ref (h0 0), .int x1] (pRO (dC, dI) vwCl [(cy, .int)] (zW_1 cy h0 w0))) (vp_Si (fun q => q = z)) 0 0 (fun _ => False) := by
  refine Met.ofW (cc := cX1_seaSeenFrom) (maxL := 4) (ret := (some .int)) (by decide) rfl ?_
  intro p e s m args below meth c s₁ B hml hv
  obtain ⟨ha, hP, hK, hG⟩ := hv
  have hx := B.exec
  have hb := B.bytes
  have hr := B.returns
  have hts : ∀ w ∈ wsA, w.before args s = true := fun w h => atoms_spec (ws := wsM yX1_seaSeenFrom cX1_seaSeenFrom 4 (some .int)) B.pre w (List.mem_cons_of_mem _ h)
  have hown : s.vm.findClass RX1 = some m.cls := findClass_of_methodNamed B.named
  have hlocks := B.notSynchronized
  have hS : va_S (fun _ => False) s.heap s.heap [] := va_S.rf
  have k4 : ∀ n : Nat, ∀ (x1 : Int32) (x2 : Int32) (x3 : Int32) (ls : Array Slot), lv_has ls 4 [(0, .ref (h0 0)), (1, .int x1), (2, .int x2), (3, .int x3)] → (zl3 (fX1_seaSeenFrom_4 w0) n) x1 x2 x3 = some z → W p l e ({ frames := 3, cells := 0, slots := 0, locals := 70 } : Room) s m args below meth c s.heap [] 0 0 (MQ below (vp_Si (fun q => q = z)) args s 0 0 (fun _ => False)) (F0 m 4 ls []) := by
    intro n
    induction n with
    | zero =>
      intro x1 x2 x3 ls hl hf
      exact z_no hf
    | succ n hs4 =>
      intro x1 x2 x3 ls hl hf
      have hf : fX1_seaSeenFrom_4 w0 (zl3 (fX1_seaSeenFrom_4 w0) n) x1 x2 x3 = some z := hf
      generalize zl3 (fX1_seaSeenFrom_4 w0) n = s4 at hs4 hf
      unfold fX1_seaSeenFrom_4 at hf
      refine lv_iload_n hx hb dX1_seaSeenFrom_4 rfl (lv_at hl 3 rfl) ?_
      refine lv_bipush (v := (8 : Int32)) hx hb dX1_seaSeenFrom_5 (by decide) ?_
      refine lv_icmp_ge (tgt := 25) hx hb dX1_seaSeenFrom_7 (by decide) (fun hc => ?_) (fun hc => ?_)
      · have hf := it_t hc hf
        refine lv_iload_n hx hb dX1_seaSeenFrom_25 rfl (lv_at hl 2 rfl) ?_
        exact zretR hx hb hr hlocks hf dX1_seaSeenFrom_26
      · have hf := it_f hc hf
        refine lv_iload_n hx hb dX1_seaSeenFrom_10 rfl (lv_at hl 2 rfl) ?_
        refine lv_aload_n hx hb dX1_seaSeenFrom_11 rfl (lv_at hl 0 rfl) ?_
        refine lv_iload_n hx hb dX1_seaSeenFrom_12 rfl (lv_at hl 1 rfl) ?_
        refine lv_iload_n hx hb dX1_seaSeenFrom_13 rfl (lv_at hl 3 rfl) ?_
        obtain ⟨r2, hq1, hf⟩ := ob1_d hf
        refine zroV (q := (RX1, TX1, 3)) (As := [.int x1, .int x3]) (rest := [.int x2]) (r := r2) ⟨hx, hb, hml, hown, hts⟩ (kX1_seaSeenBy l dC dI cy h0 w0 x1 x3 r2 hq1) mw_520 mw_521 mw_897 mw_4 mw_522 hdX1_seaSeenBy rfl rfl ⟨Nat.le_of_ble_eq_true rfl, Nat.le_of_ble_eq_true rfl⟩ hP hK hG hS 0 rfl rfl [0, 1] rfl rfl hl.1 rfl (Nat.le_of_ble_eq_true rfl) dX1_seaSeenFrom_14 ⟨Nat.zero_le _, Nat.zero_le _⟩ ?_
        refine lv_iadd hx hb dX1_seaSeenFrom_17 ?_
        refine lv_istore_n (lv' := [(2, .int (x2 + r2)), (0, .ref (h0 0)), (1, .int x1), (3, .int x3)]) hx hb dX1_seaSeenFrom_18 rfl hl (by decide) rfl (fun ls hl => ?_)
        refine lv_zinc (lv' := [(3, .int (x3 + (1 : Int32))), (2, .int (x2 + r2)), (0, .ref (h0 0)), (1, .int x1)]) hx hb dX1_seaSeenFrom_19 hl (k := 3) rfl (v := (1 : Int32)) (by decide) (by decide) rfl (fun ls hl => ?_)
        refine lv_goto (tgt := 4) hx hb dX1_seaSeenFrom_22 (by decide) ?_
        exact hs4 x1 (x2 + r2) (x3 + (1 : Int32)) ls (lv_sub hl [2, 3, 1, 0] rfl) hf
  obtain ⟨ls, hl, he⟩ := zent (m := m) (n := 4) (L := [(0, .ref (h0 0)), (1, .int x1)]) ha (Nat.le_of_ble_eq_true rfl) rfl
  refine W.eq he ?_
  unfold fX1_seaSeenFrom at hf
  have kE : W p l e ({ frames := 3, cells := 0, slots := 0, locals := 70 } : Room) s m args below meth c s.heap [] 0 0 (MQ below (vp_Si (fun q => q = z)) args s 0 0 (fun _ => False)) (F0 m 0 ls []) := by
    refine lv_iconst (v := (0 : Int32)) hx hb dX1_seaSeenFrom_0 (by decide) ?_
    refine lv_istore_n (lv' := [(2, .int (0 : Int32)), (0, .ref (h0 0)), (1, .int x1)]) hx hb dX1_seaSeenFrom_1 rfl hl (by decide) rfl (fun ls hl => ?_)
    refine lv_iconst (v := (0 : Int32)) hx hb dX1_seaSeenFrom_2 (by decide) ?_
    refine lv_istore_n (lv' := [(3, .int (0 : Int32)), (2, .int (0 : Int32)), (0, .ref (h0 0)), (1, .int x1)]) hx hb dX1_seaSeenFrom_3 rfl hl (by decide) rfl (fun ls hl => ?_)
    exact k4 zFU x1 (0 : Int32) (0 : Int32) ls (lv_sub hl [2, 3, 1, 0] rfl) hf
  exact kE
set_option maxHeartbeats 4000000 in
set_option maxRecDepth 100000 in
theorem kX7_seedAfter (l : Launch) (dC : Nat → ClassId) (dI : Nat → Nat → Nat) (cy : ClassId) (x0 : Int32) (z : Int32) (hf : fX7_seedAfter x0 = some z) : Met l yX7_seedAfter (wsM yX7_seedAfter cX7_seedAfter 1 (some .int)) ({ frames := 0, cells := 0, slots := 0, locals := 0 } : Room) (va_Pc [.int x0] (pRO (dC, dI) vwCl [(cy, .int)] ([] : va_W))) (vp_Si (fun q => q = z)) 0 0 (fun _ => False) := by
  refine Met.ofW (cc := cX7_seedAfter) (maxL := 1) (ret := (some .int)) (by decide) rfl ?_
  intro p e s m args below meth c s₁ B hml hv
  obtain ⟨ha, hP, hK, hG⟩ := hv
  have hx := B.exec
  have hb := B.bytes
  have hr := B.returns
  have hts : ∀ w ∈ wsA, w.before args s = true := fun w h => atoms_spec (ws := wsM yX7_seedAfter cX7_seedAfter 1 (some .int)) B.pre w (List.mem_cons_of_mem _ h)
  have hown : s.vm.findClass RX7 = some m.cls := findClass_of_methodNamed B.named
  have hlocks := B.notSynchronized
  have hS : va_S (fun _ => False) s.heap s.heap [] := va_S.rf
  obtain ⟨ls, hl, he⟩ := zent (m := m) (n := 1) (L := [(0, .int x0)]) ha (Nat.le_of_ble_eq_true rfl) rfl
  refine W.eq he ?_
  unfold fX7_seedAfter at hf
  have kE : W p l e ({ frames := 0, cells := 0, slots := 0, locals := 0 } : Room) s m args below meth c s.heap [] 0 0 (MQ below (vp_Si (fun q => q = z)) args s 0 0 (fun _ => False)) (F0 m 0 ls []) := by
    refine lv_iload_n hx hb dX7_seedAfter_0 rfl (lv_at hl 0 rfl) ?_
    refine lv_ldcw (v := (1664525 : Int32)) hx hb hown (hts _ mw_531) dX7_seedAfter_1 ?_
    refine lv_imul hx hb dX7_seedAfter_4 ?_
    refine lv_ldcw (v := (1013904223 : Int32)) hx hb hown (hts _ mw_532) dX7_seedAfter_5 ?_
    refine lv_iadd hx hb dX7_seedAfter_8 ?_
    exact zretR hx hb hr hlocks hf dX7_seedAfter_9
  exact kE
set_option maxHeartbeats 4000000 in
set_option maxRecDepth 100000 in
theorem kX7_drawn (l : Launch) (dC : Nat → ClassId) (dI : Nat → Nat → Nat) (cy : ClassId) (x0 : Int32) (x1 : Int32) (z : Int32) (hf : fX7_drawn x0 x1 = some z) : Met l yX7_drawn (wsM yX7_drawn cX7_drawn 2 (some .int)) ({ frames := 0, cells := 0, slots := 0, locals := 0 } : Room) (va_Pc [.int x0, .int x1] (pRO (dC, dI) vwCl [(cy, .int)] ([] : va_W))) (vp_Si (fun q => q = z)) 0 0 (fun _ => False) := by
  refine Met.ofW (cc := cX7_drawn) (maxL := 2) (ret := (some .int)) (by decide) rfl ?_
  intro p e s m args below meth c s₁ B hml hv
  obtain ⟨ha, hP, hK, hG⟩ := hv
  have hx := B.exec
  have hb := B.bytes
  have hr := B.returns
  have hts : ∀ w ∈ wsA, w.before args s = true := fun w h => atoms_spec (ws := wsM yX7_drawn cX7_drawn 2 (some .int)) B.pre w (List.mem_cons_of_mem _ h)
  have hown : s.vm.findClass RX7 = some m.cls := findClass_of_methodNamed B.named
  have hlocks := B.notSynchronized
  have hS : va_S (fun _ => False) s.heap s.heap [] := va_S.rf
  obtain ⟨ls, hl, he⟩ := zent (m := m) (n := 2) (L := [(0, .int x0), (1, .int x1)]) ha (Nat.le_of_ble_eq_true rfl) rfl
  refine W.eq he ?_
  unfold fX7_drawn at hf
  have kE : W p l e ({ frames := 0, cells := 0, slots := 0, locals := 0 } : Room) s m args below meth c s.heap [] 0 0 (MQ below (vp_Si (fun q => q = z)) args s 0 0 (fun _ => False)) (F0 m 0 ls []) := by
    refine lv_iload_n hx hb dX7_drawn_0 rfl (lv_at hl 1 rfl) ?_
    refine lv_if_le (tgt := 18) hx hb dX7_drawn_1 (by decide) (fun hc => ?_) (fun hc => ?_)
    · have hf := it_t hc hf
      refine lv_iconst (v := (0 : Int32)) hx hb dX7_drawn_18 (by decide) ?_
      exact zretR hx hb hr hlocks hf dX7_drawn_19
    · have hf := it_f hc hf
      refine lv_iload_n hx hb dX7_drawn_4 rfl (lv_at hl 0 rfl) ?_
      refine lv_ldcw (v := (2147483647 : Int32)) hx hb hown (hts _ mw_536) dX7_drawn_5 ?_
      refine lv_iand hx hb dX7_drawn_8 ?_
      refine lv_sipush (v := (256 : Int32)) hx hb dX7_drawn_9 (by decide) ?_
      refine lv_idiv hx hb dX7_drawn_12 (by decide) ?_
      refine lv_iload_n hx hb dX7_drawn_13 rfl (lv_at hl 1 rfl) ?_
      obtain ⟨hne1, hf⟩ := dv_d hf
      refine lv_zrem hx hb dX7_drawn_14 hne1 ?_
      refine lv_goto (tgt := 19) hx hb dX7_drawn_15 (by decide) ?_
      exact zretR hx hb hr hlocks hf dX7_drawn_19
  exact kE
set_option maxHeartbeats 4000000 in
set_option maxRecDepth 100000 in
theorem kX4_isFull (l : Launch) (dC : Nat → ClassId) (dI : Nat → Nat → Nat) (cy : ClassId) (h0 : Nat → Nat) (w0 : Nat → Nat → Int32) (z : Int32) (hf : fX4_isFull w0 = some z) : Met l yX4_isFull (wsM yX4_isFull cX4_isFull 1 (some .boolean)) ({ frames := 0, cells := 0, slots := 0, locals := 0 } : Room) (va_Pc [.ref (h0 0)] (pRO (dC, dI) vwCl [(cy, .int)] (zW_4 cy h0 w0))) (vp_Si (fun q => q = z)) 0 0 (fun _ => False) := by
  refine Met.ofW (cc := cX4_isFull) (maxL := 1) (ret := (some .boolean)) (by decide) rfl ?_
  intro p e s m args below meth c s₁ B hml hv
  obtain ⟨ha, hP, hK, hG⟩ := hv
  have hx := B.exec
  have hb := B.bytes
  have hr := B.returns
  have hts : ∀ w ∈ wsA, w.before args s = true := fun w h => atoms_spec (ws := wsM yX4_isFull cX4_isFull 1 (some .boolean)) B.pre w (List.mem_cons_of_mem _ h)
  have hown : s.vm.findClass RX4 = some m.cls := findClass_of_methodNamed B.named
  have hlocks := B.notSynchronized
  have hS : va_S (fun _ => False) s.heap s.heap [] := va_S.rf
  obtain ⟨ls, hl, he⟩ := zent (m := m) (n := 1) (L := [(0, .ref (h0 0))]) ha (Nat.le_of_ble_eq_true rfl) rfl
  refine W.eq he ?_
  unfold fX4_isFull at hf
  have kE : W p l e ({ frames := 0, cells := 0, slots := 0, locals := 0 } : Room) s m args below meth c s.heap [] 0 0 (MQ below (vp_Si (fun q => q = z)) args s 0 0 (fun _ => False)) (F0 m 0 ls []) := by
    refine lv_aload_n hx hb dX4_isFull_0 rfl (lv_at hl 0 rfl) ?_
    refine zget hx hb hts hown hK hP hin_4 0 rfl rfl 1 (by decide) mw_138 (v := .int (w0 0 1)) rfl dX4_isFull_1 ?_
    refine lv_bipush (v := (12 : Int32)) hx hb dX4_isFull_4 (by decide) ?_
    refine lv_icmp_lt (tgt := 13) hx hb dX4_isFull_6 (by decide) (fun hc => ?_) (fun hc => ?_)
    · have hf := it_t hc hf
      refine lv_iconst (v := (0 : Int32)) hx hb dX4_isFull_13 (by decide) ?_
      exact zretRZ hx hb hr hlocks rfl hf dX4_isFull_14
    · have hf := it_f hc hf
      refine lv_iconst (v := (1 : Int32)) hx hb dX4_isFull_9 (by decide) ?_
      refine lv_goto (tgt := 14) hx hb dX4_isFull_10 (by decide) ?_
      exact zretRZ hx hb hr hlocks rfl hf dX4_isFull_14
  exact kE
set_option maxHeartbeats 4000000 in
set_option maxRecDepth 100000 in
theorem kX4_tell (l : Launch) (dC : Nat → ClassId) (dI : Nat → Nat → Nat) (cy : ClassId) (h0 : Nat → Nat) (w0 : Nat → Nat → Int32) (x1 : Int32) (sz : Nat) (z : Int32 × (Nat → Int32) × (Nat → Int32)) (hf : fX4_tell w0 x1 = some z) : Met l yX4_tell (wsM yX4_tell cX4_tell 2 (some .int)) ({ frames := 0, cells := 0, slots := 0, locals := 0 } : Room) (va_Pc [.ref (h0 0), .int x1] (pWR (dC, dI) vwCl [(cy, .int)] (zW_4 cy h0 w0) sz)) (va_Qi (fun (q : Int32) (v : (Nat → Int32) × (Nat → Int32)) => (q, v) = z) (fun v => aWR (dC, dI) vwCl [(cy, .int)] (va_A (zW_4 cy h0 w0) sz) (zW_4 cy h0 (ups (ups w0 0 v.1) 1 v.2))) (va_A (zW_4 cy h0 w0) sz)) 0 0 (va_A (zW_4 cy h0 w0) sz) := by
  refine Met.ofW (cc := cX4_tell) (maxL := 2) (ret := (some .int)) (by decide) rfl ?_
  intro p e s m args below meth c s₁ B hml hv
  obtain ⟨ha, hsz, hP, hK, hD0, hG⟩ := hv
  have hx := B.exec
  have hb := B.bytes
  have hr := B.returns
  have hts : ∀ w ∈ wsA, w.before args s = true := fun w h => atoms_spec (ws := wsM yX4_tell cX4_tell 2 (some .int)) B.pre w (List.mem_cons_of_mem _ h)
  have hown : s.vm.findClass RX4 = some m.cls := findClass_of_methodNamed B.named
  have hlocks := B.notSynchronized
  subst hsz
  have hD := hD0.self (sz := s.heap.size)
  generalize hAe : va_A (zW_4 cy h0 w0) s.heap.size = A at hD hG ⊢
  have hA : ∀ q : Nat, s.heap.size ≤ q → A q := fun q h => by rw [← hAe]; exact Or.inr h
  have hS : va_S A s.heap s.heap [] := va_S.rf
  have hP : va_P (dC, dI) vwCl (zW_4 cy h0 (ups (ups w0 0 (w0 0)) 1 (w0 1))) s.heap := hP
  have hD : va_D A (zW_4 cy h0 (ups (ups w0 0 (w0 0)) 1 (w0 1))) := hD
  obtain ⟨ls, hl, he⟩ := zent (m := m) (n := 2) (L := [(0, .ref (h0 0)), (1, .int x1)]) ha (Nat.le_of_ble_eq_true rfl) rfl
  refine W.eq he ?_
  unfold fX4_tell at hf
  have kE : ∀ (H : Heap) (locs : List Loc), va_P (dC, dI) vwCl (zW_4 cy h0 (ups (ups w0 0 (w0 0)) 1 (w0 1))) H → va_D A (zW_4 cy h0 (ups (ups w0 0 (w0 0)) 1 (w0 1))) → va_S A s.heap H locs → W p l e ({ frames := 0, cells := 0, slots := 0, locals := 0 } : Room) s m args below meth c H locs 0 0 (MQ below (va_Qi (fun (q : Int32) (v : (Nat → Int32) × (Nat → Int32)) => (q, v) = z) (fun v => aWR (dC, dI) vwCl [(cy, .int)] A (zW_4 cy h0 (ups (ups w0 0 v.1) 1 v.2))) A) args s 0 0 A) (F0 m 0 ls []) := by
    intro H locs hP hD hS
    refine lv_aload_n hx hb dX4_tell_0 rfl (lv_at hl 0 rfl) ?_
    refine zget hx hb hts hown hK hP hin_4 0 rfl rfl 1 (by decide) mw_138 (v := .int (w0 0 1)) rfl dX4_tell_1 ?_
    refine lv_if_lt (tgt := 39) hx hb dX4_tell_4 (by decide) (fun hc => ?_) (fun hc => ?_)
    · have hf := it_t hc hf
      refine lv_aload_n hx hb dX4_tell_39 rfl (lv_at hl 0 rfl) ?_
      refine zget hx hb hts hown hK hP hin_4 0 rfl rfl 1 (by decide) mw_138 (v := .int (w0 0 1)) rfl dX4_tell_40 ?_
      exact zretI hx hb hr hlocks hP hK hD hS hf rfl dX4_tell_43
    · have hf := it_f hc hf
      refine lv_aload_n hx hb dX4_tell_7 rfl (lv_at hl 0 rfl) ?_
      refine zget hx hb hts hown hK hP hin_4 0 rfl rfl 1 (by decide) mw_138 (v := .int (w0 0 1)) rfl dX4_tell_8 ?_
      refine lv_aload_n hx hb dX4_tell_11 rfl (lv_at hl 0 rfl) ?_
      refine zget hx hb hts hown hK hP hin_4 0 rfl rfl 0 (by decide) mw_137 (v := .ref (h0 1)) rfl dX4_tell_12 ?_
      refine va_alen hx hb hK hP 1 0 rfl rfl (v := (12 : Int32)) (show Int32.ofNat 12 = (12 : Int32) from by decide) dX4_tell_15 ?_
      refine lv_icmp_ge (tgt := 39) hx hb dX4_tell_16 (by decide) (fun hc => ?_) (fun hc => ?_)
      · have hf := it_t hc hf
        refine lv_aload_n hx hb dX4_tell_39 rfl (lv_at hl 0 rfl) ?_
        refine zget hx hb hts hown hK hP hin_4 0 rfl rfl 1 (by decide) mw_138 (v := .int (w0 0 1)) rfl dX4_tell_40 ?_
        exact zretI hx hb hr hlocks hP hK hD hS hf rfl dX4_tell_43
      · have hf := it_f hc hf
        refine lv_aload_n hx hb dX4_tell_19 rfl (lv_at hl 0 rfl) ?_
        refine zget hx hb hts hown hK hP hin_4 0 rfl rfl 0 (by decide) mw_137 (v := .ref (h0 1)) rfl dX4_tell_20 ?_
        refine lv_aload_n hx hb dX4_tell_23 rfl (lv_at hl 0 rfl) ?_
        refine zget hx hb hts hown hK hP hin_4 0 rfl rfl 1 (by decide) mw_138 (v := .int (w0 0 1)) rfl dX4_tell_24 ?_
        refine lv_iload_n hx hb dX4_tell_27 rfl (lv_at hl 1 rfl) ?_
        obtain ⟨hin1, hf⟩ := gd_d hf
        obtain ⟨g2, hg2, hf⟩ := nm_d hf
        refine zast hx hb hK hP hD hS 1 (wn := (zW_4 cy h0 (ups (ups w0 0 (w0 0)) 1 g2))) hg2 rfl rfl hin1 rfl dX4_tell_28 (fun H locs hP hD hS => ?_)
        refine lv_aload_n hx hb dX4_tell_29 rfl (lv_at hl 0 rfl) ?_
        refine lv_dup hx hb dX4_tell_30 rfl ?_
        refine zget hx hb hts hown hK hP hin_4 0 rfl rfl 1 (by decide) mw_138 (v := .int (w0 0 1)) rfl dX4_tell_31 ?_
        refine lv_iconst (v := (1 : Int32)) hx hb dX4_tell_34 (by decide) ?_
        refine lv_iadd hx hb dX4_tell_35 ?_
        refine zput hx hb hts hown hK hP hD hS hin_4 tyX4 tyX4_ok nmX4 0 rfl rfl 1 (by decide) mw_138 rfl (v := .int ((w0 0 1) + (1 : Int32))) rfl rfl (Nat.le_of_ble_eq_true rfl) (wn := (zW_4 cy h0 (ups (ups w0 0 (ups (w0 0) 1 ((w0 0 1) + (1 : Int32)))) 1 g2))) rfl dX4_tell_36 (fun H locs hP hD hS => ?_)
        refine lv_aload_n hx hb dX4_tell_39 rfl (lv_at hl 0 rfl) ?_
        refine zget hx hb hts hown hK hP hin_4 0 rfl rfl 1 (by decide) mw_138 (v := .int ((w0 0 1) + (1 : Int32))) rfl dX4_tell_40 ?_
        exact zretI hx hb hr hlocks hP hK hD hS hf rfl dX4_tell_43
  exact kE s.heap [] hP hD hS
set_option maxHeartbeats 4000000 in
set_option maxRecDepth 100000 in
theorem kX7_copyRow (l : Launch) (dC : Nat → ClassId) (dI : Nat → Nat → Nat) (cy : ClassId) (h0 : Nat) (n0 : Nat) (w0 : Nat → Int32) (h1 : Nat) (n1 : Nat) (w1 : Nat → Int32) (sz : Nat) (z : (Nat → Int32)) (hf : fX7_copyRow n0 w0 n1 w1 = some z) : Met l yX7_copyRow (wsM yX7_copyRow cX7_copyRow 3 none) ({ frames := 0, cells := 0, slots := 0, locals := 0 } : Room) (va_Pc [.ref h0, .ref h1] (pWR (dC, dI) vwCl [(cy, .int)] (zW_AA cy h0 n0 w0 h1 n1 w1) sz)) (va_Qv (fun (v : (Nat → Int32)) => v = z) (fun v => aWR (dC, dI) vwCl [(cy, .int)] (va_A (zW_AA cy h0 n0 w0 h1 n1 w1) sz) (zW_AA cy h0 n0 w0 h1 n1 v)) (va_A (zW_AA cy h0 n0 w0 h1 n1 w1) sz)) 0 0 (va_A (zW_AA cy h0 n0 w0 h1 n1 w1) sz) := by
  refine Met.ofW (cc := cX7_copyRow) (maxL := 3) (ret := none) (by decide) rfl ?_
  intro p e s m args below meth c s₁ B hml hv
  obtain ⟨ha, hsz, hP, hK, hD0, hG⟩ := hv
  have hx := B.exec
  have hb := B.bytes
  have hr := B.returns
  have hts : ∀ w ∈ wsA, w.before args s = true := fun w h => atoms_spec (ws := wsM yX7_copyRow cX7_copyRow 3 none) B.pre w (List.mem_cons_of_mem _ h)
  have hown : s.vm.findClass RX7 = some m.cls := findClass_of_methodNamed B.named
  have hlocks := B.notSynchronized
  subst hsz
  have hD := hD0.self (sz := s.heap.size)
  generalize hAe : va_A (zW_AA cy h0 n0 w0 h1 n1 w1) s.heap.size = A at hD hG ⊢
  have hA : ∀ q : Nat, s.heap.size ≤ q → A q := fun q h => by rw [← hAe]; exact Or.inr h
  have hS : va_S A s.heap s.heap [] := va_S.rf
  have hP : va_P (dC, dI) vwCl (zW_AA cy h0 n0 w0 h1 n1 w1) s.heap := hP
  have hD : va_D A (zW_AA cy h0 n0 w0 h1 n1 w1) := hD
  have k2 : ∀ n : Nat, ∀ (c1_0 : (Nat → Int32)) (x2 : Int32) (H : Heap) (locs : List Loc) (ls : Array Slot), va_P (dC, dI) vwCl (zW_AA cy h0 n0 w0 h1 n1 c1_0) H → va_D A (zW_AA cy h0 n0 w0 h1 n1 c1_0) → va_S A s.heap H locs → lv_has ls 3 [(0, .ref h0), (1, .ref h1), (2, .int x2)] → (zl2 (fX7_copyRow_2 n0 w0 n1) n) c1_0 x2 = some z → W p l e ({ frames := 0, cells := 0, slots := 0, locals := 0 } : Room) s m args below meth c H locs 0 0 (MQ below (va_Qv (fun (v : (Nat → Int32)) => v = z) (fun v => aWR (dC, dI) vwCl [(cy, .int)] A (zW_AA cy h0 n0 w0 h1 n1 v)) A) args s 0 0 A) (F0 m 2 ls []) := by
    intro n
    induction n with
    | zero =>
      intro c1_0 x2 H locs ls hP hD hS hl hf
      exact z_no hf
    | succ n hs2 =>
      intro c1_0 x2 H locs ls hP hD hS hl hf
      have hf : fX7_copyRow_2 n0 w0 n1 (zl2 (fX7_copyRow_2 n0 w0 n1) n) c1_0 x2 = some z := hf
      generalize zl2 (fX7_copyRow_2 n0 w0 n1) n = s2 at hs2 hf
      unfold fX7_copyRow_2 at hf
      refine lv_iload_n hx hb dX7_copyRow_2 rfl (lv_at hl 2 rfl) ?_
      refine lv_aload_n hx hb dX7_copyRow_3 rfl (lv_at hl 0 rfl) ?_
      refine va_alen hx hb hK hP 0 0 rfl rfl (v := (nI n0)) rfl dX7_copyRow_4 ?_
      refine lv_icmp_ge (tgt := 26) hx hb dX7_copyRow_5 (by decide) (fun hc => ?_) (fun hc => ?_)
      · have hf := it_t hc hf
        exact zretV hx hb hr hlocks hP hK hD hS hf rfl dX7_copyRow_26
      · have hf := it_f hc hf
        refine lv_iload_n hx hb dX7_copyRow_8 rfl (lv_at hl 2 rfl) ?_
        refine lv_aload_n hx hb dX7_copyRow_9 rfl (lv_at hl 1 rfl) ?_
        refine va_alen hx hb hK hP 1 0 rfl rfl (v := (nI n1)) rfl dX7_copyRow_10 ?_
        refine lv_icmp_ge (tgt := 26) hx hb dX7_copyRow_11 (by decide) (fun hc => ?_) (fun hc => ?_)
        · have hf := it_t hc hf
          exact zretV hx hb hr hlocks hP hK hD hS hf rfl dX7_copyRow_26
        · have hf := it_f hc hf
          refine lv_aload_n hx hb dX7_copyRow_14 rfl (lv_at hl 1 rfl) ?_
          refine lv_iload_n hx hb dX7_copyRow_15 rfl (lv_at hl 2 rfl) ?_
          refine lv_aload_n hx hb dX7_copyRow_16 rfl (lv_at hl 0 rfl) ?_
          refine lv_iload_n hx hb dX7_copyRow_17 rfl (lv_at hl 2 rfl) ?_
          obtain ⟨hin1, hf⟩ := gd_d hf
          refine va_iald hx hb hK hP 0 0 rfl rfl hin1 dX7_copyRow_18 ?_
          obtain ⟨hin2, hf⟩ := gd_d hf
          obtain ⟨g3, hg3, hf⟩ := nm_d hf
          refine zast hx hb hK hP hD hS 1 (wn := (zW_AA cy h0 n0 w0 h1 n1 g3)) hg3 rfl rfl hin2 rfl dX7_copyRow_19 (fun H locs hP hD hS => ?_)
          refine lv_zinc (lv' := [(2, .int (x2 + (1 : Int32))), (0, .ref h0), (1, .ref h1)]) hx hb dX7_copyRow_20 hl (k := 2) rfl (v := (1 : Int32)) (by decide) (by decide) rfl (fun ls hl => ?_)
          refine lv_goto (tgt := 2) hx hb dX7_copyRow_23 (by decide) ?_
          exact hs2 g3 (x2 + (1 : Int32)) H locs ls hP hD hS (lv_sub hl [1, 2, 0] rfl) hf
  obtain ⟨ls, hl, he⟩ := zent (m := m) (n := 3) (L := [(0, .ref h0), (1, .ref h1)]) ha (Nat.le_of_ble_eq_true rfl) rfl
  refine W.eq he ?_
  unfold fX7_copyRow at hf
  have kE : ∀ (H : Heap) (locs : List Loc), va_P (dC, dI) vwCl (zW_AA cy h0 n0 w0 h1 n1 w1) H → va_D A (zW_AA cy h0 n0 w0 h1 n1 w1) → va_S A s.heap H locs → W p l e ({ frames := 0, cells := 0, slots := 0, locals := 0 } : Room) s m args below meth c H locs 0 0 (MQ below (va_Qv (fun (v : (Nat → Int32)) => v = z) (fun v => aWR (dC, dI) vwCl [(cy, .int)] A (zW_AA cy h0 n0 w0 h1 n1 v)) A) args s 0 0 A) (F0 m 0 ls []) := by
    intro H locs hP hD hS
    refine lv_iconst (v := (0 : Int32)) hx hb dX7_copyRow_0 (by decide) ?_
    refine lv_istore_n (lv' := [(2, .int (0 : Int32)), (0, .ref h0), (1, .ref h1)]) hx hb dX7_copyRow_1 rfl hl (by decide) rfl (fun ls hl => ?_)
    exact k2 zFU w1 (0 : Int32) H locs ls hP hD hS (lv_sub hl [1, 2, 0] rfl) hf
  exact kE s.heap [] hP hD hS
set_option maxHeartbeats 4000000 in
set_option maxRecDepth 100000 in
theorem kX1_copyFrom (l : Launch) (dC : Nat → ClassId) (dI : Nat → Nat → Nat) (cy : ClassId) (h0 : Nat → Nat) (w0 : Nat → Nat → Int32) (h1 : Nat → Nat) (w1 : Nat → Nat → Int32) (sz : Nat) (z : (Nat → Int32) × (Nat → Int32)) (hf : fX1_copyFrom w0 w1 = some z) : Met l yX1_copyFrom (wsM yX1_copyFrom cX1_copyFrom 2 none) ({ frames := 1, cells := 0, slots := 0, locals := 22 } : Room) (va_Pc [.ref (h0 0), .ref (h1 0)] (pWR (dC, dI) vwCl [(cy, .int)] (zW_11 cy h0 w0 h1 w1) sz)) (va_Qv (fun (v : (Nat → Int32) × (Nat → Int32)) => v = z) (fun v => aWR (dC, dI) vwCl [(cy, .int)] (va_A (zW_11 cy h0 w0 h1 w1) sz) (zW_11 cy h0 (ups (ups w0 0 v.1) 1 v.2) h1 w1)) (va_A (zW_11 cy h0 w0 h1 w1) sz)) 0 0 (va_A (zW_11 cy h0 w0 h1 w1) sz) := by
  refine Met.ofW (cc := cX1_copyFrom) (maxL := 2) (ret := none) (by decide) rfl ?_
  intro p e s m args below meth c s₁ B hml hv
  obtain ⟨ha, hsz, hP, hK, hD0, hG⟩ := hv
  have hx := B.exec
  have hb := B.bytes
  have hr := B.returns
  have hts : ∀ w ∈ wsA, w.before args s = true := fun w h => atoms_spec (ws := wsM yX1_copyFrom cX1_copyFrom 2 none) B.pre w (List.mem_cons_of_mem _ h)
  have hown : s.vm.findClass RX1 = some m.cls := findClass_of_methodNamed B.named
  have hlocks := B.notSynchronized
  subst hsz
  have hD := hD0.self (sz := s.heap.size)
  generalize hAe : va_A (zW_11 cy h0 w0 h1 w1) s.heap.size = A at hD hG ⊢
  have hA : ∀ q : Nat, s.heap.size ≤ q → A q := fun q h => by rw [← hAe]; exact Or.inr h
  have hS : va_S A s.heap s.heap [] := va_S.rf
  have hP : va_P (dC, dI) vwCl (zW_11 cy h0 (ups (ups w0 0 (w0 0)) 1 (w0 1)) h1 w1) s.heap := hP
  have hD : va_D A (zW_11 cy h0 (ups (ups w0 0 (w0 0)) 1 (w0 1)) h1 w1) := hD
  obtain ⟨ls, hl, he⟩ := zent (m := m) (n := 2) (L := [(0, .ref (h0 0)), (1, .ref (h1 0))]) ha (Nat.le_of_ble_eq_true rfl) rfl
  refine W.eq he ?_
  unfold fX1_copyFrom at hf
  have kE : ∀ (H : Heap) (locs : List Loc), va_P (dC, dI) vwCl (zW_11 cy h0 (ups (ups w0 0 (w0 0)) 1 (w0 1)) h1 w1) H → va_D A (zW_11 cy h0 (ups (ups w0 0 (w0 0)) 1 (w0 1)) h1 w1) → va_S A s.heap H locs → W p l e ({ frames := 1, cells := 0, slots := 0, locals := 22 } : Room) s m args below meth c H locs 0 0 (MQ below (va_Qv (fun (v : (Nat → Int32) × (Nat → Int32)) => v = z) (fun v => aWR (dC, dI) vwCl [(cy, .int)] A (zW_11 cy h0 (ups (ups w0 0 v.1) 1 v.2) h1 w1)) A) args s 0 0 A) (F0 m 0 ls []) := by
    intro H locs hP hD hS
    refine lv_aload_n hx hb dX1_copyFrom_0 rfl (lv_at hl 1 rfl) ?_
    refine zget hx hb hts hown hK hP hin_1 2 rfl rfl 0 (by decide) mw_39 (v := .ref (h1 1)) rfl dX1_copyFrom_1 ?_
    refine lv_aload_n hx hb dX1_copyFrom_4 rfl (lv_at hl 0 rfl) ?_
    refine zget hx hb hts hown hK hP hin_1 0 rfl rfl 0 (by decide) mw_39 (v := .ref (h0 1)) rfl dX1_copyFrom_5 ?_
    obtain ⟨u2, hq1, hf⟩ := ob1_d hf
    refine zwvSN (As := [.ref (h1 1), .ref (h0 1)]) (rest := []) (u := u2) (wn := (zW_11 cy h0 (ups (ups w0 0 (w0 0)) 1 u2) h1 w1)) ⟨hx, hb, hml, hown, hts⟩ (kX7_copyRow l dC dI cy (h1 1) 64 (w1 1) (h0 1) 64 (w0 1) H.size u2 hq1) (List.mem_of_getElem? (i := 19) rfl) mw_570 mw_1 mw_571 hdX7_copyRow rfl rfl ⟨Nat.le_of_ble_eq_true rfl, Nat.le_of_ble_eq_true rfl⟩ hP hK hG hS hD hA [3, 1] [0, 2] [0, 3, 1, 2] rfl rfl rfl rfl (by decide) rfl rfl rfl hl.1 rfl (Nat.le_of_ble_eq_true rfl) dX1_copyFrom_8 ⟨Nat.zero_le _, Nat.zero_le _⟩ (fun H locs hP hD hS => ?_)
    refine lv_aload_n hx hb dX1_copyFrom_11 rfl (lv_at hl 0 rfl) ?_
    refine lv_aload_n hx hb dX1_copyFrom_12 rfl (lv_at hl 1 rfl) ?_
    refine zget hx hb hts hown hK hP hin_1 2 rfl rfl 1 (by decide) mw_40 (v := .int (w1 0 1)) rfl dX1_copyFrom_13 ?_
    refine zput hx hb hts hown hK hP hD hS hin_1 tyX1 tyX1_ok nmX1 0 rfl rfl 1 (by decide) mw_40 rfl (v := .int (w1 0 1)) rfl rfl (Nat.le_of_ble_eq_true rfl) (wn := (zW_11 cy h0 (ups (ups w0 0 (ups (w0 0) 1 (w1 0 1))) 1 u2) h1 w1)) rfl dX1_copyFrom_16 (fun H locs hP hD hS => ?_)
    refine lv_aload_n hx hb dX1_copyFrom_19 rfl (lv_at hl 0 rfl) ?_
    refine lv_aload_n hx hb dX1_copyFrom_20 rfl (lv_at hl 1 rfl) ?_
    refine zget hx hb hts hown hK hP hin_1 2 rfl rfl 2 (by decide) mw_41 (v := .int (w1 0 2)) rfl dX1_copyFrom_21 ?_
    refine zput hx hb hts hown hK hP hD hS hin_1 tyX1 tyX1_ok nmX1 0 rfl rfl 2 (by decide) mw_41 rfl (v := .int (w1 0 2)) rfl rfl (Nat.le_of_ble_eq_true rfl) (wn := (zW_11 cy h0 (ups (ups w0 0 (ups (ups (w0 0) 1 (w1 0 1)) 2 (w1 0 2))) 1 u2) h1 w1)) rfl dX1_copyFrom_24 (fun H locs hP hD hS => ?_)
    exact zretV hx hb hr hlocks hP hK hD hS hf rfl dX1_copyFrom_27
  exact kE s.heap [] hP hD hS
set_option maxHeartbeats 4000000 in
set_option maxRecDepth 100000 in
theorem kX0_copyFrom (l : Launch) (dC : Nat → ClassId) (dI : Nat → Nat → Nat) (cy : ClassId) (h0 : Nat → Nat) (w0 : Nat → Nat → Int32) (h1 : Nat → Nat) (w1 : Nat → Nat → Int32) (sz : Nat) (z : (Nat → Int32) × (Nat → Int32) × (Nat → Int32)) (hf : fX0_copyFrom w0 w1 = some z) : Met l yX0_copyFrom (wsM yX0_copyFrom cX0_copyFrom 2 none) ({ frames := 1, cells := 0, slots := 0, locals := 22 } : Room) (va_Pc [.ref (h0 0), .ref (h1 0)] (pWR (dC, dI) vwCl [(cy, .int)] (zW_00 cy h0 w0 h1 w1) sz)) (va_Qv (fun (v : (Nat → Int32) × (Nat → Int32) × (Nat → Int32)) => v = z) (fun v => aWR (dC, dI) vwCl [(cy, .int)] (va_A (zW_00 cy h0 w0 h1 w1) sz) (zW_00 cy h0 (ups (ups (ups w0 0 v.1) 1 v.2.1) 2 v.2.2) h1 w1)) (va_A (zW_00 cy h0 w0 h1 w1) sz)) 0 0 (va_A (zW_00 cy h0 w0 h1 w1) sz) := by
  refine Met.ofW (cc := cX0_copyFrom) (maxL := 2) (ret := none) (by decide) rfl ?_
  intro p e s m args below meth c s₁ B hml hv
  obtain ⟨ha, hsz, hP, hK, hD0, hG⟩ := hv
  have hx := B.exec
  have hb := B.bytes
  have hr := B.returns
  have hts : ∀ w ∈ wsA, w.before args s = true := fun w h => atoms_spec (ws := wsM yX0_copyFrom cX0_copyFrom 2 none) B.pre w (List.mem_cons_of_mem _ h)
  have hown : s.vm.findClass RX0 = some m.cls := findClass_of_methodNamed B.named
  have hlocks := B.notSynchronized
  subst hsz
  have hD := hD0.self (sz := s.heap.size)
  generalize hAe : va_A (zW_00 cy h0 w0 h1 w1) s.heap.size = A at hD hG ⊢
  have hA : ∀ q : Nat, s.heap.size ≤ q → A q := fun q h => by rw [← hAe]; exact Or.inr h
  have hS : va_S A s.heap s.heap [] := va_S.rf
  have hP : va_P (dC, dI) vwCl (zW_00 cy h0 (ups (ups (ups w0 0 (w0 0)) 1 (w0 1)) 2 (w0 2)) h1 w1) s.heap := hP
  have hD : va_D A (zW_00 cy h0 (ups (ups (ups w0 0 (w0 0)) 1 (w0 1)) 2 (w0 2)) h1 w1) := hD
  obtain ⟨ls, hl, he⟩ := zent (m := m) (n := 2) (L := [(0, .ref (h0 0)), (1, .ref (h1 0))]) ha (Nat.le_of_ble_eq_true rfl) rfl
  refine W.eq he ?_
  unfold fX0_copyFrom at hf
  have kE : ∀ (H : Heap) (locs : List Loc), va_P (dC, dI) vwCl (zW_00 cy h0 (ups (ups (ups w0 0 (w0 0)) 1 (w0 1)) 2 (w0 2)) h1 w1) H → va_D A (zW_00 cy h0 (ups (ups (ups w0 0 (w0 0)) 1 (w0 1)) 2 (w0 2)) h1 w1) → va_S A s.heap H locs → W p l e ({ frames := 1, cells := 0, slots := 0, locals := 22 } : Room) s m args below meth c H locs 0 0 (MQ below (va_Qv (fun (v : (Nat → Int32) × (Nat → Int32) × (Nat → Int32)) => v = z) (fun v => aWR (dC, dI) vwCl [(cy, .int)] A (zW_00 cy h0 (ups (ups (ups w0 0 v.1) 1 v.2.1) 2 v.2.2) h1 w1)) A) args s 0 0 A) (F0 m 0 ls []) := by
    intro H locs hP hD hS
    refine lv_aload_n hx hb dX0_copyFrom_0 rfl (lv_at hl 1 rfl) ?_
    refine zget hx hb hts hown hK hP hin_0 3 rfl rfl 0 (by decide) mw_50 (v := .ref (h1 1)) rfl dX0_copyFrom_1 ?_
    refine lv_aload_n hx hb dX0_copyFrom_4 rfl (lv_at hl 0 rfl) ?_
    refine zget hx hb hts hown hK hP hin_0 0 rfl rfl 0 (by decide) mw_50 (v := .ref (h0 1)) rfl dX0_copyFrom_5 ?_
    obtain ⟨u2, hq1, hf⟩ := ob1_d hf
    refine zwvSN (As := [.ref (h1 1), .ref (h0 1)]) (rest := []) (u := u2) (wn := (zW_00 cy h0 (ups (ups (ups w0 0 (w0 0)) 1 u2) 2 (w0 2)) h1 w1)) ⟨hx, hb, hml, hown, hts⟩ (kX7_copyRow l dC dI cy (h1 1) 8 (w1 1) (h0 1) 8 (w0 1) H.size u2 hq1) (List.mem_of_getElem? (i := 20) rfl) mw_570 mw_1 mw_571 hdX7_copyRow rfl rfl ⟨Nat.le_of_ble_eq_true rfl, Nat.le_of_ble_eq_true rfl⟩ hP hK hG hS hD hA [4, 1] [0, 2, 3, 5] [0, 5, 1, 2, 4, 3] rfl rfl rfl rfl (by decide) rfl rfl rfl hl.1 rfl (Nat.le_of_ble_eq_true rfl) dX0_copyFrom_8 ⟨Nat.zero_le _, Nat.zero_le _⟩ (fun H locs hP hD hS => ?_)
    refine lv_aload_n hx hb dX0_copyFrom_11 rfl (lv_at hl 1 rfl) ?_
    refine zget hx hb hts hown hK hP hin_0 3 rfl rfl 1 (by decide) mw_51 (v := .ref (h1 2)) rfl dX0_copyFrom_12 ?_
    refine lv_aload_n hx hb dX0_copyFrom_15 rfl (lv_at hl 0 rfl) ?_
    refine zget hx hb hts hown hK hP hin_0 0 rfl rfl 1 (by decide) mw_51 (v := .ref (h0 2)) rfl dX0_copyFrom_16 ?_
    obtain ⟨u4, hq3, hf⟩ := ob1_d hf
    refine zwvSN (As := [.ref (h1 2), .ref (h0 2)]) (rest := []) (u := u4) (wn := (zW_00 cy h0 (ups (ups (ups w0 0 (w0 0)) 1 u2) 2 u4) h1 w1)) ⟨hx, hb, hml, hown, hts⟩ (kX7_copyRow l dC dI cy (h1 2) 8 (w1 2) (h0 2) 8 (w0 2) H.size u4 hq3) (List.mem_of_getElem? (i := 20) rfl) mw_570 mw_1 mw_571 hdX7_copyRow rfl rfl ⟨Nat.le_of_ble_eq_true rfl, Nat.le_of_ble_eq_true rfl⟩ hP hK hG hS hD hA [5, 2] [0, 1, 3, 4] [0, 1, 5, 2, 3, 4] rfl rfl rfl rfl (by decide) rfl rfl rfl hl.1 rfl (Nat.le_of_ble_eq_true rfl) dX0_copyFrom_19 ⟨Nat.zero_le _, Nat.zero_le _⟩ (fun H locs hP hD hS => ?_)
    refine lv_aload_n hx hb dX0_copyFrom_22 rfl (lv_at hl 0 rfl) ?_
    refine lv_aload_n hx hb dX0_copyFrom_23 rfl (lv_at hl 1 rfl) ?_
    refine zget hx hb hts hown hK hP hin_0 3 rfl rfl 2 (by decide) mw_52 (v := .int (w1 0 2)) rfl dX0_copyFrom_24 ?_
    refine zput hx hb hts hown hK hP hD hS hin_0 tyX0 tyX0_ok nmX0 0 rfl rfl 2 (by decide) mw_52 rfl (v := .int (w1 0 2)) rfl rfl (Nat.le_of_ble_eq_true rfl) (wn := (zW_00 cy h0 (ups (ups (ups w0 0 (ups (w0 0) 2 (w1 0 2))) 1 u2) 2 u4) h1 w1)) rfl dX0_copyFrom_27 (fun H locs hP hD hS => ?_)
    exact zretV hx hb hr hlocks hP hK hD hS hf rfl dX0_copyFrom_30
  exact kE s.heap [] hP hD hS
set_option maxHeartbeats 4000000 in
set_option maxRecDepth 100000 in
theorem kX6_copyFrom (l : Launch) (dC : Nat → ClassId) (dI : Nat → Nat → Nat) (cy : ClassId) (h0 : Nat → Nat) (w0 : Nat → Nat → Int32) (h1 : Nat → Nat) (w1 : Nat → Nat → Int32) (sz : Nat) (z : (Nat → Int32) × (Nat → Int32) × (Nat → Int32) × (Nat → Int32) × (Nat → Int32) × (Nat → Int32) × (Nat → Int32) × (Nat → Int32) × (Nat → Int32)) (hf : fX6_copyFrom w0 w1 = some z) : Met l yX6_copyFrom (wsM yX6_copyFrom cX6_copyFrom 2 none) ({ frames := 2, cells := 0, slots := 0, locals := 43 } : Room) (va_Pc [.ref (h0 0), .ref (h1 0)] (pWR (dC, dI) vwCl [(cy, .int)] (zW_66 cy h0 w0 h1 w1) sz)) (va_Qv (fun (v : (Nat → Int32) × (Nat → Int32) × (Nat → Int32) × (Nat → Int32) × (Nat → Int32) × (Nat → Int32) × (Nat → Int32) × (Nat → Int32) × (Nat → Int32)) => v = z) (fun v => aWR (dC, dI) vwCl [(cy, .int)] (va_A (zW_66 cy h0 w0 h1 w1) sz) (zW_66 cy h0 (ups (ups (ups (ups (ups (ups (ups (ups (ups w0 0 v.1) 1 v.2.1) 2 v.2.2.1) 3 v.2.2.2.1) 4 v.2.2.2.2.1) 5 v.2.2.2.2.2.1) 6 v.2.2.2.2.2.2.1) 7 v.2.2.2.2.2.2.2.1) 8 v.2.2.2.2.2.2.2.2) h1 w1)) (va_A (zW_66 cy h0 w0 h1 w1) sz)) 0 0 (va_A (zW_66 cy h0 w0 h1 w1) sz) := by
  refine Met.ofW (cc := cX6_copyFrom) (maxL := 2) (ret := none) (by decide) rfl ?_
  intro p e s m args below meth c s₁ B hml hv
  obtain ⟨ha, hsz, hP, hK, hD0, hG⟩ := hv
  have hx := B.exec
  have hb := B.bytes
  have hr := B.returns
  have hts : ∀ w ∈ wsA, w.before args s = true := fun w h => atoms_spec (ws := wsM yX6_copyFrom cX6_copyFrom 2 none) B.pre w (List.mem_cons_of_mem _ h)
  have hown : s.vm.findClass RX6 = some m.cls := findClass_of_methodNamed B.named
  have hlocks := B.notSynchronized
  subst hsz
  have hD := hD0.self (sz := s.heap.size)
  generalize hAe : va_A (zW_66 cy h0 w0 h1 w1) s.heap.size = A at hD hG ⊢
  have hA : ∀ q : Nat, s.heap.size ≤ q → A q := fun q h => by rw [← hAe]; exact Or.inr h
  have hS : va_S A s.heap s.heap [] := va_S.rf
  have hP : va_P (dC, dI) vwCl (zW_66 cy h0 (ups (ups (ups (ups (ups (ups (ups (ups (ups w0 0 (w0 0)) 1 (w0 1)) 2 (w0 2)) 3 (w0 3)) 4 (w0 4)) 5 (w0 5)) 6 (w0 6)) 7 (w0 7)) 8 (w0 8)) h1 w1) s.heap := hP
  have hD : va_D A (zW_66 cy h0 (ups (ups (ups (ups (ups (ups (ups (ups (ups w0 0 (w0 0)) 1 (w0 1)) 2 (w0 2)) 3 (w0 3)) 4 (w0 4)) 5 (w0 5)) 6 (w0 6)) 7 (w0 7)) 8 (w0 8)) h1 w1) := hD
  obtain ⟨ls, hl, he⟩ := zent (m := m) (n := 2) (L := [(0, .ref (h0 0)), (1, .ref (h1 0))]) ha (Nat.le_of_ble_eq_true rfl) rfl
  refine W.eq he ?_
  unfold fX6_copyFrom at hf
  have kE : ∀ (H : Heap) (locs : List Loc), va_P (dC, dI) vwCl (zW_66 cy h0 (ups (ups (ups (ups (ups (ups (ups (ups (ups w0 0 (w0 0)) 1 (w0 1)) 2 (w0 2)) 3 (w0 3)) 4 (w0 4)) 5 (w0 5)) 6 (w0 6)) 7 (w0 7)) 8 (w0 8)) h1 w1) H → va_D A (zW_66 cy h0 (ups (ups (ups (ups (ups (ups (ups (ups (ups w0 0 (w0 0)) 1 (w0 1)) 2 (w0 2)) 3 (w0 3)) 4 (w0 4)) 5 (w0 5)) 6 (w0 6)) 7 (w0 7)) 8 (w0 8)) h1 w1) → va_S A s.heap H locs → W p l e ({ frames := 2, cells := 0, slots := 0, locals := 43 } : Room) s m args below meth c H locs 0 0 (MQ below (va_Qv (fun (v : (Nat → Int32) × (Nat → Int32) × (Nat → Int32) × (Nat → Int32) × (Nat → Int32) × (Nat → Int32) × (Nat → Int32) × (Nat → Int32) × (Nat → Int32)) => v = z) (fun v => aWR (dC, dI) vwCl [(cy, .int)] A (zW_66 cy h0 (ups (ups (ups (ups (ups (ups (ups (ups (ups w0 0 v.1) 1 v.2.1) 2 v.2.2.1) 3 v.2.2.2.1) 4 v.2.2.2.2.1) 5 v.2.2.2.2.2.1) 6 v.2.2.2.2.2.2.1) 7 v.2.2.2.2.2.2.2.1) 8 v.2.2.2.2.2.2.2.2) h1 w1)) A) args s 0 0 A) (F0 m 0 ls []) := by
    intro H locs hP hD hS
    refine lv_aload_n hx hb dX6_copyFrom_0 rfl (lv_at hl 0 rfl) ?_
    refine zget hx hb hts hown hK hP hin_6 0 rfl rfl 0 (by decide) mw_56 (v := .ref (h0 1)) rfl dX6_copyFrom_1 ?_
    refine lv_aload_n hx hb dX6_copyFrom_4 rfl (lv_at hl 1 rfl) ?_
    refine zget hx hb hts hown hK hP hin_6 9 rfl rfl 0 (by decide) mw_56 (v := .ref (h1 1)) rfl dX6_copyFrom_5 ?_
    obtain ⟨u2, u3, hq1, hf⟩ := ob2_d hf
    refine zwvV (q := (RX1, TX1, 3)) (As := [.ref (h1 1)]) (rest := []) (u := (u2, u3)) (wn := (zW_66 cy h0 (ups (ups (ups (ups (ups (ups (ups (ups (ups w0 0 (w0 0)) 1 u2) 2 u3) 3 (w0 3)) 4 (w0 4)) 5 (w0 5)) 6 (w0 6)) 7 (w0 7)) 8 (w0 8)) h1 w1)) ⟨hx, hb, hml, hown, hts⟩ (kX1_copyFrom l dC dI cy (sh 1 h0) (sh 1 (ups (ups w0 1 (w0 1)) 2 (w0 2))) (sh 1 h1) (sh 1 w1) H.size (u2, u3) hq1) mw_566 mw_567 mw_568 mw_4 mw_569 hdX1_copyFrom rfl rfl ⟨Nat.le_of_ble_eq_true rfl, Nat.le_of_ble_eq_true rfl⟩ hP hK hG hS 1 rfl rfl hD hA [1, 2, 10, 11] [0, 3, 4, 5, 6, 7, 8, 9, 12, 13, 14, 15, 16, 17] [0, 14, 15, 1, 2, 3, 4, 5, 6, 7, 16, 17, 8, 9, 10, 11, 12, 13] rfl rfl rfl rfl (by decide) rfl rfl rfl hl.1 rfl (Nat.le_of_ble_eq_true rfl) dX6_copyFrom_8 ⟨Nat.zero_le _, Nat.zero_le _⟩ (fun H locs hP hD hS => ?_)
    refine lv_aload_n hx hb dX6_copyFrom_11 rfl (lv_at hl 0 rfl) ?_
    refine zget hx hb hts hown hK hP hin_6 0 rfl rfl 1 (by decide) mw_57 (v := .ref (h0 3)) rfl dX6_copyFrom_12 ?_
    refine lv_aload_n hx hb dX6_copyFrom_15 rfl (lv_at hl 1 rfl) ?_
    refine zget hx hb hts hown hK hP hin_6 9 rfl rfl 1 (by decide) mw_57 (v := .ref (h1 3)) rfl dX6_copyFrom_16 ?_
    obtain ⟨u5, u6, u7, hq4, hf⟩ := ob3_d hf
    refine zwvV (q := (RX0, TX0, 3)) (As := [.ref (h1 3)]) (rest := []) (u := (u5, u6, u7)) (wn := (zW_66 cy h0 (ups (ups (ups (ups (ups (ups (ups (ups (ups w0 0 (w0 0)) 1 u2) 2 u3) 3 u5) 4 u6) 5 u7) 6 (w0 6)) 7 (w0 7)) 8 (w0 8)) h1 w1)) ⟨hx, hb, hml, hown, hts⟩ (kX0_copyFrom l dC dI cy (sh 3 h0) (sh 3 (ups (ups (ups w0 3 (w0 3)) 4 (w0 4)) 5 (w0 5))) (sh 3 h1) (sh 3 w1) H.size (u5, u6, u7) hq4) mw_572 mw_573 mw_574 mw_5 mw_575 hdX0_copyFrom rfl rfl ⟨Nat.le_of_ble_eq_true rfl, Nat.le_of_ble_eq_true rfl⟩ hP hK hG hS 3 rfl rfl hD hA [3, 4, 5, 12, 13, 14] [0, 1, 2, 6, 7, 8, 9, 10, 11, 15, 16, 17] [0, 1, 2, 12, 13, 14, 3, 4, 5, 6, 7, 8, 15, 16, 17, 9, 10, 11] rfl rfl rfl rfl (by decide) rfl rfl rfl hl.1 rfl (Nat.le_of_ble_eq_true rfl) dX6_copyFrom_19 ⟨Nat.zero_le _, Nat.zero_le _⟩ (fun H locs hP hD hS => ?_)
    refine lv_aload_n hx hb dX6_copyFrom_22 rfl (lv_at hl 0 rfl) ?_
    refine zget hx hb hts hown hK hP hin_6 0 rfl rfl 2 (by decide) mw_58 (v := .ref (h0 6)) rfl dX6_copyFrom_23 ?_
    refine lv_aload_n hx hb dX6_copyFrom_26 rfl (lv_at hl 1 rfl) ?_
    refine zget hx hb hts hown hK hP hin_6 9 rfl rfl 2 (by decide) mw_58 (v := .ref (h1 6)) rfl dX6_copyFrom_27 ?_
    obtain ⟨u9, u10, u11, hq8, hf⟩ := ob3_d hf
    refine zwvV (q := (RX0, TX0, 3)) (As := [.ref (h1 6)]) (rest := []) (u := (u9, u10, u11)) (wn := (zW_66 cy h0 (ups (ups (ups (ups (ups (ups (ups (ups (ups w0 0 (w0 0)) 1 u2) 2 u3) 3 u5) 4 u6) 5 u7) 6 u9) 7 u10) 8 u11) h1 w1)) ⟨hx, hb, hml, hown, hts⟩ (kX0_copyFrom l dC dI cy (sh 6 h0) (sh 6 (ups (ups (ups w0 6 (w0 6)) 7 (w0 7)) 8 (w0 8))) (sh 6 h1) (sh 6 w1) H.size (u9, u10, u11) hq8) mw_572 mw_573 mw_574 mw_5 mw_575 hdX0_copyFrom rfl rfl ⟨Nat.le_of_ble_eq_true rfl, Nat.le_of_ble_eq_true rfl⟩ hP hK hG hS 6 rfl rfl hD hA [6, 7, 8, 15, 16, 17] [0, 1, 2, 3, 4, 5, 9, 10, 11, 12, 13, 14] [0, 1, 2, 3, 4, 5, 12, 13, 14, 6, 7, 8, 9, 10, 11, 15, 16, 17] rfl rfl rfl rfl (by decide) rfl rfl rfl hl.1 rfl (Nat.le_of_ble_eq_true rfl) dX6_copyFrom_30 ⟨Nat.zero_le _, Nat.zero_le _⟩ (fun H locs hP hD hS => ?_)
    refine lv_aload_n hx hb dX6_copyFrom_33 rfl (lv_at hl 0 rfl) ?_
    refine lv_aload_n hx hb dX6_copyFrom_34 rfl (lv_at hl 1 rfl) ?_
    refine zget hx hb hts hown hK hP hin_6 9 rfl rfl 3 (by decide) mw_59 (v := .int (w1 0 3)) rfl dX6_copyFrom_35 ?_
    refine zput hx hb hts hown hK hP hD hS hin_6 tyX6 tyX6_ok nmX6 0 rfl rfl 3 (by decide) mw_59 rfl (v := .int (w1 0 3)) rfl rfl (Nat.le_of_ble_eq_true rfl) (wn := (zW_66 cy h0 (ups (ups (ups (ups (ups (ups (ups (ups (ups w0 0 (ups (w0 0) 3 (w1 0 3))) 1 u2) 2 u3) 3 u5) 4 u6) 5 u7) 6 u9) 7 u10) 8 u11) h1 w1)) rfl dX6_copyFrom_38 (fun H locs hP hD hS => ?_)
    refine lv_aload_n hx hb dX6_copyFrom_41 rfl (lv_at hl 0 rfl) ?_
    refine lv_aload_n hx hb dX6_copyFrom_42 rfl (lv_at hl 1 rfl) ?_
    refine zget hx hb hts hown hK hP hin_6 9 rfl rfl 4 (by decide) mw_60 (v := .int (w1 0 4)) rfl dX6_copyFrom_43 ?_
    refine zput hx hb hts hown hK hP hD hS hin_6 tyX6 tyX6_ok nmX6 0 rfl rfl 4 (by decide) mw_60 rfl (v := .int (w1 0 4)) rfl rfl (Nat.le_of_ble_eq_true rfl) (wn := (zW_66 cy h0 (ups (ups (ups (ups (ups (ups (ups (ups (ups w0 0 (ups (ups (w0 0) 3 (w1 0 3)) 4 (w1 0 4))) 1 u2) 2 u3) 3 u5) 4 u6) 5 u7) 6 u9) 7 u10) 8 u11) h1 w1)) rfl dX6_copyFrom_46 (fun H locs hP hD hS => ?_)
    refine lv_aload_n hx hb dX6_copyFrom_49 rfl (lv_at hl 0 rfl) ?_
    refine lv_aload_n hx hb dX6_copyFrom_50 rfl (lv_at hl 1 rfl) ?_
    refine zget hx hb hts hown hK hP hin_6 9 rfl rfl 5 (by decide) mw_61 (v := .int (w1 0 5)) rfl dX6_copyFrom_51 ?_
    refine zput hx hb hts hown hK hP hD hS hin_6 tyX6 tyX6_ok nmX6 0 rfl rfl 5 (by decide) mw_61 rfl (v := .int (w1 0 5)) rfl rfl (Nat.le_of_ble_eq_true rfl) (wn := (zW_66 cy h0 (ups (ups (ups (ups (ups (ups (ups (ups (ups w0 0 (ups (ups (ups (w0 0) 3 (w1 0 3)) 4 (w1 0 4)) 5 (w1 0 5))) 1 u2) 2 u3) 3 u5) 4 u6) 5 u7) 6 u9) 7 u10) 8 u11) h1 w1)) rfl dX6_copyFrom_54 (fun H locs hP hD hS => ?_)
    refine lv_aload_n hx hb dX6_copyFrom_57 rfl (lv_at hl 0 rfl) ?_
    refine lv_aload_n hx hb dX6_copyFrom_58 rfl (lv_at hl 1 rfl) ?_
    refine zget hx hb hts hown hK hP hin_6 9 rfl rfl 6 (by decide) mw_62 (v := .int (w1 0 6)) rfl dX6_copyFrom_59 ?_
    refine zput hx hb hts hown hK hP hD hS hin_6 tyX6 tyX6_ok nmX6 0 rfl rfl 6 (by decide) mw_62 rfl (v := .int (w1 0 6)) rfl rfl (Nat.le_of_ble_eq_true rfl) (wn := (zW_66 cy h0 (ups (ups (ups (ups (ups (ups (ups (ups (ups w0 0 (ups (ups (ups (ups (w0 0) 3 (w1 0 3)) 4 (w1 0 4)) 5 (w1 0 5)) 6 (w1 0 6))) 1 u2) 2 u3) 3 u5) 4 u6) 5 u7) 6 u9) 7 u10) 8 u11) h1 w1)) rfl dX6_copyFrom_62 (fun H locs hP hD hS => ?_)
    refine lv_aload_n hx hb dX6_copyFrom_65 rfl (lv_at hl 0 rfl) ?_
    refine lv_aload_n hx hb dX6_copyFrom_66 rfl (lv_at hl 1 rfl) ?_
    refine zget hx hb hts hown hK hP hin_6 9 rfl rfl 7 (by decide) mw_63 (v := .int (w1 0 7)) rfl dX6_copyFrom_67 ?_
    refine zput hx hb hts hown hK hP hD hS hin_6 tyX6 tyX6_ok nmX6 0 rfl rfl 7 (by decide) mw_63 rfl (v := .int (w1 0 7)) rfl rfl (Nat.le_of_ble_eq_true rfl) (wn := (zW_66 cy h0 (ups (ups (ups (ups (ups (ups (ups (ups (ups w0 0 (ups (ups (ups (ups (ups (w0 0) 3 (w1 0 3)) 4 (w1 0 4)) 5 (w1 0 5)) 6 (w1 0 6)) 7 (w1 0 7))) 1 u2) 2 u3) 3 u5) 4 u6) 5 u7) 6 u9) 7 u10) 8 u11) h1 w1)) rfl dX6_copyFrom_70 (fun H locs hP hD hS => ?_)
    refine lv_aload_n hx hb dX6_copyFrom_73 rfl (lv_at hl 0 rfl) ?_
    refine lv_aload_n hx hb dX6_copyFrom_74 rfl (lv_at hl 1 rfl) ?_
    refine zget hx hb hts hown hK hP hin_6 9 rfl rfl 8 (by decide) mw_64 (v := .int (w1 0 8)) rfl dX6_copyFrom_75 ?_
    refine zput hx hb hts hown hK hP hD hS hin_6 tyX6 tyX6_ok nmX6 0 rfl rfl 8 (by decide) mw_64 rfl (v := .int (w1 0 8)) rfl rfl (Nat.le_of_ble_eq_true rfl) (wn := (zW_66 cy h0 (ups (ups (ups (ups (ups (ups (ups (ups (ups w0 0 (ups (ups (ups (ups (ups (ups (w0 0) 3 (w1 0 3)) 4 (w1 0 4)) 5 (w1 0 5)) 6 (w1 0 6)) 7 (w1 0 7)) 8 (w1 0 8))) 1 u2) 2 u3) 3 u5) 4 u6) 5 u7) 6 u9) 7 u10) 8 u11) h1 w1)) rfl dX6_copyFrom_78 (fun H locs hP hD hS => ?_)
    refine lv_aload_n hx hb dX6_copyFrom_81 rfl (lv_at hl 0 rfl) ?_
    refine lv_aload_n hx hb dX6_copyFrom_82 rfl (lv_at hl 1 rfl) ?_
    refine zget hx hb hts hown hK hP hin_6 9 rfl rfl 9 (by decide) mw_65 (v := .int (w1 0 9)) rfl dX6_copyFrom_83 ?_
    refine zput hx hb hts hown hK hP hD hS hin_6 tyX6 tyX6_ok nmX6 0 rfl rfl 9 (by decide) mw_65 rfl (v := .int (w1 0 9)) rfl rfl (Nat.le_of_ble_eq_true rfl) (wn := (zW_66 cy h0 (ups (ups (ups (ups (ups (ups (ups (ups (ups w0 0 (ups (ups (ups (ups (ups (ups (ups (w0 0) 3 (w1 0 3)) 4 (w1 0 4)) 5 (w1 0 5)) 6 (w1 0 6)) 7 (w1 0 7)) 8 (w1 0 8)) 9 (w1 0 9))) 1 u2) 2 u3) 3 u5) 4 u6) 5 u7) 6 u9) 7 u10) 8 u11) h1 w1)) rfl dX6_copyFrom_86 (fun H locs hP hD hS => ?_)
    exact zretV hx hb hr hlocks hP hK hD hS hf rfl dX6_copyFrom_89
  exact kE s.heap [] hP hD hS
