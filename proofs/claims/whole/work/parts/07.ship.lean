set_option maxHeartbeats 4000000 in
set_option maxRecDepth 100000 in
theorem kX5_layIn (l : Launch) (dC : Nat → ClassId) (dI : Nat → Nat → Nat) (cy : ClassId) (h0 : Nat) (w0 : Nat → Int32) (x1 : Int32) (sz : Nat) (z : (Nat → Int32)) (hf : fX5_layIn w0 x1 = some z) : Met l yX5_layIn (wsM yX5_layIn cX5_layIn 2 none) ({ frames := 0, cells := 0, slots := 0, locals := 0 } : Room) (va_Pc [.ref h0, .int x1] (pWR (dC, dI) vwCl [(cy, .int)] (zW_5 cy h0 w0) sz)) (va_Qv (fun (v : (Nat → Int32)) => v = z) (fun v => aWR (dC, dI) vwCl [(cy, .int)] (va_A (zW_5 cy h0 w0) sz) (zW_5 cy h0 v)) (va_A (zW_5 cy h0 w0) sz)) 0 0 (va_A (zW_5 cy h0 w0) sz) := by
  refine Met.ofW (cc := cX5_layIn) (maxL := 2) (ret := none) (by decide) rfl ?_
  intro p e s m args below meth c s₁ B hml hv
  obtain ⟨ha, hsz, hP, hK, hD0, hG⟩ := hv
  have hx := B.exec
  have hb := B.bytes
  have hr := B.returns
  have hts : ∀ w ∈ wsA, w.before args s = true := fun w h => atoms_spec (ws := wsM yX5_layIn cX5_layIn 2 none) B.pre w (List.mem_cons_of_mem _ h)
  have hown : s.vm.findClass RX5 = some m.cls := findClass_of_methodNamed B.named
  have hlocks := B.notSynchronized
  subst hsz
  have hD := hD0.self (sz := s.heap.size)
  generalize hAe : va_A (zW_5 cy h0 w0) s.heap.size = A at hD hG ⊢
  have hA : ∀ q : Nat, s.heap.size ≤ q → A q := fun q h => by rw [← hAe]; exact Or.inr h
  have hS : va_S A s.heap s.heap [] := va_S.rf
  have hP : va_P (dC, dI) vwCl (zW_5 cy h0 w0) s.heap := hP
  have hD : va_D A (zW_5 cy h0 w0) := hD
  obtain ⟨ls, hl, he⟩ := zent (m := m) (n := 2) (L := [(0, .ref h0), (1, .int x1)]) ha (Nat.le_of_ble_eq_true rfl) rfl
  refine W.eq he ?_
  unfold fX5_layIn at hf
  have kE : ∀ (H : Heap) (locs : List Loc), va_P (dC, dI) vwCl (zW_5 cy h0 w0) H → va_D A (zW_5 cy h0 w0) → va_S A s.heap H locs → W p l e ({ frames := 0, cells := 0, slots := 0, locals := 0 } : Room) s m args below meth c H locs 0 0 (MQ below (va_Qv (fun (v : (Nat → Int32)) => v = z) (fun v => aWR (dC, dI) vwCl [(cy, .int)] A (zW_5 cy h0 v)) A) args s 0 0 A) (F0 m 0 ls []) := by
    intro H locs hP hD hS
    refine lv_aload_n hx hb dX5_layIn_0 rfl (lv_at hl 0 rfl) ?_
    refine lv_iconst (v := (1 : Int32)) hx hb dX5_layIn_1 (by decide) ?_
    refine zput hx hb hts hown hK hP hD hS hin_5 tyX5 tyX5_ok nmX5 0 rfl rfl 0 (by decide) mw_91 rfl (v := .int (1 : Int32)) rfl rfl (Nat.le_of_ble_eq_true rfl) (wn := (zW_5 cy h0 (ups w0 0 (1 : Int32)))) rfl dX5_layIn_2 (fun H locs hP hD hS => ?_)
    refine lv_aload_n hx hb dX5_layIn_5 rfl (lv_at hl 0 rfl) ?_
    refine lv_iload_n hx hb dX5_layIn_6 rfl (lv_at hl 1 rfl) ?_
    refine zput hx hb hts hown hK hP hD hS hin_5 tyX5 tyX5_ok nmX5 0 rfl rfl 1 (by decide) mw_92 rfl (v := .int x1) rfl rfl (Nat.le_of_ble_eq_true rfl) (wn := (zW_5 cy h0 (ups (ups w0 0 (1 : Int32)) 1 x1))) rfl dX5_layIn_7 (fun H locs hP hD hS => ?_)
    refine lv_aload_n hx hb dX5_layIn_10 rfl (lv_at hl 0 rfl) ?_
    refine lv_iconst (v := (0 : Int32)) hx hb dX5_layIn_11 (by decide) ?_
    refine zput hx hb hts hown hK hP hD hS hin_5 tyX5 tyX5_ok nmX5 0 rfl rfl 2 (by decide) mw_93 rfl (v := .int (0 : Int32)) rfl rfl (Nat.le_of_ble_eq_true rfl) (wn := (zW_5 cy h0 (ups (ups (ups w0 0 (1 : Int32)) 1 x1) 2 (0 : Int32)))) rfl dX5_layIn_12 (fun H locs hP hD hS => ?_)
    refine lv_aload_n hx hb dX5_layIn_15 rfl (lv_at hl 0 rfl) ?_
    refine lv_iconst (v := (1 : Int32)) hx hb dX5_layIn_16 (by decide) ?_
    refine zput hx hb hts hown hK hP hD hS hin_5 tyX5 tyX5_ok nmX5 0 rfl rfl 3 (by decide) mw_94 rfl (v := .int (1 : Int32)) rfl rfl (Nat.le_of_ble_eq_true rfl) (wn := (zW_5 cy h0 (ups (ups (ups (ups w0 0 (1 : Int32)) 1 x1) 2 (0 : Int32)) 3 (1 : Int32)))) rfl dX5_layIn_17 (fun H locs hP hD hS => ?_)
    refine lv_aload_n hx hb dX5_layIn_20 rfl (lv_at hl 0 rfl) ?_
    refine lv_iconst (v := (3 : Int32)) hx hb dX5_layIn_21 (by decide) ?_
    refine zput hx hb hts hown hK hP hD hS hin_5 tyX5 tyX5_ok nmX5 0 rfl rfl 4 (by decide) mw_95 rfl (v := .int (3 : Int32)) rfl rfl (Nat.le_of_ble_eq_true rfl) (wn := (zW_5 cy h0 (ups (ups (ups (ups (ups w0 0 (1 : Int32)) 1 x1) 2 (0 : Int32)) 3 (1 : Int32)) 4 (3 : Int32)))) rfl dX5_layIn_22 (fun H locs hP hD hS => ?_)
    refine lv_aload_n hx hb dX5_layIn_25 rfl (lv_at hl 0 rfl) ?_
    refine lv_iconst (v := (2 : Int32)) hx hb dX5_layIn_26 (by decide) ?_
    refine zput hx hb hts hown hK hP hD hS hin_5 tyX5 tyX5_ok nmX5 0 rfl rfl 5 (by decide) mw_96 rfl (v := .int (2 : Int32)) rfl rfl (Nat.le_of_ble_eq_true rfl) (wn := (zW_5 cy h0 (ups (ups (ups (ups (ups (ups w0 0 (1 : Int32)) 1 x1) 2 (0 : Int32)) 3 (1 : Int32)) 4 (3 : Int32)) 5 (2 : Int32)))) rfl dX5_layIn_27 (fun H locs hP hD hS => ?_)
    refine lv_aload_n hx hb dX5_layIn_30 rfl (lv_at hl 0 rfl) ?_
    refine lv_iconst (v := (0 : Int32)) hx hb dX5_layIn_31 (by decide) ?_
    refine zput hx hb hts hown hK hP hD hS hin_5 tyX5 tyX5_ok nmX5 0 rfl rfl 6 (by decide) mw_97 rfl (v := .int (0 : Int32)) rfl rfl (Nat.le_of_ble_eq_true rfl) (wn := (zW_5 cy h0 (ups (ups (ups (ups (ups (ups (ups w0 0 (1 : Int32)) 1 x1) 2 (0 : Int32)) 3 (1 : Int32)) 4 (3 : Int32)) 5 (2 : Int32)) 6 (0 : Int32)))) rfl dX5_layIn_32 (fun H locs hP hD hS => ?_)
    refine lv_aload_n hx hb dX5_layIn_35 rfl (lv_at hl 0 rfl) ?_
    refine lv_iconst (v := (0 : Int32)) hx hb dX5_layIn_36 (by decide) ?_
    refine zput hx hb hts hown hK hP hD hS hin_5 tyX5 tyX5_ok nmX5 0 rfl rfl 7 (by decide) mw_98 rfl (v := .int (0 : Int32)) rfl rfl (Nat.le_of_ble_eq_true rfl) (wn := (zW_5 cy h0 (ups (ups (ups (ups (ups (ups (ups (ups w0 0 (1 : Int32)) 1 x1) 2 (0 : Int32)) 3 (1 : Int32)) 4 (3 : Int32)) 5 (2 : Int32)) 6 (0 : Int32)) 7 (0 : Int32)))) rfl dX5_layIn_37 (fun H locs hP hD hS => ?_)
    refine lv_aload_n hx hb dX5_layIn_40 rfl (lv_at hl 0 rfl) ?_
    refine lv_iconst (v := (0 : Int32)) hx hb dX5_layIn_41 (by decide) ?_
    refine zput hx hb hts hown hK hP hD hS hin_5 tyX5 tyX5_ok nmX5 0 rfl rfl 8 (by decide) mw_99 rfl (v := .int (0 : Int32)) rfl rfl (Nat.le_of_ble_eq_true rfl) (wn := (zW_5 cy h0 (ups (ups (ups (ups (ups (ups (ups (ups (ups w0 0 (1 : Int32)) 1 x1) 2 (0 : Int32)) 3 (1 : Int32)) 4 (3 : Int32)) 5 (2 : Int32)) 6 (0 : Int32)) 7 (0 : Int32)) 8 (0 : Int32)))) rfl dX5_layIn_42 (fun H locs hP hD hS => ?_)
    refine lv_aload_n hx hb dX5_layIn_45 rfl (lv_at hl 0 rfl) ?_
    refine lv_iconst (v := (0 : Int32)) hx hb dX5_layIn_46 (by decide) ?_
    refine zput hx hb hts hown hK hP hD hS hin_5 tyX5 tyX5_ok nmX5 0 rfl rfl 9 (by decide) mw_100 rfl (v := .int (0 : Int32)) rfl rfl (Nat.le_of_ble_eq_true rfl) (wn := (zW_5 cy h0 (ups (ups (ups (ups (ups (ups (ups (ups (ups (ups w0 0 (1 : Int32)) 1 x1) 2 (0 : Int32)) 3 (1 : Int32)) 4 (3 : Int32)) 5 (2 : Int32)) 6 (0 : Int32)) 7 (0 : Int32)) 8 (0 : Int32)) 9 (0 : Int32)))) rfl dX5_layIn_47 (fun H locs hP hD hS => ?_)
    refine lv_aload_n hx hb dX5_layIn_50 rfl (lv_at hl 0 rfl) ?_
    refine lv_iconst (v := (1 : Int32)) hx hb dX5_layIn_51 (by decide) ?_
    refine zput hx hb hts hown hK hP hD hS hin_5 tyX5 tyX5_ok nmX5 0 rfl rfl 10 (by decide) mw_101 rfl (v := .int (1 : Int32)) rfl rfl (Nat.le_of_ble_eq_true rfl) (wn := (zW_5 cy h0 (ups (ups (ups (ups (ups (ups (ups (ups (ups (ups (ups w0 0 (1 : Int32)) 1 x1) 2 (0 : Int32)) 3 (1 : Int32)) 4 (3 : Int32)) 5 (2 : Int32)) 6 (0 : Int32)) 7 (0 : Int32)) 8 (0 : Int32)) 9 (0 : Int32)) 10 (1 : Int32)))) rfl dX5_layIn_52 (fun H locs hP hD hS => ?_)
    refine lv_aload_n hx hb dX5_layIn_55 rfl (lv_at hl 0 rfl) ?_
    refine lv_iconst (v := (0 : Int32)) hx hb dX5_layIn_56 (by decide) ?_
    refine zput hx hb hts hown hK hP hD hS hin_5 tyX5 tyX5_ok nmX5 0 rfl rfl 11 (by decide) mw_102 rfl (v := .int (0 : Int32)) rfl rfl (Nat.le_of_ble_eq_true rfl) (wn := (zW_5 cy h0 (ups (ups (ups (ups (ups (ups (ups (ups (ups (ups (ups (ups w0 0 (1 : Int32)) 1 x1) 2 (0 : Int32)) 3 (1 : Int32)) 4 (3 : Int32)) 5 (2 : Int32)) 6 (0 : Int32)) 7 (0 : Int32)) 8 (0 : Int32)) 9 (0 : Int32)) 10 (1 : Int32)) 11 (0 : Int32)))) rfl dX5_layIn_57 (fun H locs hP hD hS => ?_)
    refine lv_aload_n hx hb dX5_layIn_60 rfl (lv_at hl 0 rfl) ?_
    refine lv_iconst (v := (0 : Int32)) hx hb dX5_layIn_61 (by decide) ?_
    refine zput hx hb hts hown hK hP hD hS hin_5 tyX5 tyX5_ok nmX5 0 rfl rfl 12 (by decide) mw_103 rfl (v := .int (0 : Int32)) rfl rfl (Nat.le_of_ble_eq_true rfl) (wn := (zW_5 cy h0 (ups (ups (ups (ups (ups (ups (ups (ups (ups (ups (ups (ups (ups w0 0 (1 : Int32)) 1 x1) 2 (0 : Int32)) 3 (1 : Int32)) 4 (3 : Int32)) 5 (2 : Int32)) 6 (0 : Int32)) 7 (0 : Int32)) 8 (0 : Int32)) 9 (0 : Int32)) 10 (1 : Int32)) 11 (0 : Int32)) 12 (0 : Int32)))) rfl dX5_layIn_62 (fun H locs hP hD hS => ?_)
    refine lv_aload_n hx hb dX5_layIn_65 rfl (lv_at hl 0 rfl) ?_
    refine lv_iconst (v := (0 : Int32)) hx hb dX5_layIn_66 (by decide) ?_
    refine zput hx hb hts hown hK hP hD hS hin_5 tyX5 tyX5_ok nmX5 0 rfl rfl 13 (by decide) mw_104 rfl (v := .int (0 : Int32)) rfl rfl (Nat.le_of_ble_eq_true rfl) (wn := (zW_5 cy h0 (ups (ups (ups (ups (ups (ups (ups (ups (ups (ups (ups (ups (ups (ups w0 0 (1 : Int32)) 1 x1) 2 (0 : Int32)) 3 (1 : Int32)) 4 (3 : Int32)) 5 (2 : Int32)) 6 (0 : Int32)) 7 (0 : Int32)) 8 (0 : Int32)) 9 (0 : Int32)) 10 (1 : Int32)) 11 (0 : Int32)) 12 (0 : Int32)) 13 (0 : Int32)))) rfl dX5_layIn_67 (fun H locs hP hD hS => ?_)
    refine lv_aload_n hx hb dX5_layIn_70 rfl (lv_at hl 0 rfl) ?_
    refine lv_iconst (v := (0 : Int32)) hx hb dX5_layIn_71 (by decide) ?_
    refine zput hx hb hts hown hK hP hD hS hin_5 tyX5 tyX5_ok nmX5 0 rfl rfl 14 (by decide) mw_105 rfl (v := .int (0 : Int32)) rfl rfl (Nat.le_of_ble_eq_true rfl) (wn := (zW_5 cy h0 (ups (ups (ups (ups (ups (ups (ups (ups (ups (ups (ups (ups (ups (ups (ups w0 0 (1 : Int32)) 1 x1) 2 (0 : Int32)) 3 (1 : Int32)) 4 (3 : Int32)) 5 (2 : Int32)) 6 (0 : Int32)) 7 (0 : Int32)) 8 (0 : Int32)) 9 (0 : Int32)) 10 (1 : Int32)) 11 (0 : Int32)) 12 (0 : Int32)) 13 (0 : Int32)) 14 (0 : Int32)))) rfl dX5_layIn_72 (fun H locs hP hD hS => ?_)
    refine lv_aload_n hx hb dX5_layIn_75 rfl (lv_at hl 0 rfl) ?_
    refine lv_ldc (v := (2147483647 : Int32)) hx hb hown (hts _ mw_90) dX5_layIn_76 ?_
    refine zput hx hb hts hown hK hP hD hS hin_5 tyX5 tyX5_ok nmX5 0 rfl rfl 15 (by decide) mw_106 rfl (v := .int (2147483647 : Int32)) rfl rfl (Nat.le_of_ble_eq_true rfl) (wn := (zW_5 cy h0 (ups (ups (ups (ups (ups (ups (ups (ups (ups (ups (ups (ups (ups (ups (ups (ups w0 0 (1 : Int32)) 1 x1) 2 (0 : Int32)) 3 (1 : Int32)) 4 (3 : Int32)) 5 (2 : Int32)) 6 (0 : Int32)) 7 (0 : Int32)) 8 (0 : Int32)) 9 (0 : Int32)) 10 (1 : Int32)) 11 (0 : Int32)) 12 (0 : Int32)) 13 (0 : Int32)) 14 (0 : Int32)) 15 (2147483647 : Int32)))) rfl dX5_layIn_78 (fun H locs hP hD hS => ?_)
    refine lv_aload_n hx hb dX5_layIn_81 rfl (lv_at hl 0 rfl) ?_
    refine lv_iconst (v := (0 : Int32)) hx hb dX5_layIn_82 (by decide) ?_
    refine zput hx hb hts hown hK hP hD hS hin_5 tyX5 tyX5_ok nmX5 0 rfl rfl 16 (by decide) mw_107 rfl (v := .int (0 : Int32)) rfl rfl (Nat.le_of_ble_eq_true rfl) (wn := (zW_5 cy h0 (ups (ups (ups (ups (ups (ups (ups (ups (ups (ups (ups (ups (ups (ups (ups (ups (ups w0 0 (1 : Int32)) 1 x1) 2 (0 : Int32)) 3 (1 : Int32)) 4 (3 : Int32)) 5 (2 : Int32)) 6 (0 : Int32)) 7 (0 : Int32)) 8 (0 : Int32)) 9 (0 : Int32)) 10 (1 : Int32)) 11 (0 : Int32)) 12 (0 : Int32)) 13 (0 : Int32)) 14 (0 : Int32)) 15 (2147483647 : Int32)) 16 (0 : Int32)))) rfl dX5_layIn_83 (fun H locs hP hD hS => ?_)
    exact zretV hx hb hr hlocks hP hK hD hS hf rfl dX5_layIn_86
  exact kE s.heap [] hP hD hS
set_option maxHeartbeats 4000000 in
set_option maxRecDepth 100000 in
theorem kX5_leaveBay (l : Launch) (dC : Nat → ClassId) (dI : Nat → Nat → Nat) (cy : ClassId) (h0 : Nat) (w0 : Nat → Int32) (sz : Nat) (z : (Nat → Int32)) (hf : fX5_leaveBay w0 = some z) : Met l yX5_leaveBay (wsM yX5_leaveBay cX5_leaveBay 1 none) ({ frames := 1, cells := 0, slots := 0, locals := 21 } : Room) (va_Pc [.ref h0] (pWR (dC, dI) vwCl [(cy, .int)] (zW_5 cy h0 w0) sz)) (va_Qv (fun (v : (Nat → Int32)) => v = z) (fun v => aWR (dC, dI) vwCl [(cy, .int)] (va_A (zW_5 cy h0 w0) sz) (zW_5 cy h0 v)) (va_A (zW_5 cy h0 w0) sz)) 0 0 (va_A (zW_5 cy h0 w0) sz) := by
  refine Met.ofW (cc := cX5_leaveBay) (maxL := 1) (ret := none) (by decide) rfl ?_
  intro p e s m args below meth c s₁ B hml hv
  obtain ⟨ha, hsz, hP, hK, hD0, hG⟩ := hv
  have hx := B.exec
  have hb := B.bytes
  have hr := B.returns
  have hts : ∀ w ∈ wsA, w.before args s = true := fun w h => atoms_spec (ws := wsM yX5_leaveBay cX5_leaveBay 1 none) B.pre w (List.mem_cons_of_mem _ h)
  have hown : s.vm.findClass RX5 = some m.cls := findClass_of_methodNamed B.named
  have hlocks := B.notSynchronized
  subst hsz
  have hD := hD0.self (sz := s.heap.size)
  generalize hAe : va_A (zW_5 cy h0 w0) s.heap.size = A at hD hG ⊢
  have hA : ∀ q : Nat, s.heap.size ≤ q → A q := fun q h => by rw [← hAe]; exact Or.inr h
  have hS : va_S A s.heap s.heap [] := va_S.rf
  have hP : va_P (dC, dI) vwCl (zW_5 cy h0 w0) s.heap := hP
  have hD : va_D A (zW_5 cy h0 w0) := hD
  obtain ⟨ls, hl, he⟩ := zent (m := m) (n := 1) (L := [(0, .ref h0)]) ha (Nat.le_of_ble_eq_true rfl) rfl
  refine W.eq he ?_
  unfold fX5_leaveBay at hf
  have kE : ∀ (H : Heap) (locs : List Loc), va_P (dC, dI) vwCl (zW_5 cy h0 w0) H → va_D A (zW_5 cy h0 w0) → va_S A s.heap H locs → W p l e ({ frames := 1, cells := 0, slots := 0, locals := 21 } : Room) s m args below meth c H locs 0 0 (MQ below (va_Qv (fun (v : (Nat → Int32)) => v = z) (fun v => aWR (dC, dI) vwCl [(cy, .int)] A (zW_5 cy h0 v)) A) args s 0 0 A) (F0 m 0 ls []) := by
    intro H locs hP hD hS
    refine lv_aload_n hx hb dX5_leaveBay_0 rfl (lv_at hl 0 rfl) ?_
    refine lv_bipush (v := (-9 : Int32)) hx hb dX5_leaveBay_1 (by decide) ?_
    obtain ⟨u2, hq1, hf⟩ := ob1_d hf
    refine zwvV (q := (RX5, TX5, 17)) (As := [.int (-9 : Int32)]) (rest := []) (u := u2) (wn := (zW_5 cy h0 u2)) ⟨hx, hb, hml, hown, hts⟩ (kX5_layIn l dC dI cy h0 w0 (-9 : Int32) H.size u2 hq1) mw_86 mw_87 mw_88 mw_6 mw_89 hdX5_layIn rfl rfl ⟨Nat.le_of_ble_eq_true rfl, Nat.le_of_ble_eq_true rfl⟩ hP hK hG hS 0 rfl rfl hD hA [0] [] [0] rfl rfl rfl rfl (by decide) rfl rfl rfl hl.1 rfl (Nat.le_of_ble_eq_true rfl) dX5_leaveBay_3 ⟨Nat.zero_le _, Nat.zero_le _⟩ (fun H locs hP hD hS => ?_)
    refine lv_aload_n hx hb dX5_leaveBay_6 rfl (lv_at hl 0 rfl) ?_
    refine lv_iconst (v := (0 : Int32)) hx hb dX5_leaveBay_7 (by decide) ?_
    refine zput hx hb hts hown hK hP hD hS hin_5 tyX5 tyX5_ok nmX5 0 rfl rfl 0 (by decide) mw_91 rfl (v := .int (0 : Int32)) rfl rfl (Nat.le_of_ble_eq_true rfl) (wn := (zW_5 cy h0 (ups u2 0 (0 : Int32)))) rfl dX5_leaveBay_8 (fun H locs hP hD hS => ?_)
    exact zretV hx hb hr hlocks hP hK hD hS hf rfl dX5_leaveBay_11
  exact kE s.heap [] hP hD hS
set_option maxHeartbeats 4000000 in
set_option maxRecDepth 100000 in
theorem kX5_windIn (l : Launch) (dC : Nat → ClassId) (dI : Nat → Nat → Nat) (cy : ClassId) (h0 : Nat) (w0 : Nat → Int32) (h1 : Nat → Nat) (w1 : Nat → Nat → Int32) (z : Int32) (hf : fX5_windIn w0 w1 = some z) : Met l yX5_windIn (wsM yX5_windIn cX5_windIn 2 (some .int)) ({ frames := 1, cells := 0, slots := 0, locals := 24 } : Room) (va_Pc [.ref h0, .ref (h1 0)] (pRO (dC, dI) vwCl [(cy, .int)] (zW_56 cy h0 w0 h1 w1))) (vp_Si (fun q => q = z)) 0 0 (fun _ => False) := by
  refine Met.ofW (cc := cX5_windIn) (maxL := 2) (ret := (some .int)) (by decide) rfl ?_
  intro p e s m args below meth c s₁ B hml hv
  obtain ⟨ha, hP, hK, hG⟩ := hv
  have hx := B.exec
  have hb := B.bytes
  have hr := B.returns
  have hts : ∀ w ∈ wsA, w.before args s = true := fun w h => atoms_spec (ws := wsM yX5_windIn cX5_windIn 2 (some .int)) B.pre w (List.mem_cons_of_mem _ h)
  have hown : s.vm.findClass RX5 = some m.cls := findClass_of_methodNamed B.named
  have hlocks := B.notSynchronized
  have hS : va_S (fun _ => False) s.heap s.heap [] := va_S.rf
  obtain ⟨ls, hl, he⟩ := zent (m := m) (n := 2) (L := [(0, .ref h0), (1, .ref (h1 0))]) ha (Nat.le_of_ble_eq_true rfl) rfl
  refine W.eq he ?_
  unfold fX5_windIn at hf
  have kE : W p l e ({ frames := 1, cells := 0, slots := 0, locals := 24 } : Room) s m args below meth c s.heap [] 0 0 (MQ below (vp_Si (fun q => q = z)) args s 0 0 (fun _ => False)) (F0 m 0 ls []) := by
    refine lv_aload_n hx hb dX5_windIn_0 rfl (lv_at hl 0 rfl) ?_
    refine zget hx hb hts hown hK hP hin_5 0 rfl rfl 9 (by decide) mw_100 (v := .int (w0 9)) rfl dX5_windIn_1 ?_
    refine lv_aload_n hx hb dX5_windIn_4 rfl (lv_at hl 0 rfl) ?_
    refine zget hx hb hts hown hK hP hin_5 0 rfl rfl 15 (by decide) mw_106 (v := .int (w0 15)) rfl dX5_windIn_5 ?_
    refine lv_icmp_lt (tgt := 18) hx hb dX5_windIn_8 (by decide) (fun hc => ?_) (fun hc => ?_)
    · have hf := it_t hc hf
      refine lv_aload_n hx hb dX5_windIn_18 rfl (lv_at hl 1 rfl) ?_
      refine zgetN hx hb hts hG hown hK hP hin_6 1 rfl rfl 1 (by decide) (host := "Embayed") (List.mem_of_getElem? (i := 30) rfl) (v := .ref (h1 3)) rfl dX5_windIn_19 ?_
      refine lv_aload_n hx hb dX5_windIn_22 rfl (lv_at hl 0 rfl) ?_
      refine zget hx hb hts hown hK hP hin_5 0 rfl rfl 9 (by decide) mw_100 (v := .int (w0 9)) rfl dX5_windIn_23 ?_
      obtain ⟨r2, hq1, hf⟩ := ob1_d hf
      refine zroV (q := (RX0, TX0, 3)) (As := [.int (w0 9)]) (rest := []) (r := r2) ⟨hx, hb, hml, hown, hts⟩ (kX0_latestAt l dC dI cy (sh 3 h1) (sh 3 w1) (w0 9) r2 hq1) mw_267 mw_268 mw_269 mw_5 mw_270 hdX0_latestAt rfl rfl ⟨Nat.le_of_ble_eq_true rfl, Nat.le_of_ble_eq_true rfl⟩ hP hK hG hS 4 rfl rfl [4, 5, 6] rfl rfl hl.1 rfl (Nat.le_of_ble_eq_true rfl) dX5_windIn_26 ⟨Nat.zero_le _, Nat.zero_le _⟩ ?_
      refine lv_aload_n hx hb dX5_windIn_29 rfl (lv_at hl 0 rfl) ?_
      refine zget hx hb hts hown hK hP hin_5 0 rfl rfl 14 (by decide) mw_105 (v := .int (w0 14)) rfl dX5_windIn_30 ?_
      refine lv_iadd hx hb dX5_windIn_33 ?_
      obtain ⟨r4, hq3, hf⟩ := ob1_d hf
      refine zroSN (As := [.int (r2 + (w0 14))]) (rest := []) (r := r4) ⟨hx, hb, hml, hown, hts⟩ (kX7_goneRound l dC dI cy (r2 + (w0 14)) r4 hq3) (List.mem_of_getElem? (i := 8) rfl) mw_271 mw_1 mw_272 hdX7_goneRound rfl rfl ⟨Nat.le_of_ble_eq_true rfl, Nat.le_of_ble_eq_true rfl⟩ hP hK hG hS [] rfl rfl hl.1 rfl (Nat.le_of_ble_eq_true rfl) dX5_windIn_34 ⟨Nat.zero_le _, Nat.zero_le _⟩ ?_
      exact zretR hx hb hr hlocks hf dX5_windIn_37
    · have hf := it_f hc hf
      refine lv_aload_n hx hb dX5_windIn_11 rfl (lv_at hl 0 rfl) ?_
      refine zget hx hb hts hown hK hP hin_5 0 rfl rfl 16 (by decide) mw_107 (v := .int (w0 16)) rfl dX5_windIn_12 ?_
      refine lv_goto (tgt := 37) hx hb dX5_windIn_15 (by decide) ?_
      exact zretR hx hb hr hlocks hf dX5_windIn_37
  exact kE
set_option maxHeartbeats 4000000 in
set_option maxRecDepth 100000 in
theorem kX5_tideIn (l : Launch) (dC : Nat → ClassId) (dI : Nat → Nat → Nat) (cy : ClassId) (h0 : Nat) (w0 : Nat → Int32) (h1 : Nat → Nat) (w1 : Nat → Nat → Int32) (z : Int32) (hf : fX5_tideIn w0 w1 = some z) : Met l yX5_tideIn (wsM yX5_tideIn cX5_tideIn 2 (some .int)) ({ frames := 1, cells := 0, slots := 0, locals := 24 } : Room) (va_Pc [.ref h0, .ref (h1 0)] (pRO (dC, dI) vwCl [(cy, .int)] (zW_56 cy h0 w0 h1 w1))) (vp_Si (fun q => q = z)) 0 0 (fun _ => False) := by
  refine Met.ofW (cc := cX5_tideIn) (maxL := 2) (ret := (some .int)) (by decide) rfl ?_
  intro p e s m args below meth c s₁ B hml hv
  obtain ⟨ha, hP, hK, hG⟩ := hv
  have hx := B.exec
  have hb := B.bytes
  have hr := B.returns
  have hts : ∀ w ∈ wsA, w.before args s = true := fun w h => atoms_spec (ws := wsM yX5_tideIn cX5_tideIn 2 (some .int)) B.pre w (List.mem_cons_of_mem _ h)
  have hown : s.vm.findClass RX5 = some m.cls := findClass_of_methodNamed B.named
  have hlocks := B.notSynchronized
  have hS : va_S (fun _ => False) s.heap s.heap [] := va_S.rf
  obtain ⟨ls, hl, he⟩ := zent (m := m) (n := 2) (L := [(0, .ref h0), (1, .ref (h1 0))]) ha (Nat.le_of_ble_eq_true rfl) rfl
  refine W.eq he ?_
  unfold fX5_tideIn at hf
  have kE : W p l e ({ frames := 1, cells := 0, slots := 0, locals := 24 } : Room) s m args below meth c s.heap [] 0 0 (MQ below (vp_Si (fun q => q = z)) args s 0 0 (fun _ => False)) (F0 m 0 ls []) := by
    refine lv_aload_n hx hb dX5_tideIn_0 rfl (lv_at hl 1 rfl) ?_
    refine zgetN hx hb hts hG hown hK hP hin_6 1 rfl rfl 2 (by decide) (host := "Embayed") (List.mem_of_getElem? (i := 32) rfl) (v := .ref (h1 6)) rfl dX5_tideIn_1 ?_
    refine lv_aload_n hx hb dX5_tideIn_4 rfl (lv_at hl 0 rfl) ?_
    refine zget hx hb hts hown hK hP hin_5 0 rfl rfl 9 (by decide) mw_100 (v := .int (w0 9)) rfl dX5_tideIn_5 ?_
    obtain ⟨r2, hq1, hf⟩ := ob1_d hf
    refine zroV (q := (RX0, TX0, 3)) (As := [.int (w0 9)]) (rest := []) (r := r2) ⟨hx, hb, hml, hown, hts⟩ (kX0_latestAt l dC dI cy (sh 6 h1) (sh 6 w1) (w0 9) r2 hq1) mw_267 mw_268 mw_269 mw_5 mw_270 hdX0_latestAt rfl rfl ⟨Nat.le_of_ble_eq_true rfl, Nat.le_of_ble_eq_true rfl⟩ hP hK hG hS 7 rfl rfl [7, 8, 9] rfl rfl hl.1 rfl (Nat.le_of_ble_eq_true rfl) dX5_tideIn_8 ⟨Nat.zero_le _, Nat.zero_le _⟩ ?_
    exact zretR hx hb hr hlocks hf dX5_tideIn_11
  exact kE
set_option maxHeartbeats 4000000 in
set_option maxRecDepth 100000 in
theorem kX5_livesIn (l : Launch) (dC : Nat → ClassId) (dI : Nat → Nat → Nat) (cy : ClassId) (h0 : Nat) (w0 : Nat → Int32) (h1 : Nat → Nat) (w1 : Nat → Nat → Int32) (z : Int32) (hf : fX5_livesIn w0 w1 = some z) : Met l yX5_livesIn (wsM yX5_livesIn cX5_livesIn 3 (some .int)) ({ frames := 2, cells := 0, slots := 0, locals := 44 } : Room) (va_Pc [.ref h0, .ref (h1 0)] (pRO (dC, dI) vwCl [(cy, .int)] (zW_56 cy h0 w0 h1 w1))) (vp_Si (fun q => q = z)) 0 0 (fun _ => False) := by
  refine Met.ofW (cc := cX5_livesIn) (maxL := 3) (ret := (some .int)) (by decide) rfl ?_
  intro p e s m args below meth c s₁ B hml hv
  obtain ⟨ha, hP, hK, hG⟩ := hv
  have hx := B.exec
  have hb := B.bytes
  have hr := B.returns
  have hts : ∀ w ∈ wsA, w.before args s = true := fun w h => atoms_spec (ws := wsM yX5_livesIn cX5_livesIn 3 (some .int)) B.pre w (List.mem_cons_of_mem _ h)
  have hown : s.vm.findClass RX5 = some m.cls := findClass_of_methodNamed B.named
  have hlocks := B.notSynchronized
  have hS : va_S (fun _ => False) s.heap s.heap [] := va_S.rf
  obtain ⟨ls, hl, he⟩ := zent (m := m) (n := 3) (L := [(0, .ref h0), (1, .ref (h1 0))]) ha (Nat.le_of_ble_eq_true rfl) rfl
  refine W.eq he ?_
  unfold fX5_livesIn at hf
  have kE : W p l e ({ frames := 2, cells := 0, slots := 0, locals := 44 } : Room) s m args below meth c s.heap [] 0 0 (MQ below (vp_Si (fun q => q = z)) args s 0 0 (fun _ => False)) (F0 m 0 ls []) := by
    refine lv_aload_n hx hb dX5_livesIn_0 rfl (lv_at hl 1 rfl) ?_
    refine zgetN hx hb hts hG hown hK hP hin_6 1 rfl rfl 6 (by decide) (host := "Embayed") (List.mem_of_getElem? (i := 36) rfl) (v := .int (w1 0 6)) rfl dX5_livesIn_1 ?_
    refine lv_istore_n (lv' := [(2, .int (w1 0 6)), (0, .ref h0), (1, .ref (h1 0))]) hx hb dX5_livesIn_4 rfl hl (by decide) rfl (fun ls hl => ?_)
    refine lv_aload_n hx hb dX5_livesIn_5 rfl (lv_at hl 1 rfl) ?_
    refine zget hx hb hts hown hK hP hin_5 0 rfl rfl 10 (by decide) mw_101 (v := .int (w0 10)) rfl dX5_livesIn_6 ?_
    by_cases hsw5 : (w0 10) = (5 : Int32)
    · have hf := it_t hsw5 hf
      refine lv_tableIn (tgt := 36) (off := 27) hx hb dX5_livesIn_9 (by rw [hsw5]; decide) (by rw [hsw5]; decide) (by rw [hsw5]; rfl) (by decide) ?_
      refine lv_aload_n hx hb dX5_livesIn_36 rfl (lv_at hl 2 rfl) ?_
      refine lv_aload_n hx hb dX5_livesIn_37 rfl (lv_at hl 1 rfl) ?_
      refine zget hx hb hts hown hK hP hin_5 0 rfl rfl 11 (by decide) mw_102 (v := .int (w0 11)) rfl dX5_livesIn_38 ?_
      refine lv_aload_n hx hb dX5_livesIn_41 rfl (lv_at hl 1 rfl) ?_
      refine zget hx hb hts hown hK hP hin_5 0 rfl rfl 12 (by decide) mw_103 (v := .int (w0 12)) rfl dX5_livesIn_42 ?_
      obtain ⟨r2, hq1, hf⟩ := ob1_d hf
      refine zroV (q := (RX6, TX6, 10)) (As := [.int (w0 11), .int (w0 12)]) (rest := []) (r := r2) ⟨hx, hb, hml, hown, hts⟩ (kX6_livesOnBeach l dC dI cy h1 w1 (w0 11) (w0 12) r2 hq1) mw_289 mw_290 mw_291 mw_3 mw_292 hdX6_livesOnBeach rfl rfl ⟨Nat.le_of_ble_eq_true rfl, Nat.le_of_ble_eq_true rfl⟩ hP hK hG hS 1 rfl rfl [1, 2, 3, 4, 5, 6, 7, 8, 9] rfl rfl hl.1 rfl (Nat.le_of_ble_eq_true rfl) dX5_livesIn_45 ⟨Nat.zero_le _, Nat.zero_le _⟩ ?_
      exact zretR hx hb hr hlocks hf dX5_livesIn_48
    · have hf := it_f hsw5 hf
      by_cases hsw6 : (w0 10) = (6 : Int32)
      · have hf := it_t hsw6 hf
        refine lv_tableIn (tgt := 49) (off := 40) hx hb dX5_livesIn_9 (by rw [hsw6]; decide) (by rw [hsw6]; decide) (by rw [hsw6]; rfl) (by decide) ?_
        refine lv_iload_n hx hb dX5_livesIn_49 rfl (lv_at hl 0 rfl) ?_
        refine lv_aload_n hx hb dX5_livesIn_50 rfl (lv_at hl 1 rfl) ?_
        refine zget hx hb hts hown hK hP hin_5 0 rfl rfl 12 (by decide) mw_103 (v := .int (w0 12)) rfl dX5_livesIn_51 ?_
        refine lv_if_eq (tgt := 62) hx hb dX5_livesIn_54 (by decide) (fun hc => ?_) (fun hc => ?_)
        · have hf := it_t hc hf
          refine lv_bipush (v := (40 : Int32)) hx hb dX5_livesIn_62 (by decide) ?_
          refine lv_imul hx hb dX5_livesIn_64 ?_
          refine lv_bipush (v := (100 : Int32)) hx hb dX5_livesIn_65 (by decide) ?_
          refine lv_idiv hx hb dX5_livesIn_67 (by decide) ?_
          exact zretR hx hb hr hlocks hf dX5_livesIn_68
        · have hf := it_f hc hf
          refine lv_bipush (v := (10 : Int32)) hx hb dX5_livesIn_57 (by decide) ?_
          refine lv_goto (tgt := 64) hx hb dX5_livesIn_59 (by decide) ?_
          refine lv_imul hx hb dX5_livesIn_64 ?_
          refine lv_bipush (v := (100 : Int32)) hx hb dX5_livesIn_65 (by decide) ?_
          refine lv_idiv hx hb dX5_livesIn_67 (by decide) ?_
          exact zretR hx hb hr hlocks hf dX5_livesIn_68
      · have hf := it_f hsw6 hf
        by_cases hsw7 : (w0 10) = (7 : Int32)
        · have hf := it_t hsw7 hf
          refine lv_tableIn (tgt := 69) (off := 60) hx hb dX5_livesIn_9 (by rw [hsw7]; decide) (by rw [hsw7]; decide) (by rw [hsw7]; rfl) (by decide) ?_
          refine lv_iconst (v := (0 : Int32)) hx hb dX5_livesIn_69 (by decide) ?_
          exact zretR hx hb hr hlocks hf dX5_livesIn_70
        · have hf := it_f hsw7 hf
          refine lv_tableOut (tgt := 71) hx hb dX5_livesIn_9 (tsw_out (fun n h1 h2 => ?_)) (by decide) ?_
          · rcases (show n = 5 ∨ n = 6 ∨ n = 7 by omega) with rfl | rfl | rfl
            · exact ti_ne hsw5 rfl
            · exact ti_ne hsw6 rfl
            · exact ti_ne hsw7 rfl
          · refine lv_iload_n hx hb dX5_livesIn_71 rfl (lv_at hl 0 rfl) ?_
            exact zretR hx hb hr hlocks hf dX5_livesIn_72
  exact kE
set_option maxHeartbeats 4000000 in
set_option maxRecDepth 100000 in
theorem kX5_isEnded (l : Launch) (dC : Nat → ClassId) (dI : Nat → Nat → Nat) (cy : ClassId) (h0 : Nat) (w0 : Nat → Int32) (z : Int32) (hf : fX5_isEnded w0 = some z) : Met l yX5_isEnded (wsM yX5_isEnded cX5_isEnded 1 (some .boolean)) ({ frames := 0, cells := 0, slots := 0, locals := 0 } : Room) (va_Pc [.ref h0] (pRO (dC, dI) vwCl [(cy, .int)] (zW_5 cy h0 w0))) (vp_Si (fun q => q = z)) 0 0 (fun _ => False) := by
  refine Met.ofW (cc := cX5_isEnded) (maxL := 1) (ret := (some .boolean)) (by decide) rfl ?_
  intro p e s m args below meth c s₁ B hml hv
  obtain ⟨ha, hP, hK, hG⟩ := hv
  have hx := B.exec
  have hb := B.bytes
  have hr := B.returns
  have hts : ∀ w ∈ wsA, w.before args s = true := fun w h => atoms_spec (ws := wsM yX5_isEnded cX5_isEnded 1 (some .boolean)) B.pre w (List.mem_cons_of_mem _ h)
  have hown : s.vm.findClass RX5 = some m.cls := findClass_of_methodNamed B.named
  have hlocks := B.notSynchronized
  have hS : va_S (fun _ => False) s.heap s.heap [] := va_S.rf
  obtain ⟨ls, hl, he⟩ := zent (m := m) (n := 1) (L := [(0, .ref h0)]) ha (Nat.le_of_ble_eq_true rfl) rfl
  refine W.eq he ?_
  unfold fX5_isEnded at hf
  have kE : W p l e ({ frames := 0, cells := 0, slots := 0, locals := 0 } : Room) s m args below meth c s.heap [] 0 0 (MQ below (vp_Si (fun q => q = z)) args s 0 0 (fun _ => False)) (F0 m 0 ls []) := by
    refine lv_aload_n hx hb dX5_isEnded_0 rfl (lv_at hl 0 rfl) ?_
    refine zget hx hb hts hown hK hP hin_5 0 rfl rfl 10 (by decide) mw_101 (v := .int (w0 10)) rfl dX5_isEnded_1 ?_
    refine lv_iconst (v := (5 : Int32)) hx hb dX5_isEnded_4 (by decide) ?_
    refine lv_icmp_eq (tgt := 35) hx hb dX5_isEnded_5 (by decide) (fun hc => ?_) (fun hc => ?_)
    · have hf := it_t hc hf
      refine lv_iconst (v := (1 : Int32)) hx hb dX5_isEnded_35 (by decide) ?_
      refine lv_goto (tgt := 40) hx hb dX5_isEnded_36 (by decide) ?_
      exact zretRZ hx hb hr hlocks rfl hf dX5_isEnded_40
    · have hf := it_f hc hf
      refine lv_aload_n hx hb dX5_isEnded_8 rfl (lv_at hl 0 rfl) ?_
      refine zget hx hb hts hown hK hP hin_5 0 rfl rfl 10 (by decide) mw_101 (v := .int (w0 10)) rfl dX5_isEnded_9 ?_
      refine lv_bipush (v := (6 : Int32)) hx hb dX5_isEnded_12 (by decide) ?_
      refine lv_icmp_eq (tgt := 35) hx hb dX5_isEnded_14 (by decide) (fun hc => ?_) (fun hc => ?_)
      · have hf := it_t hc hf
        refine lv_iconst (v := (1 : Int32)) hx hb dX5_isEnded_35 (by decide) ?_
        refine lv_goto (tgt := 40) hx hb dX5_isEnded_36 (by decide) ?_
        exact zretRZ hx hb hr hlocks rfl hf dX5_isEnded_40
      · have hf := it_f hc hf
        refine lv_aload_n hx hb dX5_isEnded_17 rfl (lv_at hl 0 rfl) ?_
        refine zget hx hb hts hown hK hP hin_5 0 rfl rfl 10 (by decide) mw_101 (v := .int (w0 10)) rfl dX5_isEnded_18 ?_
        refine lv_bipush (v := (7 : Int32)) hx hb dX5_isEnded_21 (by decide) ?_
        refine lv_icmp_eq (tgt := 35) hx hb dX5_isEnded_23 (by decide) (fun hc => ?_) (fun hc => ?_)
        · have hf := it_t hc hf
          refine lv_iconst (v := (1 : Int32)) hx hb dX5_isEnded_35 (by decide) ?_
          refine lv_goto (tgt := 40) hx hb dX5_isEnded_36 (by decide) ?_
          exact zretRZ hx hb hr hlocks rfl hf dX5_isEnded_40
        · have hf := it_f hc hf
          refine lv_aload_n hx hb dX5_isEnded_26 rfl (lv_at hl 0 rfl) ?_
          refine zget hx hb hts hown hK hP hin_5 0 rfl rfl 10 (by decide) mw_101 (v := .int (w0 10)) rfl dX5_isEnded_27 ?_
          refine lv_bipush (v := (8 : Int32)) hx hb dX5_isEnded_30 (by decide) ?_
          refine lv_icmp_ne (tgt := 39) hx hb dX5_isEnded_32 (by decide) (fun hc => ?_) (fun hc => ?_)
          · have hf := it_f hc hf
            refine lv_iconst (v := (0 : Int32)) hx hb dX5_isEnded_39 (by decide) ?_
            exact zretRZ hx hb hr hlocks rfl hf dX5_isEnded_40
          · have hf := it_t hc hf
            refine lv_iconst (v := (1 : Int32)) hx hb dX5_isEnded_35 (by decide) ?_
            refine lv_goto (tgt := 40) hx hb dX5_isEnded_36 (by decide) ?_
            exact zretRZ hx hb hr hlocks rfl hf dX5_isEnded_40
  exact kE
set_option maxHeartbeats 4000000 in
set_option maxRecDepth 100000 in
theorem kX5_paceIn (l : Launch) (dC : Nat → ClassId) (dI : Nat → Nat → Nat) (cy : ClassId) (h0 : Nat) (w0 : Nat → Int32) (h1 : Nat → Nat) (w1 : Nat → Nat → Int32) (z : Int32) (hf : fX5_paceIn w0 w1 = some z) : Met l yX5_paceIn (wsM yX5_paceIn cX5_paceIn 3 (some .int)) ({ frames := 2, cells := 0, slots := 0, locals := 45 } : Room) (va_Pc [.ref h0, .ref (h1 0)] (pRO (dC, dI) vwCl [(cy, .int)] (zW_56 cy h0 w0 h1 w1))) (vp_Si (fun q => q = z)) 0 0 (fun _ => False) := by
  refine Met.ofW (cc := cX5_paceIn) (maxL := 3) (ret := (some .int)) (by decide) rfl ?_
  intro p e s m args below meth c s₁ B hml hv
  obtain ⟨ha, hP, hK, hG⟩ := hv
  have hx := B.exec
  have hb := B.bytes
  have hr := B.returns
  have hts : ∀ w ∈ wsA, w.before args s = true := fun w h => atoms_spec (ws := wsM yX5_paceIn cX5_paceIn 3 (some .int)) B.pre w (List.mem_cons_of_mem _ h)
  have hown : s.vm.findClass RX5 = some m.cls := findClass_of_methodNamed B.named
  have hlocks := B.notSynchronized
  have hS : va_S (fun _ => False) s.heap s.heap [] := va_S.rf
  obtain ⟨ls, hl, he⟩ := zent (m := m) (n := 3) (L := [(0, .ref h0), (1, .ref (h1 0))]) ha (Nat.le_of_ble_eq_true rfl) rfl
  refine W.eq he ?_
  unfold fX5_paceIn at hf
  have kE : W p l e ({ frames := 2, cells := 0, slots := 0, locals := 45 } : Room) s m args below meth c s.heap [] 0 0 (MQ below (vp_Si (fun q => q = z)) args s 0 0 (fun _ => False)) (F0 m 0 ls []) := by
    refine lv_aload_n hx hb dX5_paceIn_0 rfl (lv_at hl 0 rfl) ?_
    refine zget hx hb hts hown hK hP hin_5 0 rfl rfl 2 (by decide) mw_93 (v := .int (w0 2)) rfl dX5_paceIn_1 ?_
    refine lv_aload_n hx hb dX5_paceIn_4 rfl (lv_at hl 0 rfl) ?_
    refine lv_aload_n hx hb dX5_paceIn_5 rfl (lv_at hl 1 rfl) ?_
    obtain ⟨r2, hq1, hf⟩ := ob1_d hf
    refine zroV (q := (RX5, TX5, 17)) (As := [.ref (h1 0)]) (rest := [.int (w0 2)]) (r := r2) ⟨hx, hb, hml, hown, hts⟩ (kX5_windIn l dC dI cy h0 w0 h1 w1 r2 hq1) mw_315 mw_264 mw_265 mw_6 mw_266 hdX5_windIn rfl rfl ⟨Nat.le_of_ble_eq_true rfl, Nat.le_of_ble_eq_true rfl⟩ hP hK hG hS 0 rfl rfl [0, 1, 2, 3, 4, 5, 6, 7, 8, 9] rfl rfl hl.1 rfl (Nat.le_of_ble_eq_true rfl) dX5_paceIn_6 ⟨Nat.zero_le _, Nat.zero_le _⟩ ?_
    obtain ⟨r4, hq3, hf⟩ := ob1_d hf
    refine zroSN (As := [.int (w0 2), .int r2]) (rest := []) (r := r4) ⟨hx, hb, hml, hown, hts⟩ (kX7_apart l dC dI cy (w0 2) r2 r4 hq3) (List.mem_of_getElem? (i := 9) rfl) mw_316 mw_1 mw_317 hdX7_apart rfl rfl ⟨Nat.le_of_ble_eq_true rfl, Nat.le_of_ble_eq_true rfl⟩ hP hK hG hS [] rfl rfl hl.1 rfl (Nat.le_of_ble_eq_true rfl) dX5_paceIn_9 ⟨Nat.zero_le _, Nat.zero_le _⟩ ?_
    refine lv_istore_n (lv' := [(2, .int r4), (0, .ref h0), (1, .ref (h1 0))]) hx hb dX5_paceIn_12 rfl hl (by decide) rfl (fun ls hl => ?_)
    refine lv_iload_n hx hb dX5_paceIn_13 rfl (lv_at hl 0 rfl) ?_
    refine lv_aload_n hx hb dX5_paceIn_14 rfl (lv_at hl 2 rfl) ?_
    refine zgetN hx hb hts hG hown hK hP hin_6 1 rfl rfl 7 (by decide) (host := "Embayed") (List.mem_of_getElem? (i := 39) rfl) (v := .int (w1 0 7)) rfl dX5_paceIn_15 ?_
    refine lv_icmp_ge (tgt := 25) hx hb dX5_paceIn_18 (by decide) (fun hc => ?_) (fun hc => ?_)
    · have hf := it_t hc hf
      refine lv_aload_n hx hb dX5_paceIn_25 rfl (lv_at hl 1 rfl) ?_
      refine zget hx hb hts hown hK hP hin_5 0 rfl rfl 3 (by decide) mw_94 (v := .int (w0 3)) rfl dX5_paceIn_26 ?_
      refine lv_aload_n hx hb dX5_paceIn_29 rfl (lv_at hl 1 rfl) ?_
      refine zget hx hb hts hown hK hP hin_5 0 rfl rfl 4 (by decide) mw_95 (v := .int (w0 4)) rfl dX5_paceIn_30 ?_
      refine z_mmin hx hb hml hl.1 hts hown mw_319 (Nat.le_of_ble_eq_true rfl) (Nat.le_of_ble_eq_true rfl) (Nat.zero_le _) (Nat.zero_le _) dX5_paceIn_33 ?_
      refine lv_iload_n hx hb dX5_paceIn_36 rfl (lv_at hl 0 rfl) ?_
      refine lv_iconst (v := (1 : Int32)) hx hb dX5_paceIn_37 (by decide) ?_
      refine lv_iadd hx hb dX5_paceIn_38 ?_
      refine lv_imul hx hb dX5_paceIn_39 ?_
      exact zretR hx hb hr hlocks hf dX5_paceIn_40
    · have hf := it_f hc hf
      refine lv_iconst (v := (0 : Int32)) hx hb dX5_paceIn_21 (by decide) ?_
      refine lv_goto (tgt := 40) hx hb dX5_paceIn_22 (by decide) ?_
      exact zretR hx hb hr hlocks hf dX5_paceIn_40
  exact kE
set_option maxHeartbeats 4000000 in
set_option maxRecDepth 100000 in
theorem kX5_endAs (l : Launch) (dC : Nat → ClassId) (dI : Nat → Nat → Nat) (cy : ClassId) (h0 : Nat) (w0 : Nat → Int32) (x1 : Int32) (x2 : Int32) (x3 : Int32) (sz : Nat) (z : (Nat → Int32)) (hf : fX5_endAs w0 x1 x2 x3 = some z) : Met l yX5_endAs (wsM yX5_endAs cX5_endAs 4 none) ({ frames := 0, cells := 0, slots := 0, locals := 0 } : Room) (va_Pc [.ref h0, .int x1, .int x2, .int x3] (pWR (dC, dI) vwCl [(cy, .int)] (zW_5 cy h0 w0) sz)) (va_Qv (fun (v : (Nat → Int32)) => v = z) (fun v => aWR (dC, dI) vwCl [(cy, .int)] (va_A (zW_5 cy h0 w0) sz) (zW_5 cy h0 v)) (va_A (zW_5 cy h0 w0) sz)) 0 0 (va_A (zW_5 cy h0 w0) sz) := by
  refine Met.ofW (cc := cX5_endAs) (maxL := 4) (ret := none) (by decide) rfl ?_
  intro p e s m args below meth c s₁ B hml hv
  obtain ⟨ha, hsz, hP, hK, hD0, hG⟩ := hv
  have hx := B.exec
  have hb := B.bytes
  have hr := B.returns
  have hts : ∀ w ∈ wsA, w.before args s = true := fun w h => atoms_spec (ws := wsM yX5_endAs cX5_endAs 4 none) B.pre w (List.mem_cons_of_mem _ h)
  have hown : s.vm.findClass RX5 = some m.cls := findClass_of_methodNamed B.named
  have hlocks := B.notSynchronized
  subst hsz
  have hD := hD0.self (sz := s.heap.size)
  generalize hAe : va_A (zW_5 cy h0 w0) s.heap.size = A at hD hG ⊢
  have hA : ∀ q : Nat, s.heap.size ≤ q → A q := fun q h => by rw [← hAe]; exact Or.inr h
  have hS : va_S A s.heap s.heap [] := va_S.rf
  have hP : va_P (dC, dI) vwCl (zW_5 cy h0 w0) s.heap := hP
  have hD : va_D A (zW_5 cy h0 w0) := hD
  obtain ⟨ls, hl, he⟩ := zent (m := m) (n := 4) (L := [(0, .ref h0), (1, .int x1), (2, .int x2), (3, .int x3)]) ha (Nat.le_of_ble_eq_true rfl) rfl
  refine W.eq he ?_
  unfold fX5_endAs at hf
  have kE : ∀ (H : Heap) (locs : List Loc), va_P (dC, dI) vwCl (zW_5 cy h0 w0) H → va_D A (zW_5 cy h0 w0) → va_S A s.heap H locs → W p l e ({ frames := 0, cells := 0, slots := 0, locals := 0 } : Room) s m args below meth c H locs 0 0 (MQ below (va_Qv (fun (v : (Nat → Int32)) => v = z) (fun v => aWR (dC, dI) vwCl [(cy, .int)] A (zW_5 cy h0 v)) A) args s 0 0 A) (F0 m 0 ls []) := by
    intro H locs hP hD hS
    refine lv_aload_n hx hb dX5_endAs_0 rfl (lv_at hl 0 rfl) ?_
    refine lv_iload_n hx hb dX5_endAs_1 rfl (lv_at hl 1 rfl) ?_
    refine zput hx hb hts hown hK hP hD hS hin_5 tyX5 tyX5_ok nmX5 0 rfl rfl 10 (by decide) mw_101 rfl (v := .int x1) rfl rfl (Nat.le_of_ble_eq_true rfl) (wn := (zW_5 cy h0 (ups w0 10 x1))) rfl dX5_endAs_2 (fun H locs hP hD hS => ?_)
    refine lv_aload_n hx hb dX5_endAs_5 rfl (lv_at hl 0 rfl) ?_
    refine lv_iload_n hx hb dX5_endAs_6 rfl (lv_at hl 2 rfl) ?_
    refine zput hx hb hts hown hK hP hD hS hin_5 tyX5 tyX5_ok nmX5 0 rfl rfl 11 (by decide) mw_102 rfl (v := .int x2) rfl rfl (Nat.le_of_ble_eq_true rfl) (wn := (zW_5 cy h0 (ups (ups w0 10 x1) 11 x2))) rfl dX5_endAs_7 (fun H locs hP hD hS => ?_)
    refine lv_aload_n hx hb dX5_endAs_10 rfl (lv_at hl 0 rfl) ?_
    refine lv_iload_n hx hb dX5_endAs_11 rfl (lv_at hl 3 rfl) ?_
    obtain ⟨hz1, hf⟩ := gz_d hf
    refine zput hx hb hts hown hK hP hD hS hin_5 tyX5 tyX5_ok nmX5 0 rfl rfl 12 (by decide) mw_103 rfl (v := .int x3) (gz_n hz1) (gz_f hz1) (Nat.le_of_ble_eq_true rfl) (wn := (zW_5 cy h0 (ups (ups (ups w0 10 x1) 11 x2) 12 x3))) rfl dX5_endAs_12 (fun H locs hP hD hS => ?_)
    exact zretV hx hb hr hlocks hP hK hD hS hf rfl dX5_endAs_15
  exact kE s.heap [] hP hD hS
set_option maxHeartbeats 4000000 in
set_option maxRecDepth 100000 in
theorem kX5_goInto (l : Launch) (dC : Nat → ClassId) (dI : Nat → Nat → Nat) (cy : ClassId) (h0 : Nat) (w0 : Nat → Int32) (h1 : Nat → Nat) (w1 : Nat → Nat → Int32) (x2 : Int32) (sz : Nat) (z : (Nat → Int32)) (hf : fX5_goInto w0 w1 x2 = some z) : Met l yX5_goInto (wsM yX5_goInto cX5_goInto 6 none) ({ frames := 2, cells := 0, slots := 0, locals := 45 } : Room) (va_Pc [.ref h0, .ref (h1 0), .int x2] (pWR (dC, dI) vwCl [(cy, .int)] (zW_56 cy h0 w0 h1 w1) sz)) (va_Qv (fun (v : (Nat → Int32)) => v = z) (fun v => aWR (dC, dI) vwCl [(cy, .int)] (va_A (zW_56 cy h0 w0 h1 w1) sz) (zW_56 cy h0 v h1 w1)) (va_A (zW_56 cy h0 w0 h1 w1) sz)) 0 0 (va_A (zW_56 cy h0 w0 h1 w1) sz) := by
  refine Met.ofW (cc := cX5_goInto) (maxL := 6) (ret := none) (by decide) rfl ?_
  intro p e s m args below meth c s₁ B hml hv
  obtain ⟨ha, hsz, hP, hK, hD0, hG⟩ := hv
  have hx := B.exec
  have hb := B.bytes
  have hr := B.returns
  have hts : ∀ w ∈ wsA, w.before args s = true := fun w h => atoms_spec (ws := wsM yX5_goInto cX5_goInto 6 none) B.pre w (List.mem_cons_of_mem _ h)
  have hown : s.vm.findClass RX5 = some m.cls := findClass_of_methodNamed B.named
  have hlocks := B.notSynchronized
  subst hsz
  have hD := hD0.self (sz := s.heap.size)
  generalize hAe : va_A (zW_56 cy h0 w0 h1 w1) s.heap.size = A at hD hG ⊢
  have hA : ∀ q : Nat, s.heap.size ≤ q → A q := fun q h => by rw [← hAe]; exact Or.inr h
  have hS : va_S A s.heap s.heap [] := va_S.rf
  have hP : va_P (dC, dI) vwCl (zW_56 cy h0 w0 h1 w1) s.heap := hP
  have hD : va_D A (zW_56 cy h0 w0 h1 w1) := hD
  have k117 : ∀ (c0_0 : (Nat → Int32)) (x5 : Int32) (H : Heap) (locs : List Loc) (ls : Array Slot), va_P (dC, dI) vwCl (zW_56 cy h0 c0_0 h1 w1) H → va_D A (zW_56 cy h0 c0_0 h1 w1) → va_S A s.heap H locs → lv_has ls 6 [(0, .ref h0), (1, .ref (h1 0)), (5, .int x5)] → (fX5_goInto_117 w1) c0_0 x5 = some z → W p l e ({ frames := 2, cells := 0, slots := 0, locals := 45 } : Room) s m args below meth c H locs 0 0 (MQ below (va_Qv (fun (v : (Nat → Int32)) => v = z) (fun v => aWR (dC, dI) vwCl [(cy, .int)] A (zW_56 cy h0 v h1 w1)) A) args s 0 0 A) (F0 m 117 ls []) := by
    intro c0_0 x5 H locs ls hP hD hS hl hf
    unfold fX5_goInto_117 at hf
    refine lv_aload_n hx hb dX5_goInto_117 rfl (lv_at hl 0 rfl) ?_
    refine lv_bipush (v := (6 : Int32)) hx hb dX5_goInto_118 (by decide) ?_
    refine lv_iload hx hb dX5_goInto_120 (lv_at hl 2 rfl) ?_
    refine lv_aload_n hx hb dX5_goInto_122 rfl (lv_at hl 1 rfl) ?_
    refine lv_aload_n hx hb dX5_goInto_123 rfl (lv_at hl 0 rfl) ?_
    refine zget hx hb hts hown hK hP hin_5 0 rfl rfl 9 (by decide) mw_100 (v := .int (c0_0 9)) rfl dX5_goInto_124 ?_
    obtain ⟨r8, hq7, hf⟩ := ob1_d hf
    refine zroV (q := (RX6, TX6, 10)) (As := [.int (c0_0 9)]) (rest := [.int x5, .int (6 : Int32), .ref h0]) (r := r8) ⟨hx, hb, hml, hown, hts⟩ (kX6_isDarkAt l dC dI cy h1 w1 (c0_0 9) r8 hq7) mw_337 mw_338 mw_339 mw_3 mw_340 hdX6_isDarkAt rfl rfl ⟨Nat.le_of_ble_eq_true rfl, Nat.le_of_ble_eq_true rfl⟩ hP hK hG hS 1 rfl rfl [1, 2, 3, 4, 5, 6, 7, 8, 9] rfl rfl hl.1 rfl (Nat.le_of_ble_eq_true rfl) dX5_goInto_127 ⟨Nat.zero_le _, Nat.zero_le _⟩ ?_
    obtain ⟨u10, hq9, hf⟩ := ob1_d hf
    refine zwvV (q := (RX5, TX5, 17)) (As := [.int (6 : Int32), .int x5, .int r8]) (rest := []) (u := u10) (wn := (zW_56 cy h0 u10 h1 w1)) ⟨hx, hb, hml, hown, hts⟩ (kX5_endAs l dC dI cy h0 c0_0 (6 : Int32) x5 r8 H.size u10 hq9) mw_341 mw_342 mw_887 mw_6 mw_343 hdX5_endAs rfl rfl ⟨Nat.le_of_ble_eq_true rfl, Nat.le_of_ble_eq_true rfl⟩ hP hK hG hS 0 rfl rfl hD hA [0] [1, 2, 3, 4, 5, 6, 7, 8, 9] [9, 0, 1, 2, 3, 4, 5, 6, 7, 8] rfl rfl rfl rfl (by decide) rfl rfl rfl hl.1 rfl (Nat.le_of_ble_eq_true rfl) dX5_goInto_130 ⟨Nat.zero_le _, Nat.zero_le _⟩ (fun H locs hP hD hS => ?_)
    exact zretV hx hb hr hlocks hP hK hD hS hf rfl dX5_goInto_133
  have k48 : ∀ (c0_0 : (Nat → Int32)) (x3 : Int32) (x4 : Int32) (x5 : Int32) (t1 : Int32) (H : Heap) (locs : List Loc) (ls : Array Slot), va_P (dC, dI) vwCl (zW_56 cy h0 c0_0 h1 w1) H → va_D A (zW_56 cy h0 c0_0 h1 w1) → va_S A s.heap H locs → lv_has ls 6 [(0, .ref h0), (1, .ref (h1 0)), (3, .int x3), (4, .int x4), (5, .int x5)] → (fX5_goInto_48 w1) c0_0 x3 x4 x5 t1 = some z → W p l e ({ frames := 2, cells := 0, slots := 0, locals := 45 } : Room) s m args below meth c H locs 0 0 (MQ below (va_Qv (fun (v : (Nat → Int32)) => v = z) (fun v => aWR (dC, dI) vwCl [(cy, .int)] A (zW_56 cy h0 v h1 w1)) A) args s 0 0 A) (F0 m 48 ls [.int t1, .ref h0]) := by
    intro c0_0 x3 x4 x5 t1 H locs ls hP hD hS hl hf
    unfold fX5_goInto_48 at hf
    refine zput hx hb hts hown hK hP hD hS hin_5 tyX5 tyX5_ok nmX5 0 rfl rfl 1 (by decide) mw_92 rfl (v := .int t1) rfl rfl (Nat.le_of_ble_eq_true rfl) (wn := (zW_56 cy h0 (ups c0_0 1 t1) h1 w1)) rfl dX5_goInto_48 (fun H locs hP hD hS => ?_)
    refine lv_iload_n hx hb dX5_goInto_51 rfl (lv_at hl 2 rfl) ?_
    refine lv_iconst (v := (-1 : Int32)) hx hb dX5_goInto_52 (by decide) ?_
    refine lv_icmp_ne (tgt := 75) hx hb dX5_goInto_53 (by decide) (fun hc => ?_) (fun hc => ?_)
    · have hf := it_f hc hf
      refine lv_iload hx hb dX5_goInto_75 (lv_at hl 3 rfl) ?_
      refine lv_bipush (v := (30 : Int32)) hx hb dX5_goInto_77 (by decide) ?_
      refine lv_icmp_ne (tgt := 100) hx hb dX5_goInto_79 (by decide) (fun hc => ?_) (fun hc => ?_)
      · have hf := it_f hc hf
        refine lv_iload hx hb dX5_goInto_100 (lv_at hl 3 rfl) ?_
        refine lv_if_eq (tgt := 117) hx hb dX5_goInto_102 (by decide) (fun hc => ?_) (fun hc => ?_)
        · have hf := it_t hc hf
          exact k117 (ups c0_0 1 t1) x5 H locs ls hP hD hS (lv_sub hl [0, 1, 4] rfl) hf
        · have hf := it_f hc hf
          refine lv_iload hx hb dX5_goInto_105 (lv_at hl 3 rfl) ?_
          refine lv_iload hx hb dX5_goInto_107 (lv_at hl 4 rfl) ?_
          refine lv_iadd hx hb dX5_goInto_109 ?_
          refine lv_aload_n hx hb dX5_goInto_110 rfl (lv_at hl 1 rfl) ?_
          refine zgetN hx hb hts hG hown hK hP hin_6 1 rfl rfl 4 (by decide) (host := "Embayed") (List.mem_of_getElem? (i := 34) rfl) (v := .int (w1 0 4)) rfl dX5_goInto_111 ?_
          refine lv_icmp_ge (tgt := 133) hx hb dX5_goInto_114 (by decide) (fun hc => ?_) (fun hc => ?_)
          · have hf := it_t hc hf
            exact zretV hx hb hr hlocks hP hK hD hS hf rfl dX5_goInto_133
          · have hf := it_f hc hf
            exact k117 (ups c0_0 1 t1) x5 H locs ls hP hD hS (lv_sub hl [0, 1, 4] rfl) hf
      · have hf := it_t hc hf
        refine lv_aload_n hx hb dX5_goInto_82 rfl (lv_at hl 0 rfl) ?_
        refine lv_iconst (v := (5 : Int32)) hx hb dX5_goInto_83 (by decide) ?_
        refine lv_iload hx hb dX5_goInto_84 (lv_at hl 4 rfl) ?_
        refine lv_aload_n hx hb dX5_goInto_86 rfl (lv_at hl 1 rfl) ?_
        refine lv_aload_n hx hb dX5_goInto_87 rfl (lv_at hl 0 rfl) ?_
        refine zget hx hb hts hown hK hP hin_5 0 rfl rfl 9 (by decide) mw_100 (v := .int (c0_0 9)) rfl dX5_goInto_88 ?_
        obtain ⟨r12, hq11, hf⟩ := ob1_d hf
        refine zroV (q := (RX6, TX6, 10)) (As := [.int (c0_0 9)]) (rest := [.int x5, .int (5 : Int32), .ref h0]) (r := r12) ⟨hx, hb, hml, hown, hts⟩ (kX6_isDarkAt l dC dI cy h1 w1 (c0_0 9) r12 hq11) mw_337 mw_338 mw_339 mw_3 mw_340 hdX6_isDarkAt rfl rfl ⟨Nat.le_of_ble_eq_true rfl, Nat.le_of_ble_eq_true rfl⟩ hP hK hG hS 1 rfl rfl [1, 2, 3, 4, 5, 6, 7, 8, 9] rfl rfl hl.1 rfl (Nat.le_of_ble_eq_true rfl) dX5_goInto_91 ⟨Nat.zero_le _, Nat.zero_le _⟩ ?_
        obtain ⟨u14, hq13, hf⟩ := ob1_d hf
        refine zwvV (q := (RX5, TX5, 17)) (As := [.int (5 : Int32), .int x5, .int r12]) (rest := []) (u := u14) (wn := (zW_56 cy h0 u14 h1 w1)) ⟨hx, hb, hml, hown, hts⟩ (kX5_endAs l dC dI cy h0 (ups c0_0 1 t1) (5 : Int32) x5 r12 H.size u14 hq13) mw_341 mw_342 mw_887 mw_6 mw_343 hdX5_endAs rfl rfl ⟨Nat.le_of_ble_eq_true rfl, Nat.le_of_ble_eq_true rfl⟩ hP hK hG hS 0 rfl rfl hD hA [0] [1, 2, 3, 4, 5, 6, 7, 8, 9] [9, 0, 1, 2, 3, 4, 5, 6, 7, 8] rfl rfl rfl rfl (by decide) rfl rfl rfl hl.1 rfl (Nat.le_of_ble_eq_true rfl) dX5_goInto_94 ⟨Nat.zero_le _, Nat.zero_le _⟩ (fun H locs hP hD hS => ?_)
        refine lv_goto (tgt := 133) hx hb dX5_goInto_97 (by decide) ?_
        exact zretV hx hb hr hlocks hP hK hD hS hf rfl dX5_goInto_133
    · have hf := it_t hc hf
      refine lv_aload_n hx hb dX5_goInto_56 rfl (lv_at hl 0 rfl) ?_
      refine lv_bipush (v := (8 : Int32)) hx hb dX5_goInto_57 (by decide) ?_
      refine lv_iload hx hb dX5_goInto_59 (lv_at hl 4 rfl) ?_
      refine lv_aload_n hx hb dX5_goInto_61 rfl (lv_at hl 1 rfl) ?_
      refine lv_aload_n hx hb dX5_goInto_62 rfl (lv_at hl 0 rfl) ?_
      refine zget hx hb hts hown hK hP hin_5 0 rfl rfl 9 (by decide) mw_100 (v := .int (c0_0 9)) rfl dX5_goInto_63 ?_
      obtain ⟨r16, hq15, hf⟩ := ob1_d hf
      refine zroV (q := (RX6, TX6, 10)) (As := [.int (c0_0 9)]) (rest := [.int x5, .int (8 : Int32), .ref h0]) (r := r16) ⟨hx, hb, hml, hown, hts⟩ (kX6_isDarkAt l dC dI cy h1 w1 (c0_0 9) r16 hq15) mw_337 mw_338 mw_339 mw_3 mw_340 hdX6_isDarkAt rfl rfl ⟨Nat.le_of_ble_eq_true rfl, Nat.le_of_ble_eq_true rfl⟩ hP hK hG hS 1 rfl rfl [1, 2, 3, 4, 5, 6, 7, 8, 9] rfl rfl hl.1 rfl (Nat.le_of_ble_eq_true rfl) dX5_goInto_66 ⟨Nat.zero_le _, Nat.zero_le _⟩ ?_
      obtain ⟨u18, hq17, hf⟩ := ob1_d hf
      refine zwvV (q := (RX5, TX5, 17)) (As := [.int (8 : Int32), .int x5, .int r16]) (rest := []) (u := u18) (wn := (zW_56 cy h0 u18 h1 w1)) ⟨hx, hb, hml, hown, hts⟩ (kX5_endAs l dC dI cy h0 (ups c0_0 1 t1) (8 : Int32) x5 r16 H.size u18 hq17) mw_341 mw_342 mw_887 mw_6 mw_343 hdX5_endAs rfl rfl ⟨Nat.le_of_ble_eq_true rfl, Nat.le_of_ble_eq_true rfl⟩ hP hK hG hS 0 rfl rfl hD hA [0] [1, 2, 3, 4, 5, 6, 7, 8, 9] [9, 0, 1, 2, 3, 4, 5, 6, 7, 8] rfl rfl rfl rfl (by decide) rfl rfl rfl hl.1 rfl (Nat.le_of_ble_eq_true rfl) dX5_goInto_69 ⟨Nat.zero_le _, Nat.zero_le _⟩ (fun H locs hP hD hS => ?_)
      refine lv_goto (tgt := 133) hx hb dX5_goInto_72 (by decide) ?_
      exact zretV hx hb hr hlocks hP hK hD hS hf rfl dX5_goInto_133
  obtain ⟨ls, hl, he⟩ := zent (m := m) (n := 6) (L := [(0, .ref h0), (1, .ref (h1 0)), (2, .int x2)]) ha (Nat.le_of_ble_eq_true rfl) rfl
  refine W.eq he ?_
  unfold fX5_goInto at hf
  have kE : ∀ (H : Heap) (locs : List Loc), va_P (dC, dI) vwCl (zW_56 cy h0 w0 h1 w1) H → va_D A (zW_56 cy h0 w0 h1 w1) → va_S A s.heap H locs → W p l e ({ frames := 2, cells := 0, slots := 0, locals := 45 } : Room) s m args below meth c H locs 0 0 (MQ below (va_Qv (fun (v : (Nat → Int32)) => v = z) (fun v => aWR (dC, dI) vwCl [(cy, .int)] A (zW_56 cy h0 v h1 w1)) A) args s 0 0 A) (F0 m 0 ls []) := by
    intro H locs hP hD hS
    refine lv_aload_n hx hb dX5_goInto_0 rfl (lv_at hl 1 rfl) ?_
    refine zgetN hx hb hts hG hown hK hP hin_6 1 rfl rfl 0 (by decide) (host := "Embayed") (List.mem_of_getElem? (i := 28) rfl) (v := .ref (h1 1)) rfl dX5_goInto_1 ?_
    refine lv_aload_n hx hb dX5_goInto_4 rfl (lv_at hl 0 rfl) ?_
    refine zget hx hb hts hown hK hP hin_5 0 rfl rfl 1 (by decide) mw_92 (v := .int (w0 1)) rfl dX5_goInto_5 ?_
    refine lv_iload_n hx hb dX5_goInto_8 rfl (lv_at hl 2 rfl) ?_
    obtain ⟨r2, hq1, hf⟩ := ob1_d hf
    refine zroV (q := (RX1, TX1, 3)) (As := [.int (w0 1), .int x2]) (rest := []) (r := r2) ⟨hx, hb, hml, hown, hts⟩ (kX1_beside l dC dI cy (sh 1 h1) (sh 1 w1) (w0 1) x2 r2 hq1) mw_332 mw_333 mw_334 mw_4 mw_335 hdX1_beside rfl rfl ⟨Nat.le_of_ble_eq_true rfl, Nat.le_of_ble_eq_true rfl⟩ hP hK hG hS 2 rfl rfl [2, 3] rfl rfl hl.1 rfl (Nat.le_of_ble_eq_true rfl) dX5_goInto_9 ⟨Nat.zero_le _, Nat.zero_le _⟩ ?_
    refine lv_istore_n (lv' := [(3, .int r2), (0, .ref h0), (1, .ref (h1 0)), (2, .int x2)]) hx hb dX5_goInto_12 rfl hl (by decide) rfl (fun ls hl => ?_)
    refine lv_aload_n hx hb dX5_goInto_13 rfl (lv_at hl 2 rfl) ?_
    refine zgetN hx hb hts hG hown hK hP hin_6 1 rfl rfl 0 (by decide) (host := "Embayed") (List.mem_of_getElem? (i := 28) rfl) (v := .ref (h1 1)) rfl dX5_goInto_14 ?_
    refine lv_iload_n hx hb dX5_goInto_17 rfl (lv_at hl 0 rfl) ?_
    obtain ⟨r4, hq3, hf⟩ := ob1_d hf
    refine zroV (q := (RX1, TX1, 3)) (As := [.int r2]) (rest := []) (r := r4) ⟨hx, hb, hml, hown, hts⟩ (kX1_groundAt l dC dI cy (sh 1 h1) (sh 1 w1) r2 r4 hq3) mw_323 mw_213 mw_214 mw_4 mw_215 hdX1_groundAt rfl rfl ⟨Nat.le_of_ble_eq_true rfl, Nat.le_of_ble_eq_true rfl⟩ hP hK hG hS 2 rfl rfl [2, 3] rfl rfl hl.1 rfl (Nat.le_of_ble_eq_true rfl) dX5_goInto_18 ⟨Nat.zero_le _, Nat.zero_le _⟩ ?_
    refine lv_istore (lv' := [(4, .int r4), (3, .int r2), (0, .ref h0), (1, .ref (h1 0)), (2, .int x2)]) hx hb dX5_goInto_21 hl (by decide) rfl (fun ls hl => ?_)
    refine lv_aload_n hx hb dX5_goInto_23 rfl (lv_at hl 3 rfl) ?_
    refine zgetN hx hb hts hG hown hK hP hin_6 1 rfl rfl 2 (by decide) (host := "Embayed") (List.mem_of_getElem? (i := 32) rfl) (v := .ref (h1 6)) rfl dX5_goInto_24 ?_
    refine lv_aload_n hx hb dX5_goInto_27 rfl (lv_at hl 2 rfl) ?_
    refine zget hx hb hts hown hK hP hin_5 0 rfl rfl 9 (by decide) mw_100 (v := .int (w0 9)) rfl dX5_goInto_28 ?_
    obtain ⟨r6, hq5, hf⟩ := ob1_d hf
    refine zroV (q := (RX0, TX0, 3)) (As := [.int (w0 9)]) (rest := []) (r := r6) ⟨hx, hb, hml, hown, hts⟩ (kX0_latestAt l dC dI cy (sh 6 h1) (sh 6 w1) (w0 9) r6 hq5) mw_267 mw_268 mw_269 mw_5 mw_270 hdX0_latestAt rfl rfl ⟨Nat.le_of_ble_eq_true rfl, Nat.le_of_ble_eq_true rfl⟩ hP hK hG hS 7 rfl rfl [7, 8, 9] rfl rfl hl.1 rfl (Nat.le_of_ble_eq_true rfl) dX5_goInto_31 ⟨Nat.zero_le _, Nat.zero_le _⟩ ?_
    refine lv_istore (lv' := [(5, .int r6), (4, .int r4), (3, .int r2), (0, .ref h0), (1, .ref (h1 0)), (2, .int x2)]) hx hb dX5_goInto_34 hl (by decide) rfl (fun ls hl => ?_)
    refine lv_aload_n hx hb dX5_goInto_36 rfl (lv_at hl 3 rfl) ?_
    refine lv_iload_n hx hb dX5_goInto_37 rfl (lv_at hl 2 rfl) ?_
    refine lv_iconst (v := (-1 : Int32)) hx hb dX5_goInto_38 (by decide) ?_
    refine lv_icmp_ne (tgt := 47) hx hb dX5_goInto_39 (by decide) (fun hc => ?_) (fun hc => ?_)
    · have hf := it_f hc hf
      refine lv_iload_n hx hb dX5_goInto_47 rfl (lv_at hl 2 rfl) ?_
      exact k48 w0 r2 r4 r6 r2 H locs ls hP hD hS (lv_sub hl [3, 4, 2, 1, 0] rfl) hf
    · have hf := it_t hc hf
      refine lv_bipush (v := (-9 : Int32)) hx hb dX5_goInto_42 (by decide) ?_
      refine lv_goto (tgt := 48) hx hb dX5_goInto_44 (by decide) ?_
      exact k48 w0 r2 r4 r6 (-9 : Int32) H locs ls hP hD hS (lv_sub hl [3, 4, 2, 1, 0] rfl) hf
  exact kE s.heap [] hP hD hS
set_option maxHeartbeats 4000000 in
set_option maxRecDepth 100000 in
theorem kX5_strainAtAnchor (l : Launch) (dC : Nat → ClassId) (dI : Nat → Nat → Nat) (cy : ClassId) (h0 : Nat) (w0 : Nat → Int32) (h1 : Nat → Nat) (w1 : Nat → Nat → Int32) (sz : Nat) (z : (Nat → Int32)) (hf : fX5_strainAtAnchor w0 w1 = some z) : Met l yX5_strainAtAnchor (wsM yX5_strainAtAnchor cX5_strainAtAnchor 3 none) ({ frames := 3, cells := 0, slots := 0, locals := 70 } : Room) (va_Pc [.ref h0, .ref (h1 0)] (pWR (dC, dI) vwCl [(cy, .int)] (zW_56 cy h0 w0 h1 w1) sz)) (va_Qv (fun (v : (Nat → Int32)) => v = z) (fun v => aWR (dC, dI) vwCl [(cy, .int)] (va_A (zW_56 cy h0 w0 h1 w1) sz) (zW_56 cy h0 v h1 w1)) (va_A (zW_56 cy h0 w0 h1 w1) sz)) 0 0 (va_A (zW_56 cy h0 w0 h1 w1) sz) := by
  refine Met.ofW (cc := cX5_strainAtAnchor) (maxL := 3) (ret := none) (by decide) rfl ?_
  intro p e s m args below meth c s₁ B hml hv
  obtain ⟨ha, hsz, hP, hK, hD0, hG⟩ := hv
  have hx := B.exec
  have hb := B.bytes
  have hr := B.returns
  have hts : ∀ w ∈ wsA, w.before args s = true := fun w h => atoms_spec (ws := wsM yX5_strainAtAnchor cX5_strainAtAnchor 3 none) B.pre w (List.mem_cons_of_mem _ h)
  have hown : s.vm.findClass RX5 = some m.cls := findClass_of_methodNamed B.named
  have hlocks := B.notSynchronized
  subst hsz
  have hD := hD0.self (sz := s.heap.size)
  generalize hAe : va_A (zW_56 cy h0 w0 h1 w1) s.heap.size = A at hD hG ⊢
  have hA : ∀ q : Nat, s.heap.size ≤ q → A q := fun q h => by rw [← hAe]; exact Or.inr h
  have hS : va_S A s.heap s.heap [] := va_S.rf
  have hP : va_P (dC, dI) vwCl (zW_56 cy h0 w0 h1 w1) s.heap := hP
  have hD : va_D A (zW_56 cy h0 w0 h1 w1) := hD
  obtain ⟨ls, hl, he⟩ := zent (m := m) (n := 3) (L := [(0, .ref h0), (1, .ref (h1 0))]) ha (Nat.le_of_ble_eq_true rfl) rfl
  refine W.eq he ?_
  unfold fX5_strainAtAnchor at hf
  have kE : ∀ (H : Heap) (locs : List Loc), va_P (dC, dI) vwCl (zW_56 cy h0 w0 h1 w1) H → va_D A (zW_56 cy h0 w0 h1 w1) → va_S A s.heap H locs → W p l e ({ frames := 3, cells := 0, slots := 0, locals := 70 } : Room) s m args below meth c H locs 0 0 (MQ below (va_Qv (fun (v : (Nat → Int32)) => v = z) (fun v => aWR (dC, dI) vwCl [(cy, .int)] A (zW_56 cy h0 v h1 w1)) A) args s 0 0 A) (F0 m 0 ls []) := by
    intro H locs hP hD hS
    refine lv_aload_n hx hb dX5_strainAtAnchor_0 rfl (lv_at hl 1 rfl) ?_
    refine zgetN hx hb hts hG hown hK hP hin_6 1 rfl rfl 0 (by decide) (host := "Embayed") (List.mem_of_getElem? (i := 28) rfl) (v := .ref (h1 1)) rfl dX5_strainAtAnchor_1 ?_
    refine lv_aload_n hx hb dX5_strainAtAnchor_4 rfl (lv_at hl 0 rfl) ?_
    refine zget hx hb hts hown hK hP hin_5 0 rfl rfl 1 (by decide) mw_92 (v := .int (w0 1)) rfl dX5_strainAtAnchor_5 ?_
    obtain ⟨r2, hq1, hf⟩ := ob1_d hf
    refine zroV (q := (RX1, TX1, 3)) (As := [.int (w0 1)]) (rest := []) (r := r2) ⟨hx, hb, hml, hown, hts⟩ (kX1_groundAt l dC dI cy (sh 1 h1) (sh 1 w1) (w0 1) r2 hq1) mw_323 mw_213 mw_214 mw_4 mw_215 hdX1_groundAt rfl rfl ⟨Nat.le_of_ble_eq_true rfl, Nat.le_of_ble_eq_true rfl⟩ hP hK hG hS 2 rfl rfl [2, 3] rfl rfl hl.1 rfl (Nat.le_of_ble_eq_true rfl) dX5_strainAtAnchor_8 ⟨Nat.zero_le _, Nat.zero_le _⟩ ?_
    refine lv_aload_n hx hb dX5_strainAtAnchor_11 rfl (lv_at hl 0 rfl) ?_
    refine lv_aload_n hx hb dX5_strainAtAnchor_12 rfl (lv_at hl 1 rfl) ?_
    obtain ⟨r4, hq3, hf⟩ := ob1_d hf
    refine zroV (q := (RX5, TX5, 17)) (As := [.ref (h1 0)]) (rest := [.int r2]) (r := r4) ⟨hx, hb, hml, hown, hts⟩ (kX5_tideIn l dC dI cy h0 w0 h1 w1 r4 hq3) mw_324 mw_282 mw_283 mw_6 mw_284 hdX5_tideIn rfl rfl ⟨Nat.le_of_ble_eq_true rfl, Nat.le_of_ble_eq_true rfl⟩ hP hK hG hS 0 rfl rfl [0, 1, 2, 3, 4, 5, 6, 7, 8, 9] rfl rfl hl.1 rfl (Nat.le_of_ble_eq_true rfl) dX5_strainAtAnchor_13 ⟨Nat.zero_le _, Nat.zero_le _⟩ ?_
    obtain ⟨r6, hq5, hf⟩ := ob1_d hf
    refine zroSN (As := [.int r2, .int r4]) (rest := []) (r := r6) ⟨hx, hb, hml, hown, hts⟩ (kX7_holdOf l dC dI cy r2 r4 r6 hq5) (List.mem_of_getElem? (i := 10) rfl) mw_325 mw_1 mw_326 hdX7_holdOf rfl rfl ⟨Nat.le_of_ble_eq_true rfl, Nat.le_of_ble_eq_true rfl⟩ hP hK hG hS [] rfl rfl hl.1 rfl (Nat.le_of_ble_eq_true rfl) dX5_strainAtAnchor_16 ⟨Nat.zero_le _, Nat.zero_le _⟩ ?_
    refine lv_istore_n (lv' := [(2, .int r6), (0, .ref h0), (1, .ref (h1 0))]) hx hb dX5_strainAtAnchor_19 rfl hl (by decide) rfl (fun ls hl => ?_)
    refine lv_aload_n hx hb dX5_strainAtAnchor_20 rfl (lv_at hl 2 rfl) ?_
    refine zgetN hx hb hts hG hown hK hP hin_6 1 rfl rfl 3 (by decide) (host := "Embayed") (List.mem_of_getElem? (i := 33) rfl) (v := .int (w1 0 3)) rfl dX5_strainAtAnchor_21 ?_
    refine lv_aload_n hx hb dX5_strainAtAnchor_24 rfl (lv_at hl 1 rfl) ?_
    refine zget hx hb hts hown hK hP hin_5 0 rfl rfl 4 (by decide) mw_95 (v := .int (w0 4)) rfl dX5_strainAtAnchor_25 ?_
    obtain ⟨r8, hq7, hf⟩ := ob1_d hf
    refine zroSN (As := [.int (w1 0 3), .int (w0 4)]) (rest := []) (r := r8) ⟨hx, hb, hml, hown, hts⟩ (kX7_loadOf l dC dI cy (w1 0 3) (w0 4) r8 hq7) (List.mem_of_getElem? (i := 11) rfl) mw_327 mw_1 mw_328 hdX7_loadOf rfl rfl ⟨Nat.le_of_ble_eq_true rfl, Nat.le_of_ble_eq_true rfl⟩ hP hK hG hS [] rfl rfl hl.1 rfl (Nat.le_of_ble_eq_true rfl) dX5_strainAtAnchor_28 ⟨Nat.zero_le _, Nat.zero_le _⟩ ?_
    refine lv_iload_n hx hb dX5_strainAtAnchor_31 rfl (lv_at hl 0 rfl) ?_
    refine lv_icmp_le (tgt := 48) hx hb dX5_strainAtAnchor_32 (by decide) (fun hc => ?_) (fun hc => ?_)
    · have hf := it_t hc hf
      exact zretV hx hb hr hlocks hP hK hD hS hf rfl dX5_strainAtAnchor_48
    · have hf := it_f hc hf
      refine lv_aload_n hx hb dX5_strainAtAnchor_35 rfl (lv_at hl 1 rfl) ?_
      refine lv_aload_n hx hb dX5_strainAtAnchor_36 rfl (lv_at hl 2 rfl) ?_
      refine lv_aload_n hx hb dX5_strainAtAnchor_37 rfl (lv_at hl 1 rfl) ?_
      refine lv_aload_n hx hb dX5_strainAtAnchor_38 rfl (lv_at hl 2 rfl) ?_
      obtain ⟨r10, hq9, hf⟩ := ob1_d hf
      refine zroV (q := (RX5, TX5, 17)) (As := [.ref (h1 0)]) (rest := [.ref (h1 0), .ref h0]) (r := r10) ⟨hx, hb, hml, hown, hts⟩ (kX5_windIn l dC dI cy h0 w0 h1 w1 r10 hq9) mw_315 mw_264 mw_265 mw_6 mw_266 hdX5_windIn rfl rfl ⟨Nat.le_of_ble_eq_true rfl, Nat.le_of_ble_eq_true rfl⟩ hP hK hG hS 0 rfl rfl [0, 1, 2, 3, 4, 5, 6, 7, 8, 9] rfl rfl hl.1 rfl (Nat.le_of_ble_eq_true rfl) dX5_strainAtAnchor_39 ⟨Nat.zero_le _, Nat.zero_le _⟩ ?_
      obtain ⟨r12, hq11, hf⟩ := ob1_d hf
      refine zroSN (As := [.int r10]) (rest := [.ref (h1 0), .ref h0]) (r := r12) ⟨hx, hb, hml, hown, hts⟩ (kX7_leeOf l dC dI cy r10 r12 hq11) (List.mem_of_getElem? (i := 12) rfl) mw_274 mw_1 mw_275 hdX7_leeOf rfl rfl ⟨Nat.le_of_ble_eq_true rfl, Nat.le_of_ble_eq_true rfl⟩ hP hK hG hS [] rfl rfl hl.1 rfl (Nat.le_of_ble_eq_true rfl) dX5_strainAtAnchor_42 ⟨Nat.zero_le _, Nat.zero_le _⟩ ?_
      obtain ⟨u14, hq13, hf⟩ := ob1_d hf
      refine zwvV (q := (RX5, TX5, 17)) (As := [.ref (h1 0), .int r12]) (rest := []) (u := u14) (wn := (zW_56 cy h0 u14 h1 w1)) ⟨hx, hb, hml, hown, hts⟩ (kX5_goInto l dC dI cy h0 w0 h1 w1 r12 H.size u14 hq13) mw_329 mw_330 mw_886 mw_6 mw_331 hdX5_goInto rfl rfl ⟨Nat.le_of_ble_eq_true rfl, Nat.le_of_ble_eq_true rfl⟩ hP hK hG hS 0 rfl rfl hD hA [0, 1, 2, 3, 4, 5, 6, 7, 8, 9] [] [0, 1, 2, 3, 4, 5, 6, 7, 8, 9] rfl rfl rfl rfl (by decide) rfl rfl rfl hl.1 rfl (Nat.le_of_ble_eq_true rfl) dX5_strainAtAnchor_45 ⟨Nat.zero_le _, Nat.zero_le _⟩ (fun H locs hP hD hS => ?_)
      exact zretV hx hb hr hlocks hP hK hD hS hf rfl dX5_strainAtAnchor_48
  exact kE s.heap [] hP hD hS
set_option maxHeartbeats 4000000 in
set_option maxRecDepth 100000 in
theorem kX5_goOn (l : Launch) (dC : Nat → ClassId) (dI : Nat → Nat → Nat) (cy : ClassId) (h0 : Nat) (w0 : Nat → Int32) (h1 : Nat → Nat) (w1 : Nat → Nat → Int32) (x2 : Int32) (sz : Nat) (z : (Nat → Int32)) (hf : fX5_goOn w0 w1 x2 = some z) : Met l yX5_goOn (wsM yX5_goOn cX5_goOn 4 none) ({ frames := 3, cells := 0, slots := 0, locals := 70 } : Room) (va_Pc [.ref h0, .ref (h1 0), .int x2] (pWR (dC, dI) vwCl [(cy, .int)] (zW_56 cy h0 w0 h1 w1) sz)) (va_Qv (fun (v : (Nat → Int32)) => v = z) (fun v => aWR (dC, dI) vwCl [(cy, .int)] (va_A (zW_56 cy h0 w0 h1 w1) sz) (zW_56 cy h0 v h1 w1)) (va_A (zW_56 cy h0 w0 h1 w1) sz)) 0 0 (va_A (zW_56 cy h0 w0 h1 w1) sz) := by
  refine Met.ofW (cc := cX5_goOn) (maxL := 4) (ret := none) (by decide) rfl ?_
  intro p e s m args below meth c s₁ B hml hv
  obtain ⟨ha, hsz, hP, hK, hD0, hG⟩ := hv
  have hx := B.exec
  have hb := B.bytes
  have hr := B.returns
  have hts : ∀ w ∈ wsA, w.before args s = true := fun w h => atoms_spec (ws := wsM yX5_goOn cX5_goOn 4 none) B.pre w (List.mem_cons_of_mem _ h)
  have hown : s.vm.findClass RX5 = some m.cls := findClass_of_methodNamed B.named
  have hlocks := B.notSynchronized
  subst hsz
  have hD := hD0.self (sz := s.heap.size)
  generalize hAe : va_A (zW_56 cy h0 w0 h1 w1) s.heap.size = A at hD hG ⊢
  have hA : ∀ q : Nat, s.heap.size ≤ q → A q := fun q h => by rw [← hAe]; exact Or.inr h
  have hS : va_S A s.heap s.heap [] := va_S.rf
  have hP : va_P (dC, dI) vwCl (zW_56 cy h0 w0 h1 w1) s.heap := hP
  have hD : va_D A (zW_56 cy h0 w0 h1 w1) := hD
  have k93 : ∀ n : Nat, ∀ (c0_0 : (Nat → Int32)) (H : Heap) (locs : List Loc) (ls : Array Slot), va_P (dC, dI) vwCl (zW_56 cy h0 c0_0 h1 w1) H → va_D A (zW_56 cy h0 c0_0 h1 w1) → va_S A s.heap H locs → lv_has ls 4 [(0, .ref h0), (1, .ref (h1 0))] → (zl1 (fX5_goOn_93 w1) n) c0_0 = some z → W p l e ({ frames := 3, cells := 0, slots := 0, locals := 70 } : Room) s m args below meth c H locs 0 0 (MQ below (va_Qv (fun (v : (Nat → Int32)) => v = z) (fun v => aWR (dC, dI) vwCl [(cy, .int)] A (zW_56 cy h0 v h1 w1)) A) args s 0 0 A) (F0 m 93 ls []) := by
    intro n
    induction n with
    | zero =>
      intro c0_0 H locs ls hP hD hS hl hf
      exact z_no hf
    | succ n hs93 =>
      intro c0_0 H locs ls hP hD hS hl hf
      have hf : fX5_goOn_93 w1 (zl1 (fX5_goOn_93 w1) n) c0_0 = some z := hf
      generalize zl1 (fX5_goOn_93 w1) n = s93 at hs93 hf
      unfold fX5_goOn_93 at hf
      refine lv_aload_n hx hb dX5_goOn_93 rfl (lv_at hl 0 rfl) ?_
      refine zget hx hb hts hown hK hP hin_5 0 rfl rfl 8 (by decide) mw_99 (v := .int (c0_0 8)) rfl dX5_goOn_94 ?_
      refine lv_bipush (v := (10 : Int32)) hx hb dX5_goOn_97 (by decide) ?_
      refine lv_icmp_lt (tgt := 136) hx hb dX5_goOn_99 (by decide) (fun hc => ?_) (fun hc => ?_)
      · have hf := it_t hc hf
        exact zretV hx hb hr hlocks hP hK hD hS hf rfl dX5_goOn_136
      · have hf := it_f hc hf
        refine lv_aload_n hx hb dX5_goOn_102 rfl (lv_at hl 0 rfl) ?_
        obtain ⟨r2, hq1, hf⟩ := ob1_d hf
        refine zroV (q := (RX5, TX5, 17)) (As := []) (rest := []) (r := r2) ⟨hx, hb, hml, hown, hts⟩ (kX5_isEnded l dC dI cy h0 c0_0 r2 hq1) mw_308 mw_309 mw_310 mw_6 mw_311 hdX5_isEnded rfl rfl ⟨Nat.le_of_ble_eq_true rfl, Nat.le_of_ble_eq_true rfl⟩ hP hK hG hS 0 rfl rfl [0] rfl rfl hl.1 rfl (Nat.le_of_ble_eq_true rfl) dX5_goOn_103 ⟨Nat.zero_le _, Nat.zero_le _⟩ ?_
        refine lv_if_ne (tgt := 136) hx hb dX5_goOn_106 (by decide) (fun hc => ?_) (fun hc => ?_)
        · have hf := it_f hc hf
          exact zretV hx hb hr hlocks hP hK hD hS hf rfl dX5_goOn_136
        · have hf := it_t hc hf
          refine lv_aload_n hx hb dX5_goOn_109 rfl (lv_at hl 0 rfl) ?_
          refine lv_dup hx hb dX5_goOn_110 rfl ?_
          refine zget hx hb hts hown hK hP hin_5 0 rfl rfl 8 (by decide) mw_99 (v := .int (c0_0 8)) rfl dX5_goOn_111 ?_
          refine lv_bipush (v := (10 : Int32)) hx hb dX5_goOn_114 (by decide) ?_
          refine lv_isub hx hb dX5_goOn_116 ?_
          refine zput hx hb hts hown hK hP hD hS hin_5 tyX5 tyX5_ok nmX5 0 rfl rfl 8 (by decide) mw_99 rfl (v := .int ((c0_0 8) - (10 : Int32))) rfl rfl (Nat.le_of_ble_eq_true rfl) (wn := (zW_56 cy h0 (ups c0_0 8 ((c0_0 8) - (10 : Int32))) h1 w1)) rfl dX5_goOn_117 (fun H locs hP hD hS => ?_)
          refine lv_aload_n hx hb dX5_goOn_120 rfl (lv_at hl 0 rfl) ?_
          refine lv_aload_n hx hb dX5_goOn_121 rfl (lv_at hl 1 rfl) ?_
          refine lv_aload_n hx hb dX5_goOn_122 rfl (lv_at hl 0 rfl) ?_
          refine lv_aload_n hx hb dX5_goOn_123 rfl (lv_at hl 1 rfl) ?_
          obtain ⟨r4, hq3, hf⟩ := ob1_d hf
          refine zroV (q := (RX5, TX5, 17)) (As := [.ref (h1 0)]) (rest := [.ref (h1 0), .ref h0]) (r := r4) ⟨hx, hb, hml, hown, hts⟩ (kX5_windIn l dC dI cy h0 (ups c0_0 8 ((c0_0 8) - (10 : Int32))) h1 w1 r4 hq3) mw_315 mw_264 mw_265 mw_6 mw_266 hdX5_windIn rfl rfl ⟨Nat.le_of_ble_eq_true rfl, Nat.le_of_ble_eq_true rfl⟩ hP hK hG hS 0 rfl rfl [0, 1, 2, 3, 4, 5, 6, 7, 8, 9] rfl rfl hl.1 rfl (Nat.le_of_ble_eq_true rfl) dX5_goOn_124 ⟨Nat.zero_le _, Nat.zero_le _⟩ ?_
          obtain ⟨r6, hq5, hf⟩ := ob1_d hf
          refine zroSN (As := [.int r4]) (rest := [.ref (h1 0), .ref h0]) (r := r6) ⟨hx, hb, hml, hown, hts⟩ (kX7_leeOf l dC dI cy r4 r6 hq5) (List.mem_of_getElem? (i := 12) rfl) mw_274 mw_1 mw_275 hdX7_leeOf rfl rfl ⟨Nat.le_of_ble_eq_true rfl, Nat.le_of_ble_eq_true rfl⟩ hP hK hG hS [] rfl rfl hl.1 rfl (Nat.le_of_ble_eq_true rfl) dX5_goOn_127 ⟨Nat.zero_le _, Nat.zero_le _⟩ ?_
          obtain ⟨u8, hq7, hf⟩ := ob1_d hf
          refine zwvV (q := (RX5, TX5, 17)) (As := [.ref (h1 0), .int r6]) (rest := []) (u := u8) (wn := (zW_56 cy h0 u8 h1 w1)) ⟨hx, hb, hml, hown, hts⟩ (kX5_goInto l dC dI cy h0 (ups c0_0 8 ((c0_0 8) - (10 : Int32))) h1 w1 r6 H.size u8 hq7) mw_329 mw_330 mw_886 mw_6 mw_331 hdX5_goInto rfl rfl ⟨Nat.le_of_ble_eq_true rfl, Nat.le_of_ble_eq_true rfl⟩ hP hK hG hS 0 rfl rfl hD hA [0, 1, 2, 3, 4, 5, 6, 7, 8, 9] [] [0, 1, 2, 3, 4, 5, 6, 7, 8, 9] rfl rfl rfl rfl (by decide) rfl rfl rfl hl.1 rfl (Nat.le_of_ble_eq_true rfl) dX5_goOn_130 ⟨Nat.zero_le _, Nat.zero_le _⟩ (fun H locs hP hD hS => ?_)
          refine lv_goto (tgt := 93) hx hb dX5_goOn_133 (by decide) ?_
          exact hs93 u8 H locs ls hP hD hS (lv_sub hl [0, 1] rfl) hf
  have k54 : ∀ n : Nat, ∀ (c0_0 : (Nat → Int32)) (H : Heap) (locs : List Loc) (ls : Array Slot), va_P (dC, dI) vwCl (zW_56 cy h0 c0_0 h1 w1) H → va_D A (zW_56 cy h0 c0_0 h1 w1) → va_S A s.heap H locs → lv_has ls 4 [(0, .ref h0), (1, .ref (h1 0))] → (zl1 (fX5_goOn_54 w1) n) c0_0 = some z → W p l e ({ frames := 3, cells := 0, slots := 0, locals := 70 } : Room) s m args below meth c H locs 0 0 (MQ below (va_Qv (fun (v : (Nat → Int32)) => v = z) (fun v => aWR (dC, dI) vwCl [(cy, .int)] A (zW_56 cy h0 v h1 w1)) A) args s 0 0 A) (F0 m 54 ls []) := by
    intro n
    induction n with
    | zero =>
      intro c0_0 H locs ls hP hD hS hl hf
      exact z_no hf
    | succ n hs54 =>
      intro c0_0 H locs ls hP hD hS hl hf
      have hf : fX5_goOn_54 w1 (zl1 (fX5_goOn_54 w1) n) c0_0 = some z := hf
      generalize zl1 (fX5_goOn_54 w1) n = s54 at hs54 hf
      unfold fX5_goOn_54 at hf
      refine lv_aload_n hx hb dX5_goOn_54 rfl (lv_at hl 0 rfl) ?_
      refine zget hx hb hts hown hK hP hin_5 0 rfl rfl 7 (by decide) mw_98 (v := .int (c0_0 7)) rfl dX5_goOn_55 ?_
      refine lv_bipush (v := (10 : Int32)) hx hb dX5_goOn_58 (by decide) ?_
      refine lv_icmp_lt (tgt := 93) hx hb dX5_goOn_60 (by decide) (fun hc => ?_) (fun hc => ?_)
      · have hf := it_t hc hf
        exact k93 zFU c0_0 H locs ls hP hD hS (lv_sub hl [0, 1] rfl) hf
      · have hf := it_f hc hf
        refine lv_aload_n hx hb dX5_goOn_63 rfl (lv_at hl 0 rfl) ?_
        obtain ⟨r10, hq9, hf⟩ := ob1_d hf
        refine zroV (q := (RX5, TX5, 17)) (As := []) (rest := []) (r := r10) ⟨hx, hb, hml, hown, hts⟩ (kX5_isEnded l dC dI cy h0 c0_0 r10 hq9) mw_308 mw_309 mw_310 mw_6 mw_311 hdX5_isEnded rfl rfl ⟨Nat.le_of_ble_eq_true rfl, Nat.le_of_ble_eq_true rfl⟩ hP hK hG hS 0 rfl rfl [0] rfl rfl hl.1 rfl (Nat.le_of_ble_eq_true rfl) dX5_goOn_64 ⟨Nat.zero_le _, Nat.zero_le _⟩ ?_
        refine lv_if_ne (tgt := 93) hx hb dX5_goOn_67 (by decide) (fun hc => ?_) (fun hc => ?_)
        · have hf := it_f hc hf
          exact k93 zFU c0_0 H locs ls hP hD hS (lv_sub hl [0, 1] rfl) hf
        · have hf := it_t hc hf
          refine lv_aload_n hx hb dX5_goOn_70 rfl (lv_at hl 0 rfl) ?_
          refine lv_dup hx hb dX5_goOn_71 rfl ?_
          refine zget hx hb hts hown hK hP hin_5 0 rfl rfl 7 (by decide) mw_98 (v := .int (c0_0 7)) rfl dX5_goOn_72 ?_
          refine lv_bipush (v := (10 : Int32)) hx hb dX5_goOn_75 (by decide) ?_
          refine lv_isub hx hb dX5_goOn_77 ?_
          refine zput hx hb hts hown hK hP hD hS hin_5 tyX5 tyX5_ok nmX5 0 rfl rfl 7 (by decide) mw_98 rfl (v := .int ((c0_0 7) - (10 : Int32))) rfl rfl (Nat.le_of_ble_eq_true rfl) (wn := (zW_56 cy h0 (ups c0_0 7 ((c0_0 7) - (10 : Int32))) h1 w1)) rfl dX5_goOn_78 (fun H locs hP hD hS => ?_)
          refine lv_aload_n hx hb dX5_goOn_81 rfl (lv_at hl 0 rfl) ?_
          refine lv_aload_n hx hb dX5_goOn_82 rfl (lv_at hl 1 rfl) ?_
          refine lv_aload_n hx hb dX5_goOn_83 rfl (lv_at hl 0 rfl) ?_
          refine zget hx hb hts hown hK hP hin_5 0 rfl rfl 2 (by decide) mw_93 (v := .int (c0_0 2)) rfl dX5_goOn_84 ?_
          obtain ⟨u12, hq11, hf⟩ := ob1_d hf
          refine zwvV (q := (RX5, TX5, 17)) (As := [.ref (h1 0), .int (c0_0 2)]) (rest := []) (u := u12) (wn := (zW_56 cy h0 u12 h1 w1)) ⟨hx, hb, hml, hown, hts⟩ (kX5_goInto l dC dI cy h0 (ups c0_0 7 ((c0_0 7) - (10 : Int32))) h1 w1 (c0_0 2) H.size u12 hq11) mw_329 mw_330 mw_886 mw_6 mw_331 hdX5_goInto rfl rfl ⟨Nat.le_of_ble_eq_true rfl, Nat.le_of_ble_eq_true rfl⟩ hP hK hG hS 0 rfl rfl hD hA [0, 1, 2, 3, 4, 5, 6, 7, 8, 9] [] [0, 1, 2, 3, 4, 5, 6, 7, 8, 9] rfl rfl rfl rfl (by decide) rfl rfl rfl hl.1 rfl (Nat.le_of_ble_eq_true rfl) dX5_goOn_87 ⟨Nat.zero_le _, Nat.zero_le _⟩ (fun H locs hP hD hS => ?_)
          refine lv_goto (tgt := 54) hx hb dX5_goOn_90 (by decide) ?_
          exact hs54 u12 H locs ls hP hD hS (lv_sub hl [0, 1] rfl) hf
  have k15 : ∀ (c0_0 : (Nat → Int32)) (x2 : Int32) (t0 : Int32) (H : Heap) (locs : List Loc) (ls : Array Slot), va_P (dC, dI) vwCl (zW_56 cy h0 c0_0 h1 w1) H → va_D A (zW_56 cy h0 c0_0 h1 w1) → va_S A s.heap H locs → lv_has ls 4 [(0, .ref h0), (1, .ref (h1 0)), (2, .int x2)] → (fX5_goOn_15 w1) c0_0 x2 t0 = some z → W p l e ({ frames := 3, cells := 0, slots := 0, locals := 70 } : Room) s m args below meth c H locs 0 0 (MQ below (va_Qv (fun (v : (Nat → Int32)) => v = z) (fun v => aWR (dC, dI) vwCl [(cy, .int)] A (zW_56 cy h0 v h1 w1)) A) args s 0 0 A) (F0 m 15 ls [.int t0]) := by
    intro c0_0 x2 t0 H locs ls hP hD hS hl hf
    unfold fX5_goOn_15 at hf
    refine lv_istore_n (lv' := [(3, .int t0), (0, .ref h0), (1, .ref (h1 0)), (2, .int x2)]) hx hb dX5_goOn_15 rfl hl (by decide) rfl (fun ls hl => ?_)
    refine lv_aload_n hx hb dX5_goOn_16 rfl (lv_at hl 1 rfl) ?_
    refine lv_dup hx hb dX5_goOn_17 rfl ?_
    refine zget hx hb hts hown hK hP hin_5 0 rfl rfl 7 (by decide) mw_98 (v := .int (c0_0 7)) rfl dX5_goOn_18 ?_
    refine lv_iload_n hx hb dX5_goOn_21 rfl (lv_at hl 3 rfl) ?_
    refine lv_iadd hx hb dX5_goOn_22 ?_
    refine zput hx hb hts hown hK hP hD hS hin_5 tyX5 tyX5_ok nmX5 0 rfl rfl 7 (by decide) mw_98 rfl (v := .int ((c0_0 7) + x2)) rfl rfl (Nat.le_of_ble_eq_true rfl) (wn := (zW_56 cy h0 (ups c0_0 7 ((c0_0 7) + x2)) h1 w1)) rfl dX5_goOn_23 (fun H locs hP hD hS => ?_)
    refine lv_aload_n hx hb dX5_goOn_26 rfl (lv_at hl 1 rfl) ?_
    refine lv_dup hx hb dX5_goOn_27 rfl ?_
    refine zget hx hb hts hown hK hP hin_5 0 rfl rfl 8 (by decide) mw_99 (v := .int (c0_0 8)) rfl dX5_goOn_28 ?_
    refine lv_aload_n hx hb dX5_goOn_31 rfl (lv_at hl 2 rfl) ?_
    refine zgetN hx hb hts hG hown hK hP hin_6 1 rfl rfl 3 (by decide) (host := "Embayed") (List.mem_of_getElem? (i := 33) rfl) (v := .int (w1 0 3)) rfl dX5_goOn_32 ?_
    refine lv_bipush (v := (9 : Int32)) hx hb dX5_goOn_35 (by decide) ?_
    refine lv_iload_n hx hb dX5_goOn_37 rfl (lv_at hl 0 rfl) ?_
    refine lv_isub hx hb dX5_goOn_38 ?_
    refine lv_iconst (v := (3 : Int32)) hx hb dX5_goOn_39 (by decide) ?_
    refine lv_idiv hx hb dX5_goOn_40 (by decide) ?_
    refine lv_iadd hx hb dX5_goOn_41 ?_
    refine lv_aload_n hx hb dX5_goOn_42 rfl (lv_at hl 1 rfl) ?_
    refine zget hx hb hts hown hK hP hin_5 0 rfl rfl 6 (by decide) mw_97 (v := .int (c0_0 6)) rfl dX5_goOn_43 ?_
    refine lv_bipush (v := (25 : Int32)) hx hb dX5_goOn_46 (by decide) ?_
    refine lv_idiv hx hb dX5_goOn_48 (by decide) ?_
    refine lv_iadd hx hb dX5_goOn_49 ?_
    refine lv_iadd hx hb dX5_goOn_50 ?_
    refine zput hx hb hts hown hK hP hD hS hin_5 tyX5 tyX5_ok nmX5 0 rfl rfl 8 (by decide) mw_99 rfl (v := .int ((c0_0 8) + (((w1 0 3) + (((9 : Int32) - t0) / (3 : Int32))) + ((c0_0 6) / (25 : Int32))))) rfl rfl (Nat.le_of_ble_eq_true rfl) (wn := (zW_56 cy h0 (ups (ups c0_0 7 ((c0_0 7) + x2)) 8 ((c0_0 8) + (((w1 0 3) + (((9 : Int32) - t0) / (3 : Int32))) + ((c0_0 6) / (25 : Int32))))) h1 w1)) rfl dX5_goOn_51 (fun H locs hP hD hS => ?_)
    exact k54 zFU (ups (ups c0_0 7 ((c0_0 7) + x2)) 8 ((c0_0 8) + (((w1 0 3) + (((9 : Int32) - t0) / (3 : Int32))) + ((c0_0 6) / (25 : Int32))))) H locs ls hP hD hS (lv_sub hl [1, 2] rfl) hf
  obtain ⟨ls, hl, he⟩ := zent (m := m) (n := 4) (L := [(0, .ref h0), (1, .ref (h1 0)), (2, .int x2)]) ha (Nat.le_of_ble_eq_true rfl) rfl
  refine W.eq he ?_
  unfold fX5_goOn at hf
  have kE : ∀ (H : Heap) (locs : List Loc), va_P (dC, dI) vwCl (zW_56 cy h0 w0 h1 w1) H → va_D A (zW_56 cy h0 w0 h1 w1) → va_S A s.heap H locs → W p l e ({ frames := 3, cells := 0, slots := 0, locals := 70 } : Room) s m args below meth c H locs 0 0 (MQ below (va_Qv (fun (v : (Nat → Int32)) => v = z) (fun v => aWR (dC, dI) vwCl [(cy, .int)] A (zW_56 cy h0 v h1 w1)) A) args s 0 0 A) (F0 m 0 ls []) := by
    intro H locs hP hD hS
    refine lv_aload_n hx hb dX5_goOn_0 rfl (lv_at hl 0 rfl) ?_
    refine zget hx hb hts hown hK hP hin_5 0 rfl rfl 13 (by decide) mw_104 (v := .int (w0 13)) rfl dX5_goOn_1 ?_
    refine lv_if_eq (tgt := 11) hx hb dX5_goOn_4 (by decide) (fun hc => ?_) (fun hc => ?_)
    · have hf := it_t hc hf
      refine lv_aload_n hx hb dX5_goOn_11 rfl (lv_at hl 1 rfl) ?_
      refine zgetN hx hb hts hG hown hK hP hin_6 1 rfl rfl 8 (by decide) (host := "Embayed") (List.mem_of_getElem? (i := 41) rfl) (v := .int (w1 0 8)) rfl dX5_goOn_12 ?_
      exact k15 w0 x2 (w1 0 8) H locs ls hP hD hS (lv_sub hl [0, 1, 2] rfl) hf
    · have hf := it_f hc hf
      refine lv_iconst (v := (0 : Int32)) hx hb dX5_goOn_7 (by decide) ?_
      refine lv_goto (tgt := 15) hx hb dX5_goOn_8 (by decide) ?_
      exact k15 w0 x2 (0 : Int32) H locs ls hP hD hS (lv_sub hl [0, 1, 2] rfl) hf
  exact kE s.heap [] hP hD hS
set_option maxHeartbeats 4000000 in
set_option maxRecDepth 100000 in
theorem kX5_leak (l : Launch) (dC : Nat → ClassId) (dI : Nat → Nat → Nat) (cy : ClassId) (h0 : Nat) (w0 : Nat → Int32) (h1 : Nat → Nat) (w1 : Nat → Nat → Int32) (sz : Nat) (z : (Nat → Int32)) (hf : fX5_leak w0 w1 = some z) : Met l yX5_leak (wsM yX5_leak cX5_leak 2 none) ({ frames := 2, cells := 0, slots := 0, locals := 45 } : Room) (va_Pc [.ref h0, .ref (h1 0)] (pWR (dC, dI) vwCl [(cy, .int)] (zW_56 cy h0 w0 h1 w1) sz)) (va_Qv (fun (v : (Nat → Int32)) => v = z) (fun v => aWR (dC, dI) vwCl [(cy, .int)] (va_A (zW_56 cy h0 w0 h1 w1) sz) (zW_56 cy h0 v h1 w1)) (va_A (zW_56 cy h0 w0 h1 w1) sz)) 0 0 (va_A (zW_56 cy h0 w0 h1 w1) sz) := by
  refine Met.ofW (cc := cX5_leak) (maxL := 2) (ret := none) (by decide) rfl ?_
  intro p e s m args below meth c s₁ B hml hv
  obtain ⟨ha, hsz, hP, hK, hD0, hG⟩ := hv
  have hx := B.exec
  have hb := B.bytes
  have hr := B.returns
  have hts : ∀ w ∈ wsA, w.before args s = true := fun w h => atoms_spec (ws := wsM yX5_leak cX5_leak 2 none) B.pre w (List.mem_cons_of_mem _ h)
  have hown : s.vm.findClass RX5 = some m.cls := findClass_of_methodNamed B.named
  have hlocks := B.notSynchronized
  subst hsz
  have hD := hD0.self (sz := s.heap.size)
  generalize hAe : va_A (zW_56 cy h0 w0 h1 w1) s.heap.size = A at hD hG ⊢
  have hA : ∀ q : Nat, s.heap.size ≤ q → A q := fun q h => by rw [← hAe]; exact Or.inr h
  have hS : va_S A s.heap s.heap [] := va_S.rf
  have hP : va_P (dC, dI) vwCl (zW_56 cy h0 w0 h1 w1) s.heap := hP
  have hD : va_D A (zW_56 cy h0 w0 h1 w1) := hD
  obtain ⟨ls, hl, he⟩ := zent (m := m) (n := 2) (L := [(0, .ref h0), (1, .ref (h1 0))]) ha (Nat.le_of_ble_eq_true rfl) rfl
  refine W.eq he ?_
  unfold fX5_leak at hf
  have kE : ∀ (H : Heap) (locs : List Loc), va_P (dC, dI) vwCl (zW_56 cy h0 w0 h1 w1) H → va_D A (zW_56 cy h0 w0 h1 w1) → va_S A s.heap H locs → W p l e ({ frames := 2, cells := 0, slots := 0, locals := 45 } : Room) s m args below meth c H locs 0 0 (MQ below (va_Qv (fun (v : (Nat → Int32)) => v = z) (fun v => aWR (dC, dI) vwCl [(cy, .int)] A (zW_56 cy h0 v h1 w1)) A) args s 0 0 A) (F0 m 0 ls []) := by
    intro H locs hP hD hS
    refine lv_aload_n hx hb dX5_leak_0 rfl (lv_at hl 0 rfl) ?_
    refine lv_iconst (v := (0 : Int32)) hx hb dX5_leak_1 (by decide) ?_
    refine lv_aload_n hx hb dX5_leak_2 rfl (lv_at hl 0 rfl) ?_
    refine zget hx hb hts hown hK hP hin_5 0 rfl rfl 6 (by decide) mw_97 (v := .int (w0 6)) rfl dX5_leak_3 ?_
    refine lv_aload_n hx hb dX5_leak_6 rfl (lv_at hl 1 rfl) ?_
    refine zgetN hx hb hts hG hown hK hP hin_6 1 rfl rfl 5 (by decide) (host := "Embayed") (List.mem_of_getElem? (i := 35) rfl) (v := .int (w1 0 5)) rfl dX5_leak_7 ?_
    refine lv_iadd hx hb dX5_leak_10 ?_
    refine lv_aload_n hx hb dX5_leak_11 rfl (lv_at hl 1 rfl) ?_
    refine zgetN hx hb hts hG hown hK hP hin_6 1 rfl rfl 6 (by decide) (host := "Embayed") (List.mem_of_getElem? (i := 36) rfl) (v := .int (w1 0 6)) rfl dX5_leak_12 ?_
    refine lv_bipush (v := (10 : Int32)) hx hb dX5_leak_15 (by decide) ?_
    refine lv_idiv hx hb dX5_leak_17 (by decide) ?_
    refine lv_isub hx hb dX5_leak_18 ?_
    refine z_mmax hx hb hml hl.1 hts hown mw_350 (Nat.le_of_ble_eq_true rfl) (Nat.le_of_ble_eq_true rfl) (Nat.zero_le _) (Nat.zero_le _) dX5_leak_19 ?_
    refine zput hx hb hts hown hK hP hD hS hin_5 tyX5 tyX5_ok nmX5 0 rfl rfl 6 (by decide) mw_97 rfl (v := .int (zmax (0 : Int32) (((w0 6) + (w1 0 5)) - ((w1 0 6) / (10 : Int32))))) rfl rfl (Nat.le_of_ble_eq_true rfl) (wn := (zW_56 cy h0 (ups w0 6 (zmax (0 : Int32) (((w0 6) + (w1 0 5)) - ((w1 0 6) / (10 : Int32))))) h1 w1)) rfl dX5_leak_22 (fun H locs hP hD hS => ?_)
    refine lv_aload_n hx hb dX5_leak_25 rfl (lv_at hl 0 rfl) ?_
    refine zget hx hb hts hown hK hP hin_5 0 rfl rfl 6 (by decide) mw_97 (v := .int (zmax (0 : Int32) (((w0 6) + (w1 0 5)) - ((w1 0 6) / (10 : Int32))))) rfl dX5_leak_26 ?_
    refine lv_bipush (v := (100 : Int32)) hx hb dX5_leak_29 (by decide) ?_
    refine lv_icmp_lt (tgt := 59) hx hb dX5_leak_31 (by decide) (fun hc => ?_) (fun hc => ?_)
    · have hf := it_t hc hf
      exact zretV hx hb hr hlocks hP hK hD hS hf rfl dX5_leak_59
    · have hf := it_f hc hf
      refine lv_aload_n hx hb dX5_leak_34 rfl (lv_at hl 0 rfl) ?_
      refine lv_bipush (v := (100 : Int32)) hx hb dX5_leak_35 (by decide) ?_
      refine zput hx hb hts hown hK hP hD hS hin_5 tyX5 tyX5_ok nmX5 0 rfl rfl 6 (by decide) mw_97 rfl (v := .int (100 : Int32)) rfl rfl (Nat.le_of_ble_eq_true rfl) (wn := (zW_56 cy h0 (ups w0 6 (100 : Int32)) h1 w1)) rfl dX5_leak_37 (fun H locs hP hD hS => ?_)
      refine lv_aload_n hx hb dX5_leak_40 rfl (lv_at hl 0 rfl) ?_
      refine lv_bipush (v := (7 : Int32)) hx hb dX5_leak_41 (by decide) ?_
      refine lv_aload_n hx hb dX5_leak_43 rfl (lv_at hl 0 rfl) ?_
      refine lv_aload_n hx hb dX5_leak_44 rfl (lv_at hl 1 rfl) ?_
      obtain ⟨r2, hq1, hf⟩ := ob1_d hf
      refine zroV (q := (RX5, TX5, 17)) (As := [.ref (h1 0)]) (rest := [.int (7 : Int32), .ref h0]) (r := r2) ⟨hx, hb, hml, hown, hts⟩ (kX5_tideIn l dC dI cy h0 (ups w0 6 (100 : Int32)) h1 w1 r2 hq1) mw_324 mw_282 mw_283 mw_6 mw_284 hdX5_tideIn rfl rfl ⟨Nat.le_of_ble_eq_true rfl, Nat.le_of_ble_eq_true rfl⟩ hP hK hG hS 0 rfl rfl [0, 1, 2, 3, 4, 5, 6, 7, 8, 9] rfl rfl hl.1 rfl (Nat.le_of_ble_eq_true rfl) dX5_leak_45 ⟨Nat.zero_le _, Nat.zero_le _⟩ ?_
      refine lv_aload_n hx hb dX5_leak_48 rfl (lv_at hl 1 rfl) ?_
      refine lv_aload_n hx hb dX5_leak_49 rfl (lv_at hl 0 rfl) ?_
      refine zget hx hb hts hown hK hP hin_5 0 rfl rfl 9 (by decide) mw_100 (v := .int (w0 9)) rfl dX5_leak_50 ?_
      obtain ⟨r4, hq3, hf⟩ := ob1_d hf
      refine zroV (q := (RX6, TX6, 10)) (As := [.int (w0 9)]) (rest := [.int r2, .int (7 : Int32), .ref h0]) (r := r4) ⟨hx, hb, hml, hown, hts⟩ (kX6_isDarkAt l dC dI cy h1 w1 (w0 9) r4 hq3) mw_337 mw_338 mw_339 mw_3 mw_340 hdX6_isDarkAt rfl rfl ⟨Nat.le_of_ble_eq_true rfl, Nat.le_of_ble_eq_true rfl⟩ hP hK hG hS 1 rfl rfl [1, 2, 3, 4, 5, 6, 7, 8, 9] rfl rfl hl.1 rfl (Nat.le_of_ble_eq_true rfl) dX5_leak_53 ⟨Nat.zero_le _, Nat.zero_le _⟩ ?_
      obtain ⟨u6, hq5, hf⟩ := ob1_d hf
      refine zwvV (q := (RX5, TX5, 17)) (As := [.int (7 : Int32), .int r2, .int r4]) (rest := []) (u := u6) (wn := (zW_56 cy h0 u6 h1 w1)) ⟨hx, hb, hml, hown, hts⟩ (kX5_endAs l dC dI cy h0 (ups w0 6 (100 : Int32)) (7 : Int32) r2 r4 H.size u6 hq5) mw_341 mw_342 mw_887 mw_6 mw_343 hdX5_endAs rfl rfl ⟨Nat.le_of_ble_eq_true rfl, Nat.le_of_ble_eq_true rfl⟩ hP hK hG hS 0 rfl rfl hD hA [0] [1, 2, 3, 4, 5, 6, 7, 8, 9] [9, 0, 1, 2, 3, 4, 5, 6, 7, 8] rfl rfl rfl rfl (by decide) rfl rfl rfl hl.1 rfl (Nat.le_of_ble_eq_true rfl) dX5_leak_56 ⟨Nat.zero_le _, Nat.zero_le _⟩ (fun H locs hP hD hS => ?_)
      exact zretV hx hb hr hlocks hP hK hD hS hf rfl dX5_leak_59
  exact kE s.heap [] hP hD hS
set_option maxHeartbeats 4000000 in
set_option maxRecDepth 100000 in
theorem kX5_settleKind (l : Launch) (dC : Nat → ClassId) (dI : Nat → Nat → Nat) (cy : ClassId) (h0 : Nat) (w0 : Nat → Int32) (h1 : Nat → Nat) (w1 : Nat → Nat → Int32) (x2 : Int32) (sz : Nat) (z : (Nat → Int32)) (hf : fX5_settleKind w0 w1 x2 = some z) : Met l yX5_settleKind (wsM yX5_settleKind cX5_settleKind 3 none) ({ frames := 2, cells := 0, slots := 0, locals := 45 } : Room) (va_Pc [.ref h0, .ref (h1 0), .int x2] (pWR (dC, dI) vwCl [(cy, .int)] (zW_56 cy h0 w0 h1 w1) sz)) (va_Qv (fun (v : (Nat → Int32)) => v = z) (fun v => aWR (dC, dI) vwCl [(cy, .int)] (va_A (zW_56 cy h0 w0 h1 w1) sz) (zW_56 cy h0 v h1 w1)) (va_A (zW_56 cy h0 w0 h1 w1) sz)) 0 0 (va_A (zW_56 cy h0 w0 h1 w1) sz) := by
  refine Met.ofW (cc := cX5_settleKind) (maxL := 3) (ret := none) (by decide) rfl ?_
  intro p e s m args below meth c s₁ B hml hv
  obtain ⟨ha, hsz, hP, hK, hD0, hG⟩ := hv
  have hx := B.exec
  have hb := B.bytes
  have hr := B.returns
  have hts : ∀ w ∈ wsA, w.before args s = true := fun w h => atoms_spec (ws := wsM yX5_settleKind cX5_settleKind 3 none) B.pre w (List.mem_cons_of_mem _ h)
  have hown : s.vm.findClass RX5 = some m.cls := findClass_of_methodNamed B.named
  have hlocks := B.notSynchronized
  subst hsz
  have hD := hD0.self (sz := s.heap.size)
  generalize hAe : va_A (zW_56 cy h0 w0 h1 w1) s.heap.size = A at hD hG ⊢
  have hA : ∀ q : Nat, s.heap.size ≤ q → A q := fun q h => by rw [← hAe]; exact Or.inr h
  have hS : va_S A s.heap s.heap [] := va_S.rf
  have hP : va_P (dC, dI) vwCl (zW_56 cy h0 w0 h1 w1) s.heap := hP
  have hD : va_D A (zW_56 cy h0 w0 h1 w1) := hD
  have k26 : ∀ (c0_0 : (Nat → Int32)) (t1 : Int32) (H : Heap) (locs : List Loc) (ls : Array Slot), va_P (dC, dI) vwCl (zW_56 cy h0 c0_0 h1 w1) H → va_D A (zW_56 cy h0 c0_0 h1 w1) → va_S A s.heap H locs → lv_has ls 3 [] → (fX5_settleKind_26 w1) c0_0 t1 = some z → W p l e ({ frames := 2, cells := 0, slots := 0, locals := 45 } : Room) s m args below meth c H locs 0 0 (MQ below (va_Qv (fun (v : (Nat → Int32)) => v = z) (fun v => aWR (dC, dI) vwCl [(cy, .int)] A (zW_56 cy h0 v h1 w1)) A) args s 0 0 A) (F0 m 26 ls [.int t1, .ref h0]) := by
    intro c0_0 t1 H locs ls hP hD hS hl hf
    unfold fX5_settleKind_26 at hf
    refine zput hx hb hts hown hK hP hD hS hin_5 tyX5 tyX5_ok nmX5 0 rfl rfl 10 (by decide) mw_101 rfl (v := .int t1) rfl rfl (Nat.le_of_ble_eq_true rfl) (wn := (zW_56 cy h0 (ups c0_0 10 t1) h1 w1)) rfl dX5_settleKind_26 (fun H locs hP hD hS => ?_)
    exact zretV hx hb hr hlocks hP hK hD hS hf rfl dX5_settleKind_29
  have k25 : ∀ (c0_0 : (Nat → Int32)) (H : Heap) (locs : List Loc) (ls : Array Slot), va_P (dC, dI) vwCl (zW_56 cy h0 c0_0 h1 w1) H → va_D A (zW_56 cy h0 c0_0 h1 w1) → va_S A s.heap H locs → lv_has ls 3 [] → (fX5_settleKind_25 w1) c0_0 = some z → W p l e ({ frames := 2, cells := 0, slots := 0, locals := 45 } : Room) s m args below meth c H locs 0 0 (MQ below (va_Qv (fun (v : (Nat → Int32)) => v = z) (fun v => aWR (dC, dI) vwCl [(cy, .int)] A (zW_56 cy h0 v h1 w1)) A) args s 0 0 A) (F0 m 25 ls [.ref h0]) := by
    intro c0_0 H locs ls hP hD hS hl hf
    unfold fX5_settleKind_25 at hf
    refine lv_iconst (v := (1 : Int32)) hx hb dX5_settleKind_25 (by decide) ?_
    exact k26 c0_0 (1 : Int32) H locs ls hP hD hS (lv_sub hl [] rfl) hf
  obtain ⟨ls, hl, he⟩ := zent (m := m) (n := 3) (L := [(0, .ref h0), (1, .ref (h1 0)), (2, .int x2)]) ha (Nat.le_of_ble_eq_true rfl) rfl
  refine W.eq he ?_
  unfold fX5_settleKind at hf
  have kE : ∀ (H : Heap) (locs : List Loc), va_P (dC, dI) vwCl (zW_56 cy h0 w0 h1 w1) H → va_D A (zW_56 cy h0 w0 h1 w1) → va_S A s.heap H locs → W p l e ({ frames := 2, cells := 0, slots := 0, locals := 45 } : Room) s m args below meth c H locs 0 0 (MQ below (va_Qv (fun (v : (Nat → Int32)) => v = z) (fun v => aWR (dC, dI) vwCl [(cy, .int)] A (zW_56 cy h0 v h1 w1)) A) args s 0 0 A) (F0 m 0 ls []) := by
    intro H locs hP hD hS
    refine lv_aload_n hx hb dX5_settleKind_0 rfl (lv_at hl 0 rfl) ?_
    refine lv_iload_n hx hb dX5_settleKind_1 rfl (lv_at hl 2 rfl) ?_
    refine lv_if_le (tgt := 25) hx hb dX5_settleKind_2 (by decide) (fun hc => ?_) (fun hc => ?_)
    · have hf := it_t hc hf
      exact k25 w0 H locs ls hP hD hS (lv_sub hl [] rfl) hf
    · have hf := it_f hc hf
      refine lv_aload_n hx hb dX5_settleKind_5 rfl (lv_at hl 0 rfl) ?_
      refine zget hx hb hts hown hK hP hin_5 0 rfl rfl 2 (by decide) mw_93 (v := .int (w0 2)) rfl dX5_settleKind_6 ?_
      refine lv_aload_n hx hb dX5_settleKind_9 rfl (lv_at hl 0 rfl) ?_
      refine lv_aload_n hx hb dX5_settleKind_10 rfl (lv_at hl 1 rfl) ?_
      obtain ⟨r2, hq1, hf⟩ := ob1_d hf
      refine zroV (q := (RX5, TX5, 17)) (As := [.ref (h1 0)]) (rest := [.int (w0 2), .ref h0]) (r := r2) ⟨hx, hb, hml, hown, hts⟩ (kX5_windIn l dC dI cy h0 w0 h1 w1 r2 hq1) mw_315 mw_264 mw_265 mw_6 mw_266 hdX5_windIn rfl rfl ⟨Nat.le_of_ble_eq_true rfl, Nat.le_of_ble_eq_true rfl⟩ hP hK hG hS 0 rfl rfl [0, 1, 2, 3, 4, 5, 6, 7, 8, 9] rfl rfl hl.1 rfl (Nat.le_of_ble_eq_true rfl) dX5_settleKind_11 ⟨Nat.zero_le _, Nat.zero_le _⟩ ?_
      obtain ⟨r4, hq3, hf⟩ := ob1_d hf
      refine zroSN (As := [.int (w0 2), .int r2]) (rest := [.ref h0]) (r := r4) ⟨hx, hb, hml, hown, hts⟩ (kX7_apart l dC dI cy (w0 2) r2 r4 hq3) (List.mem_of_getElem? (i := 9) rfl) mw_316 mw_1 mw_317 hdX7_apart rfl rfl ⟨Nat.le_of_ble_eq_true rfl, Nat.le_of_ble_eq_true rfl⟩ hP hK hG hS [] rfl rfl hl.1 rfl (Nat.le_of_ble_eq_true rfl) dX5_settleKind_14 ⟨Nat.zero_le _, Nat.zero_le _⟩ ?_
      refine lv_iconst (v := (2 : Int32)) hx hb dX5_settleKind_17 (by decide) ?_
      refine lv_icmp_ge (tgt := 25) hx hb dX5_settleKind_18 (by decide) (fun hc => ?_) (fun hc => ?_)
      · have hf := it_t hc hf
        exact k25 w0 H locs ls hP hD hS (lv_sub hl [] rfl) hf
      · have hf := it_f hc hf
        refine lv_iconst (v := (0 : Int32)) hx hb dX5_settleKind_21 (by decide) ?_
        refine lv_goto (tgt := 26) hx hb dX5_settleKind_22 (by decide) ?_
        exact k26 w0 (0 : Int32) H locs ls hP hD hS (lv_sub hl [] rfl) hf
  exact kE s.heap [] hP hD hS
set_option maxHeartbeats 4000000 in
set_option maxRecDepth 100000 in
theorem kX5_passTen (l : Launch) (dC : Nat → ClassId) (dI : Nat → Nat → Nat) (cy : ClassId) (h0 : Nat) (w0 : Nat → Int32) (h1 : Nat → Nat) (w1 : Nat → Nat → Int32) (sz : Nat) (z : (Nat → Int32)) (hf : fX5_passTen w0 w1 = some z) : Met l yX5_passTen (wsM yX5_passTen cX5_passTen 3 none) ({ frames := 4, cells := 0, slots := 0, locals := 93 } : Room) (va_Pc [.ref h0, .ref (h1 0)] (pWR (dC, dI) vwCl [(cy, .int)] (zW_56 cy h0 w0 h1 w1) sz)) (va_Qv (fun (v : (Nat → Int32)) => v = z) (fun v => aWR (dC, dI) vwCl [(cy, .int)] (va_A (zW_56 cy h0 w0 h1 w1) sz) (zW_56 cy h0 v h1 w1)) (va_A (zW_56 cy h0 w0 h1 w1) sz)) 0 0 (va_A (zW_56 cy h0 w0 h1 w1) sz) := by
  refine Met.ofW (cc := cX5_passTen) (maxL := 3) (ret := none) (by decide) rfl ?_
  intro p e s m args below meth c s₁ B hml hv
  obtain ⟨ha, hsz, hP, hK, hD0, hG⟩ := hv
  have hx := B.exec
  have hb := B.bytes
  have hr := B.returns
  have hts : ∀ w ∈ wsA, w.before args s = true := fun w h => atoms_spec (ws := wsM yX5_passTen cX5_passTen 3 none) B.pre w (List.mem_cons_of_mem _ h)
  have hown : s.vm.findClass RX5 = some m.cls := findClass_of_methodNamed B.named
  have hlocks := B.notSynchronized
  subst hsz
  have hD := hD0.self (sz := s.heap.size)
  generalize hAe : va_A (zW_56 cy h0 w0 h1 w1) s.heap.size = A at hD hG ⊢
  have hA : ∀ q : Nat, s.heap.size ≤ q → A q := fun q h => by rw [← hAe]; exact Or.inr h
  have hS : va_S A s.heap s.heap [] := va_S.rf
  have hP : va_P (dC, dI) vwCl (zW_56 cy h0 w0 h1 w1) s.heap := hP
  have hD : va_D A (zW_56 cy h0 w0 h1 w1) := hD
  have k80 : ∀ (c0_0 : (Nat → Int32)) (H : Heap) (locs : List Loc) (ls : Array Slot), va_P (dC, dI) vwCl (zW_56 cy h0 c0_0 h1 w1) H → va_D A (zW_56 cy h0 c0_0 h1 w1) → va_S A s.heap H locs → lv_has ls 3 [(0, .ref h0)] → (fX5_passTen_80 w1) c0_0 = some z → W p l e ({ frames := 4, cells := 0, slots := 0, locals := 93 } : Room) s m args below meth c H locs 0 0 (MQ below (va_Qv (fun (v : (Nat → Int32)) => v = z) (fun v => aWR (dC, dI) vwCl [(cy, .int)] A (zW_56 cy h0 v h1 w1)) A) args s 0 0 A) (F0 m 80 ls []) := by
    intro c0_0 H locs ls hP hD hS hl hf
    unfold fX5_passTen_80 at hf
    refine lv_aload_n hx hb dX5_passTen_80 rfl (lv_at hl 0 rfl) ?_
    refine lv_dup hx hb dX5_passTen_81 rfl ?_
    refine zget hx hb hts hown hK hP hin_5 0 rfl rfl 9 (by decide) mw_100 (v := .int (c0_0 9)) rfl dX5_passTen_82 ?_
    refine lv_iconst (v := (1 : Int32)) hx hb dX5_passTen_85 (by decide) ?_
    refine lv_iadd hx hb dX5_passTen_86 ?_
    refine zput hx hb hts hown hK hP hD hS hin_5 tyX5 tyX5_ok nmX5 0 rfl rfl 9 (by decide) mw_100 rfl (v := .int ((c0_0 9) + (1 : Int32))) rfl rfl (Nat.le_of_ble_eq_true rfl) (wn := (zW_56 cy h0 (ups c0_0 9 ((c0_0 9) + (1 : Int32))) h1 w1)) rfl dX5_passTen_87 (fun H locs hP hD hS => ?_)
    exact zretV hx hb hr hlocks hP hK hD hS hf rfl dX5_passTen_90
  have k59 : ∀ (c0_0 : (Nat → Int32)) (x2 : Int32) (H : Heap) (locs : List Loc) (ls : Array Slot), va_P (dC, dI) vwCl (zW_56 cy h0 c0_0 h1 w1) H → va_D A (zW_56 cy h0 c0_0 h1 w1) → va_S A s.heap H locs → lv_has ls 3 [(0, .ref h0), (1, .ref (h1 0)), (2, .int x2)] → (fX5_passTen_59 w1) c0_0 x2 = some z → W p l e ({ frames := 4, cells := 0, slots := 0, locals := 93 } : Room) s m args below meth c H locs 0 0 (MQ below (va_Qv (fun (v : (Nat → Int32)) => v = z) (fun v => aWR (dC, dI) vwCl [(cy, .int)] A (zW_56 cy h0 v h1 w1)) A) args s 0 0 A) (F0 m 59 ls []) := by
    intro c0_0 x2 H locs ls hP hD hS hl hf
    unfold fX5_passTen_59 at hf
    refine lv_aload_n hx hb dX5_passTen_59 rfl (lv_at hl 0 rfl) ?_
    obtain ⟨r10, hq9, hf⟩ := ob1_d hf
    refine zroV (q := (RX5, TX5, 17)) (As := []) (rest := []) (r := r10) ⟨hx, hb, hml, hown, hts⟩ (kX5_isEnded l dC dI cy h0 c0_0 r10 hq9) mw_308 mw_309 mw_310 mw_6 mw_311 hdX5_isEnded rfl rfl ⟨Nat.le_of_ble_eq_true rfl, Nat.le_of_ble_eq_true rfl⟩ hP hK hG hS 0 rfl rfl [0] rfl rfl hl.1 rfl (Nat.le_of_ble_eq_true rfl) dX5_passTen_60 ⟨Nat.zero_le _, Nat.zero_le _⟩ ?_
    refine lv_if_ne (tgt := 80) hx hb dX5_passTen_63 (by decide) (fun hc => ?_) (fun hc => ?_)
    · have hf := it_f hc hf
      exact k80 c0_0 H locs ls hP hD hS (lv_sub hl [0] rfl) hf
    · have hf := it_t hc hf
      refine lv_aload_n hx hb dX5_passTen_66 rfl (lv_at hl 0 rfl) ?_
      refine zget hx hb hts hown hK hP hin_5 0 rfl rfl 10 (by decide) mw_101 (v := .int (c0_0 10)) rfl dX5_passTen_67 ?_
      refine lv_iconst (v := (4 : Int32)) hx hb dX5_passTen_70 (by decide) ?_
      refine lv_icmp_eq (tgt := 80) hx hb dX5_passTen_71 (by decide) (fun hc => ?_) (fun hc => ?_)
      · have hf := it_t hc hf
        exact k80 c0_0 H locs ls hP hD hS (lv_sub hl [0] rfl) hf
      · have hf := it_f hc hf
        refine lv_aload_n hx hb dX5_passTen_74 rfl (lv_at hl 0 rfl) ?_
        refine lv_aload_n hx hb dX5_passTen_75 rfl (lv_at hl 1 rfl) ?_
        refine lv_iload_n hx hb dX5_passTen_76 rfl (lv_at hl 2 rfl) ?_
        obtain ⟨u12, hq11, hf⟩ := ob1_d hf
        refine zwvV (q := (RX5, TX5, 17)) (As := [.ref (h1 0), .int x2]) (rest := []) (u := u12) (wn := (zW_56 cy h0 u12 h1 w1)) ⟨hx, hb, hml, hown, hts⟩ (kX5_settleKind l dC dI cy h0 c0_0 h1 w1 x2 H.size u12 hq11) mw_353 mw_354 mw_890 mw_6 mw_355 hdX5_settleKind rfl rfl ⟨Nat.le_of_ble_eq_true rfl, Nat.le_of_ble_eq_true rfl⟩ hP hK hG hS 0 rfl rfl hD hA [0, 1, 2, 3, 4, 5, 6, 7, 8, 9] [] [0, 1, 2, 3, 4, 5, 6, 7, 8, 9] rfl rfl rfl rfl (by decide) rfl rfl rfl hl.1 rfl (Nat.le_of_ble_eq_true rfl) dX5_passTen_77 ⟨Nat.zero_le _, Nat.zero_le _⟩ (fun H locs hP hD hS => ?_)
        exact k80 u12 H locs ls hP hD hS (lv_sub hl [0] rfl) hf
  have k47 : ∀ (c0_0 : (Nat → Int32)) (x2 : Int32) (H : Heap) (locs : List Loc) (ls : Array Slot), va_P (dC, dI) vwCl (zW_56 cy h0 c0_0 h1 w1) H → va_D A (zW_56 cy h0 c0_0 h1 w1) → va_S A s.heap H locs → lv_has ls 3 [(0, .ref h0), (1, .ref (h1 0)), (2, .int x2)] → (fX5_passTen_47 w1) c0_0 x2 = some z → W p l e ({ frames := 4, cells := 0, slots := 0, locals := 93 } : Room) s m args below meth c H locs 0 0 (MQ below (va_Qv (fun (v : (Nat → Int32)) => v = z) (fun v => aWR (dC, dI) vwCl [(cy, .int)] A (zW_56 cy h0 v h1 w1)) A) args s 0 0 A) (F0 m 47 ls []) := by
    intro c0_0 x2 H locs ls hP hD hS hl hf
    unfold fX5_passTen_47 at hf
    refine lv_aload_n hx hb dX5_passTen_47 rfl (lv_at hl 0 rfl) ?_
    obtain ⟨r8, hq7, hf⟩ := ob1_d hf
    refine zroV (q := (RX5, TX5, 17)) (As := []) (rest := []) (r := r8) ⟨hx, hb, hml, hown, hts⟩ (kX5_isEnded l dC dI cy h0 c0_0 r8 hq7) mw_308 mw_309 mw_310 mw_6 mw_311 hdX5_isEnded rfl rfl ⟨Nat.le_of_ble_eq_true rfl, Nat.le_of_ble_eq_true rfl⟩ hP hK hG hS 0 rfl rfl [0] rfl rfl hl.1 rfl (Nat.le_of_ble_eq_true rfl) dX5_passTen_48 ⟨Nat.zero_le _, Nat.zero_le _⟩ ?_
    refine lv_if_ne (tgt := 59) hx hb dX5_passTen_51 (by decide) (fun hc => ?_) (fun hc => ?_)
    · have hf := it_f hc hf
      exact k59 c0_0 x2 H locs ls hP hD hS (lv_sub hl [0, 1, 2] rfl) hf
    · have hf := it_t hc hf
      refine lv_aload_n hx hb dX5_passTen_54 rfl (lv_at hl 0 rfl) ?_
      refine lv_aload_n hx hb dX5_passTen_55 rfl (lv_at hl 1 rfl) ?_
      obtain ⟨u14, hq13, hf⟩ := ob1_d hf
      refine zwvV (q := (RX5, TX5, 17)) (As := [.ref (h1 0)]) (rest := []) (u := u14) (wn := (zW_56 cy h0 u14 h1 w1)) ⟨hx, hb, hml, hown, hts⟩ (kX5_leak l dC dI cy h0 c0_0 h1 w1 H.size u14 hq13) mw_347 mw_348 mw_889 mw_6 mw_349 hdX5_leak rfl rfl ⟨Nat.le_of_ble_eq_true rfl, Nat.le_of_ble_eq_true rfl⟩ hP hK hG hS 0 rfl rfl hD hA [0, 1, 2, 3, 4, 5, 6, 7, 8, 9] [] [0, 1, 2, 3, 4, 5, 6, 7, 8, 9] rfl rfl rfl rfl (by decide) rfl rfl rfl hl.1 rfl (Nat.le_of_ble_eq_true rfl) dX5_passTen_56 ⟨Nat.zero_le _, Nat.zero_le _⟩ (fun H locs hP hD hS => ?_)
      exact k59 u14 x2 H locs ls hP hD hS (lv_sub hl [0, 1, 2] rfl) hf
  have k24 : ∀ (c0_0 : (Nat → Int32)) (t0 : Int32) (H : Heap) (locs : List Loc) (ls : Array Slot), va_P (dC, dI) vwCl (zW_56 cy h0 c0_0 h1 w1) H → va_D A (zW_56 cy h0 c0_0 h1 w1) → va_S A s.heap H locs → lv_has ls 3 [(0, .ref h0), (1, .ref (h1 0))] → (fX5_passTen_24 w1) c0_0 t0 = some z → W p l e ({ frames := 4, cells := 0, slots := 0, locals := 93 } : Room) s m args below meth c H locs 0 0 (MQ below (va_Qv (fun (v : (Nat → Int32)) => v = z) (fun v => aWR (dC, dI) vwCl [(cy, .int)] A (zW_56 cy h0 v h1 w1)) A) args s 0 0 A) (F0 m 24 ls [.int t0]) := by
    intro c0_0 t0 H locs ls hP hD hS hl hf
    unfold fX5_passTen_24 at hf
    refine lv_istore_n (lv' := [(2, .int t0), (0, .ref h0), (1, .ref (h1 0))]) hx hb dX5_passTen_24 rfl hl (by decide) rfl (fun ls hl => ?_)
    refine lv_aload_n hx hb dX5_passTen_25 rfl (lv_at hl 1 rfl) ?_
    refine zget hx hb hts hown hK hP hin_5 0 rfl rfl 10 (by decide) mw_101 (v := .int (c0_0 10)) rfl dX5_passTen_26 ?_
    refine lv_iconst (v := (4 : Int32)) hx hb dX5_passTen_29 (by decide) ?_
    refine lv_icmp_ne (tgt := 41) hx hb dX5_passTen_30 (by decide) (fun hc => ?_) (fun hc => ?_)
    · have hf := it_f hc hf
      refine lv_aload_n hx hb dX5_passTen_41 rfl (lv_at hl 1 rfl) ?_
      refine lv_aload_n hx hb dX5_passTen_42 rfl (lv_at hl 2 rfl) ?_
      refine lv_iload_n hx hb dX5_passTen_43 rfl (lv_at hl 0 rfl) ?_
      obtain ⟨u6, hq5, hf⟩ := ob1_d hf
      refine zwvV (q := (RX5, TX5, 17)) (As := [.ref (h1 0), .int t0]) (rest := []) (u := u6) (wn := (zW_56 cy h0 u6 h1 w1)) ⟨hx, hb, hml, hown, hts⟩ (kX5_goOn l dC dI cy h0 c0_0 h1 w1 t0 H.size u6 hq5) mw_344 mw_345 mw_888 mw_6 mw_346 hdX5_goOn rfl rfl ⟨Nat.le_of_ble_eq_true rfl, Nat.le_of_ble_eq_true rfl⟩ hP hK hG hS 0 rfl rfl hD hA [0, 1, 2, 3, 4, 5, 6, 7, 8, 9] [] [0, 1, 2, 3, 4, 5, 6, 7, 8, 9] rfl rfl rfl rfl (by decide) rfl rfl rfl hl.1 rfl (Nat.le_of_ble_eq_true rfl) dX5_passTen_44 ⟨Nat.zero_le _, Nat.zero_le _⟩ (fun H locs hP hD hS => ?_)
      exact k47 u6 t0 H locs ls hP hD hS (lv_sub hl [1, 2, 0] rfl) hf
    · have hf := it_t hc hf
      refine lv_aload_n hx hb dX5_passTen_33 rfl (lv_at hl 1 rfl) ?_
      refine lv_aload_n hx hb dX5_passTen_34 rfl (lv_at hl 2 rfl) ?_
      obtain ⟨u16, hq15, hf⟩ := ob1_d hf
      refine zwvV (q := (RX5, TX5, 17)) (As := [.ref (h1 0)]) (rest := []) (u := u16) (wn := (zW_56 cy h0 u16 h1 w1)) ⟨hx, hb, hml, hown, hts⟩ (kX5_strainAtAnchor l dC dI cy h0 c0_0 h1 w1 H.size u16 hq15) mw_320 mw_321 mw_885 mw_6 mw_322 hdX5_strainAtAnchor rfl rfl ⟨Nat.le_of_ble_eq_true rfl, Nat.le_of_ble_eq_true rfl⟩ hP hK hG hS 0 rfl rfl hD hA [0, 1, 2, 3, 4, 5, 6, 7, 8, 9] [] [0, 1, 2, 3, 4, 5, 6, 7, 8, 9] rfl rfl rfl rfl (by decide) rfl rfl rfl hl.1 rfl (Nat.le_of_ble_eq_true rfl) dX5_passTen_35 ⟨Nat.zero_le _, Nat.zero_le _⟩ (fun H locs hP hD hS => ?_)
      refine lv_goto (tgt := 47) hx hb dX5_passTen_38 (by decide) ?_
      exact k47 u16 t0 H locs ls hP hD hS (lv_sub hl [1, 2, 0] rfl) hf
  obtain ⟨ls, hl, he⟩ := zent (m := m) (n := 3) (L := [(0, .ref h0), (1, .ref (h1 0))]) ha (Nat.le_of_ble_eq_true rfl) rfl
  refine W.eq he ?_
  unfold fX5_passTen at hf
  have kE : ∀ (H : Heap) (locs : List Loc), va_P (dC, dI) vwCl (zW_56 cy h0 w0 h1 w1) H → va_D A (zW_56 cy h0 w0 h1 w1) → va_S A s.heap H locs → W p l e ({ frames := 4, cells := 0, slots := 0, locals := 93 } : Room) s m args below meth c H locs 0 0 (MQ below (va_Qv (fun (v : (Nat → Int32)) => v = z) (fun v => aWR (dC, dI) vwCl [(cy, .int)] A (zW_56 cy h0 v h1 w1)) A) args s 0 0 A) (F0 m 0 ls []) := by
    intro H locs hP hD hS
    refine lv_aload_n hx hb dX5_passTen_0 rfl (lv_at hl 0 rfl) ?_
    obtain ⟨r2, hq1, hf⟩ := ob1_d hf
    refine zroV (q := (RX5, TX5, 17)) (As := []) (rest := []) (r := r2) ⟨hx, hb, hml, hown, hts⟩ (kX5_isEnded l dC dI cy h0 w0 r2 hq1) mw_308 mw_309 mw_310 mw_6 mw_311 hdX5_isEnded rfl rfl ⟨Nat.le_of_ble_eq_true rfl, Nat.le_of_ble_eq_true rfl⟩ hP hK hG hS 0 rfl rfl [0] rfl rfl hl.1 rfl (Nat.le_of_ble_eq_true rfl) dX5_passTen_1 ⟨Nat.zero_le _, Nat.zero_le _⟩ ?_
    refine lv_if_ne (tgt := 80) hx hb dX5_passTen_4 (by decide) (fun hc => ?_) (fun hc => ?_)
    · have hf := it_f hc hf
      exact k80 w0 H locs ls hP hD hS (lv_sub hl [0] rfl) hf
    · have hf := it_t hc hf
      refine lv_aload_n hx hb dX5_passTen_7 rfl (lv_at hl 0 rfl) ?_
      refine zget hx hb hts hown hK hP hin_5 0 rfl rfl 10 (by decide) mw_101 (v := .int (w0 10)) rfl dX5_passTen_8 ?_
      refine lv_iconst (v := (4 : Int32)) hx hb dX5_passTen_11 (by decide) ?_
      refine lv_icmp_ne (tgt := 19) hx hb dX5_passTen_12 (by decide) (fun hc => ?_) (fun hc => ?_)
      · have hf := it_f hc hf
        refine lv_aload_n hx hb dX5_passTen_19 rfl (lv_at hl 0 rfl) ?_
        refine lv_aload_n hx hb dX5_passTen_20 rfl (lv_at hl 1 rfl) ?_
        obtain ⟨r4, hq3, hf⟩ := ob1_d hf
        refine zroV (q := (RX5, TX5, 17)) (As := [.ref (h1 0)]) (rest := []) (r := r4) ⟨hx, hb, hml, hown, hts⟩ (kX5_paceIn l dC dI cy h0 w0 h1 w1 r4 hq3) mw_312 mw_313 mw_884 mw_6 mw_314 hdX5_paceIn rfl rfl ⟨Nat.le_of_ble_eq_true rfl, Nat.le_of_ble_eq_true rfl⟩ hP hK hG hS 0 rfl rfl [0, 1, 2, 3, 4, 5, 6, 7, 8, 9] rfl rfl hl.1 rfl (Nat.le_of_ble_eq_true rfl) dX5_passTen_21 ⟨Nat.zero_le _, Nat.zero_le _⟩ ?_
        exact k24 w0 r4 H locs ls hP hD hS (lv_sub hl [0, 1] rfl) hf
      · have hf := it_t hc hf
        refine lv_iconst (v := (0 : Int32)) hx hb dX5_passTen_15 (by decide) ?_
        refine lv_goto (tgt := 24) hx hb dX5_passTen_16 (by decide) ?_
        exact k24 w0 (0 : Int32) H locs ls hP hD hS (lv_sub hl [0, 1] rfl) hf
  exact kE s.heap [] hP hD hS
set_option maxHeartbeats 4000000 in
set_option maxRecDepth 100000 in
theorem kX5_passTens (l : Launch) (dC : Nat → ClassId) (dI : Nat → Nat → Nat) (cy : ClassId) (h0 : Nat) (w0 : Nat → Int32) (h1 : Nat → Nat) (w1 : Nat → Nat → Int32) (x2 : Int32) (sz : Nat) (z : (Nat → Int32)) (hf : fX5_passTens w0 w1 x2 = some z) : Met l yX5_passTens (wsM yX5_passTens cX5_passTens 4 none) ({ frames := 5, cells := 0, slots := 0, locals := 115 } : Room) (va_Pc [.ref h0, .ref (h1 0), .int x2] (pWR (dC, dI) vwCl [(cy, .int)] (zW_56 cy h0 w0 h1 w1) sz)) (va_Qv (fun (v : (Nat → Int32)) => v = z) (fun v => aWR (dC, dI) vwCl [(cy, .int)] (va_A (zW_56 cy h0 w0 h1 w1) sz) (zW_56 cy h0 v h1 w1)) (va_A (zW_56 cy h0 w0 h1 w1) sz)) 0 0 (va_A (zW_56 cy h0 w0 h1 w1) sz) := by
  refine Met.ofW (cc := cX5_passTens) (maxL := 4) (ret := none) (by decide) rfl ?_
  intro p e s m args below meth c s₁ B hml hv
  obtain ⟨ha, hsz, hP, hK, hD0, hG⟩ := hv
  have hx := B.exec
  have hb := B.bytes
  have hr := B.returns
  have hts : ∀ w ∈ wsA, w.before args s = true := fun w h => atoms_spec (ws := wsM yX5_passTens cX5_passTens 4 none) B.pre w (List.mem_cons_of_mem _ h)
  have hown : s.vm.findClass RX5 = some m.cls := findClass_of_methodNamed B.named
  have hlocks := B.notSynchronized
  subst hsz
  have hD := hD0.self (sz := s.heap.size)
  generalize hAe : va_A (zW_56 cy h0 w0 h1 w1) s.heap.size = A at hD hG ⊢
  have hA : ∀ q : Nat, s.heap.size ≤ q → A q := fun q h => by rw [← hAe]; exact Or.inr h
  have hS : va_S A s.heap s.heap [] := va_S.rf
  have hP : va_P (dC, dI) vwCl (zW_56 cy h0 w0 h1 w1) s.heap := hP
  have hD : va_D A (zW_56 cy h0 w0 h1 w1) := hD
  have k2 : ∀ n : Nat, ∀ (c0_0 : (Nat → Int32)) (x2 : Int32) (x3 : Int32) (H : Heap) (locs : List Loc) (ls : Array Slot), va_P (dC, dI) vwCl (zW_56 cy h0 c0_0 h1 w1) H → va_D A (zW_56 cy h0 c0_0 h1 w1) → va_S A s.heap H locs → lv_has ls 4 [(0, .ref h0), (1, .ref (h1 0)), (2, .int x2), (3, .int x3)] → (zl3 (fX5_passTens_2 w1) n) c0_0 x2 x3 = some z → W p l e ({ frames := 5, cells := 0, slots := 0, locals := 115 } : Room) s m args below meth c H locs 0 0 (MQ below (va_Qv (fun (v : (Nat → Int32)) => v = z) (fun v => aWR (dC, dI) vwCl [(cy, .int)] A (zW_56 cy h0 v h1 w1)) A) args s 0 0 A) (F0 m 2 ls []) := by
    intro n
    induction n with
    | zero =>
      intro c0_0 x2 x3 H locs ls hP hD hS hl hf
      exact z_no hf
    | succ n hs2 =>
      intro c0_0 x2 x3 H locs ls hP hD hS hl hf
      have hf : fX5_passTens_2 w1 (zl3 (fX5_passTens_2 w1) n) c0_0 x2 x3 = some z := hf
      generalize zl3 (fX5_passTens_2 w1) n = s2 at hs2 hf
      unfold fX5_passTens_2 at hf
      refine lv_iload_n hx hb dX5_passTens_2 rfl (lv_at hl 3 rfl) ?_
      refine lv_iload_n hx hb dX5_passTens_3 rfl (lv_at hl 2 rfl) ?_
      refine lv_icmp_ge (tgt := 18) hx hb dX5_passTens_4 (by decide) (fun hc => ?_) (fun hc => ?_)
      · have hf := it_t hc hf
        exact zretV hx hb hr hlocks hP hK hD hS hf rfl dX5_passTens_18
      · have hf := it_f hc hf
        refine lv_aload_n hx hb dX5_passTens_7 rfl (lv_at hl 0 rfl) ?_
        refine lv_aload_n hx hb dX5_passTens_8 rfl (lv_at hl 1 rfl) ?_
        obtain ⟨u2, hq1, hf⟩ := ob1_d hf
        refine zwvV (q := (RX5, TX5, 17)) (As := [.ref (h1 0)]) (rest := []) (u := u2) (wn := (zW_56 cy h0 u2 h1 w1)) ⟨hx, hb, hml, hown, hts⟩ (kX5_passTen l dC dI cy h0 c0_0 h1 w1 H.size u2 hq1) mw_304 mw_305 mw_306 mw_6 mw_307 hdX5_passTen rfl rfl ⟨Nat.le_of_ble_eq_true rfl, Nat.le_of_ble_eq_true rfl⟩ hP hK hG hS 0 rfl rfl hD hA [0, 1, 2, 3, 4, 5, 6, 7, 8, 9] [] [0, 1, 2, 3, 4, 5, 6, 7, 8, 9] rfl rfl rfl rfl (by decide) rfl rfl rfl hl.1 rfl (Nat.le_of_ble_eq_true rfl) dX5_passTens_9 ⟨Nat.zero_le _, Nat.zero_le _⟩ (fun H locs hP hD hS => ?_)
        refine lv_zinc (lv' := [(3, .int (x3 + (1 : Int32))), (0, .ref h0), (1, .ref (h1 0)), (2, .int x2)]) hx hb dX5_passTens_12 hl (k := 3) rfl (v := (1 : Int32)) (by decide) (by decide) rfl (fun ls hl => ?_)
        refine lv_goto (tgt := 2) hx hb dX5_passTens_15 (by decide) ?_
        exact hs2 u2 x2 (x3 + (1 : Int32)) H locs ls hP hD hS (lv_sub hl [1, 2, 3, 0] rfl) hf
  obtain ⟨ls, hl, he⟩ := zent (m := m) (n := 4) (L := [(0, .ref h0), (1, .ref (h1 0)), (2, .int x2)]) ha (Nat.le_of_ble_eq_true rfl) rfl
  refine W.eq he ?_
  unfold fX5_passTens at hf
  have kE : ∀ (H : Heap) (locs : List Loc), va_P (dC, dI) vwCl (zW_56 cy h0 w0 h1 w1) H → va_D A (zW_56 cy h0 w0 h1 w1) → va_S A s.heap H locs → W p l e ({ frames := 5, cells := 0, slots := 0, locals := 115 } : Room) s m args below meth c H locs 0 0 (MQ below (va_Qv (fun (v : (Nat → Int32)) => v = z) (fun v => aWR (dC, dI) vwCl [(cy, .int)] A (zW_56 cy h0 v h1 w1)) A) args s 0 0 A) (F0 m 0 ls []) := by
    intro H locs hP hD hS
    refine lv_iconst (v := (0 : Int32)) hx hb dX5_passTens_0 (by decide) ?_
    refine lv_istore_n (lv' := [(3, .int (0 : Int32)), (0, .ref h0), (1, .ref (h1 0)), (2, .int x2)]) hx hb dX5_passTens_1 rfl hl (by decide) rfl (fun ls hl => ?_)
    exact k2 zFU w0 x2 (0 : Int32) H locs ls hP hD hS (lv_sub hl [1, 2, 3, 0] rfl) hf
  exact kE s.heap [] hP hD hS
set_option maxHeartbeats 4000000 in
set_option maxRecDepth 100000 in
theorem kX5_isAlive (l : Launch) (dC : Nat → ClassId) (dI : Nat → Nat → Nat) (cy : ClassId) (h0 : Nat) (w0 : Nat → Int32) (z : Int32) (hf : fX5_isAlive w0 = some z) : Met l yX5_isAlive (wsM yX5_isAlive cX5_isAlive 1 (some .boolean)) ({ frames := 1, cells := 0, slots := 0, locals := 20 } : Room) (va_Pc [.ref h0] (pRO (dC, dI) vwCl [(cy, .int)] (zW_5 cy h0 w0))) (vp_Si (fun q => q = z)) 0 0 (fun _ => False) := by
  refine Met.ofW (cc := cX5_isAlive) (maxL := 1) (ret := (some .boolean)) (by decide) rfl ?_
  intro p e s m args below meth c s₁ B hml hv
  obtain ⟨ha, hP, hK, hG⟩ := hv
  have hx := B.exec
  have hb := B.bytes
  have hr := B.returns
  have hts : ∀ w ∈ wsA, w.before args s = true := fun w h => atoms_spec (ws := wsM yX5_isAlive cX5_isAlive 1 (some .boolean)) B.pre w (List.mem_cons_of_mem _ h)
  have hown : s.vm.findClass RX5 = some m.cls := findClass_of_methodNamed B.named
  have hlocks := B.notSynchronized
  have hS : va_S (fun _ => False) s.heap s.heap [] := va_S.rf
  obtain ⟨ls, hl, he⟩ := zent (m := m) (n := 1) (L := [(0, .ref h0)]) ha (Nat.le_of_ble_eq_true rfl) rfl
  refine W.eq he ?_
  unfold fX5_isAlive at hf
  have kE : W p l e ({ frames := 1, cells := 0, slots := 0, locals := 20 } : Room) s m args below meth c s.heap [] 0 0 (MQ below (vp_Si (fun q => q = z)) args s 0 0 (fun _ => False)) (F0 m 0 ls []) := by
    refine lv_aload_n hx hb dX5_isAlive_0 rfl (lv_at hl 0 rfl) ?_
    refine zget hx hb hts hown hK hP hin_5 0 rfl rfl 0 (by decide) mw_91 (v := .int (w0 0)) rfl dX5_isAlive_1 ?_
    refine lv_if_eq (tgt := 18) hx hb dX5_isAlive_4 (by decide) (fun hc => ?_) (fun hc => ?_)
    · have hf := it_t hc hf
      refine lv_iconst (v := (0 : Int32)) hx hb dX5_isAlive_18 (by decide) ?_
      exact zretRZ hx hb hr hlocks rfl hf dX5_isAlive_19
    · have hf := it_f hc hf
      refine lv_aload_n hx hb dX5_isAlive_7 rfl (lv_at hl 0 rfl) ?_
      obtain ⟨r2, hq1, hf⟩ := ob1_d hf
      refine zroV (q := (RX5, TX5, 17)) (As := []) (rest := []) (r := r2) ⟨hx, hb, hml, hown, hts⟩ (kX5_isEnded l dC dI cy h0 w0 r2 hq1) mw_308 mw_309 mw_310 mw_6 mw_311 hdX5_isEnded rfl rfl ⟨Nat.le_of_ble_eq_true rfl, Nat.le_of_ble_eq_true rfl⟩ hP hK hG hS 0 rfl rfl [0] rfl rfl hl.1 rfl (Nat.le_of_ble_eq_true rfl) dX5_isAlive_8 ⟨Nat.zero_le _, Nat.zero_le _⟩ ?_
      refine lv_if_ne (tgt := 18) hx hb dX5_isAlive_11 (by decide) (fun hc => ?_) (fun hc => ?_)
      · have hf := it_f hc hf
        refine lv_iconst (v := (0 : Int32)) hx hb dX5_isAlive_18 (by decide) ?_
        exact zretRZ hx hb hr hlocks rfl hf dX5_isAlive_19
      · have hf := it_t hc hf
        refine lv_iconst (v := (1 : Int32)) hx hb dX5_isAlive_14 (by decide) ?_
        refine lv_goto (tgt := 19) hx hb dX5_isAlive_15 (by decide) ?_
        exact zretRZ hx hb hr hlocks rfl hf dX5_isAlive_19
  exact kE
set_option maxHeartbeats 4000000 in
set_option maxRecDepth 100000 in
theorem kX5_mayTurn (l : Launch) (dC : Nat → ClassId) (dI : Nat → Nat → Nat) (cy : ClassId) (h0 : Nat) (w0 : Nat → Int32) (h1 : Nat → Nat) (w1 : Nat → Nat → Int32) (x2 : Int32) (z : Int32) (hf : fX5_mayTurn w0 w1 x2 = some z) : Met l yX5_mayTurn (wsM yX5_mayTurn cX5_mayTurn 3 (some .boolean)) ({ frames := 2, cells := 0, slots := 0, locals := 45 } : Room) (va_Pc [.ref h0, .ref (h1 0), .int x2] (pRO (dC, dI) vwCl [(cy, .int)] (zW_56 cy h0 w0 h1 w1))) (vp_Si (fun q => q = z)) 0 0 (fun _ => False) := by
  refine Met.ofW (cc := cX5_mayTurn) (maxL := 3) (ret := (some .boolean)) (by decide) rfl ?_
  intro p e s m args below meth c s₁ B hml hv
  obtain ⟨ha, hP, hK, hG⟩ := hv
  have hx := B.exec
  have hb := B.bytes
  have hr := B.returns
  have hts : ∀ w ∈ wsA, w.before args s = true := fun w h => atoms_spec (ws := wsM yX5_mayTurn cX5_mayTurn 3 (some .boolean)) B.pre w (List.mem_cons_of_mem _ h)
  have hown : s.vm.findClass RX5 = some m.cls := findClass_of_methodNamed B.named
  have hlocks := B.notSynchronized
  have hS : va_S (fun _ => False) s.heap s.heap [] := va_S.rf
  obtain ⟨ls, hl, he⟩ := zent (m := m) (n := 3) (L := [(0, .ref h0), (1, .ref (h1 0)), (2, .int x2)]) ha (Nat.le_of_ble_eq_true rfl) rfl
  refine W.eq he ?_
  unfold fX5_mayTurn at hf
  have kE : W p l e ({ frames := 2, cells := 0, slots := 0, locals := 45 } : Room) s m args below meth c s.heap [] 0 0 (MQ below (vp_Si (fun q => q = z)) args s 0 0 (fun _ => False)) (F0 m 0 ls []) := by
    refine lv_aload_n hx hb dX5_mayTurn_0 rfl (lv_at hl 0 rfl) ?_
    obtain ⟨r2, hq1, hf⟩ := ob1_d hf
    refine zroV (q := (RX5, TX5, 17)) (As := []) (rest := []) (r := r2) ⟨hx, hb, hml, hown, hts⟩ (kX5_isAlive l dC dI cy h0 w0 r2 hq1) mw_364 mw_365 mw_366 mw_6 mw_367 hdX5_isAlive rfl rfl ⟨Nat.le_of_ble_eq_true rfl, Nat.le_of_ble_eq_true rfl⟩ hP hK hG hS 0 rfl rfl [0] rfl rfl hl.1 rfl (Nat.le_of_ble_eq_true rfl) dX5_mayTurn_1 ⟨Nat.zero_le _, Nat.zero_le _⟩ ?_
    refine lv_if_eq (tgt := 35) hx hb dX5_mayTurn_4 (by decide) (fun hc => ?_) (fun hc => ?_)
    · have hf := it_t hc hf
      refine lv_iconst (v := (0 : Int32)) hx hb dX5_mayTurn_35 (by decide) ?_
      exact zretRZ hx hb hr hlocks rfl hf dX5_mayTurn_36
    · have hf := it_f hc hf
      refine lv_aload_n hx hb dX5_mayTurn_7 rfl (lv_at hl 0 rfl) ?_
      refine zget hx hb hts hown hK hP hin_5 0 rfl rfl 10 (by decide) mw_101 (v := .int (w0 10)) rfl dX5_mayTurn_8 ?_
      refine lv_iconst (v := (4 : Int32)) hx hb dX5_mayTurn_11 (by decide) ?_
      refine lv_icmp_eq (tgt := 35) hx hb dX5_mayTurn_12 (by decide) (fun hc => ?_) (fun hc => ?_)
      · have hf := it_t hc hf
        refine lv_iconst (v := (0 : Int32)) hx hb dX5_mayTurn_35 (by decide) ?_
        exact zretRZ hx hb hr hlocks rfl hf dX5_mayTurn_36
      · have hf := it_f hc hf
        refine lv_iload_n hx hb dX5_mayTurn_15 rfl (lv_at hl 2 rfl) ?_
        refine lv_aload_n hx hb dX5_mayTurn_16 rfl (lv_at hl 0 rfl) ?_
        refine lv_aload_n hx hb dX5_mayTurn_17 rfl (lv_at hl 1 rfl) ?_
        obtain ⟨r4, hq3, hf⟩ := ob1_d hf
        refine zroV (q := (RX5, TX5, 17)) (As := [.ref (h1 0)]) (rest := [.int x2]) (r := r4) ⟨hx, hb, hml, hown, hts⟩ (kX5_windIn l dC dI cy h0 w0 h1 w1 r4 hq3) mw_315 mw_264 mw_265 mw_6 mw_266 hdX5_windIn rfl rfl ⟨Nat.le_of_ble_eq_true rfl, Nat.le_of_ble_eq_true rfl⟩ hP hK hG hS 0 rfl rfl [0, 1, 2, 3, 4, 5, 6, 7, 8, 9] rfl rfl hl.1 rfl (Nat.le_of_ble_eq_true rfl) dX5_mayTurn_18 ⟨Nat.zero_le _, Nat.zero_le _⟩ ?_
        obtain ⟨r6, hq5, hf⟩ := ob1_d hf
        refine zroSN (As := [.int x2, .int r4]) (rest := []) (r := r6) ⟨hx, hb, hml, hown, hts⟩ (kX7_apart l dC dI cy x2 r4 r6 hq5) (List.mem_of_getElem? (i := 9) rfl) mw_316 mw_1 mw_317 hdX7_apart rfl rfl ⟨Nat.le_of_ble_eq_true rfl, Nat.le_of_ble_eq_true rfl⟩ hP hK hG hS [] rfl rfl hl.1 rfl (Nat.le_of_ble_eq_true rfl) dX5_mayTurn_21 ⟨Nat.zero_le _, Nat.zero_le _⟩ ?_
        refine lv_aload_n hx hb dX5_mayTurn_24 rfl (lv_at hl 1 rfl) ?_
        refine zgetN hx hb hts hG hown hK hP hin_6 1 rfl rfl 7 (by decide) (host := "Embayed") (List.mem_of_getElem? (i := 39) rfl) (v := .int (w1 0 7)) rfl dX5_mayTurn_25 ?_
        refine lv_icmp_lt (tgt := 35) hx hb dX5_mayTurn_28 (by decide) (fun hc => ?_) (fun hc => ?_)
        · have hf := it_t hc hf
          refine lv_iconst (v := (0 : Int32)) hx hb dX5_mayTurn_35 (by decide) ?_
          exact zretRZ hx hb hr hlocks rfl hf dX5_mayTurn_36
        · have hf := it_f hc hf
          refine lv_iconst (v := (1 : Int32)) hx hb dX5_mayTurn_31 (by decide) ?_
          refine lv_goto (tgt := 36) hx hb dX5_mayTurn_32 (by decide) ?_
          exact zretRZ hx hb hr hlocks rfl hf dX5_mayTurn_36
  exact kE
set_option maxHeartbeats 4000000 in
set_option maxRecDepth 100000 in
theorem kX5_passesWind (l : Launch) (dC : Nat → ClassId) (dI : Nat → Nat → Nat) (cy : ClassId) (h0 : Nat) (w0 : Nat → Int32) (x1 : Int32) (x2 : Int32) (z : Int32) (hf : fX5_passesWind w0 x1 x2 = some z) : Met l yX5_passesWind (wsM yX5_passesWind cX5_passesWind 4 (some .boolean)) ({ frames := 2, cells := 0, slots := 0, locals := 43 } : Room) (va_Pc [.ref h0, .int x1, .int x2] (pRO (dC, dI) vwCl [(cy, .int)] (zW_5 cy h0 w0))) (vp_Si (fun q => q = z)) 0 0 (fun _ => False) := by
  refine Met.ofW (cc := cX5_passesWind) (maxL := 4) (ret := (some .boolean)) (by decide) rfl ?_
  intro p e s m args below meth c s₁ B hml hv
  obtain ⟨ha, hP, hK, hG⟩ := hv
  have hx := B.exec
  have hb := B.bytes
  have hr := B.returns
  have hts : ∀ w ∈ wsA, w.before args s = true := fun w h => atoms_spec (ws := wsM yX5_passesWind cX5_passesWind 4 (some .boolean)) B.pre w (List.mem_cons_of_mem _ h)
  have hown : s.vm.findClass RX5 = some m.cls := findClass_of_methodNamed B.named
  have hlocks := B.notSynchronized
  have hS : va_S (fun _ => False) s.heap s.heap [] := va_S.rf
  obtain ⟨ls, hl, he⟩ := zent (m := m) (n := 4) (L := [(0, .ref h0), (1, .int x1), (2, .int x2)]) ha (Nat.le_of_ble_eq_true rfl) rfl
  refine W.eq he ?_
  unfold fX5_passesWind at hf
  have kE : W p l e ({ frames := 2, cells := 0, slots := 0, locals := 43 } : Room) s m args below meth c s.heap [] 0 0 (MQ below (vp_Si (fun q => q = z)) args s 0 0 (fun _ => False)) (F0 m 0 ls []) := by
    refine lv_aload_n hx hb dX5_passesWind_0 rfl (lv_at hl 0 rfl) ?_
    refine zget hx hb hts hown hK hP hin_5 0 rfl rfl 2 (by decide) mw_93 (v := .int (w0 2)) rfl dX5_passesWind_1 ?_
    refine lv_iload_n hx hb dX5_passesWind_4 rfl (lv_at hl 2 rfl) ?_
    obtain ⟨r2, hq1, hf⟩ := ob1_d hf
    refine zroSN (As := [.int (w0 2), .int x2]) (rest := []) (r := r2) ⟨hx, hb, hml, hown, hts⟩ (kX7_apart l dC dI cy (w0 2) x2 r2 hq1) (List.mem_of_getElem? (i := 9) rfl) mw_316 mw_1 mw_317 hdX7_apart rfl rfl ⟨Nat.le_of_ble_eq_true rfl, Nat.le_of_ble_eq_true rfl⟩ hP hK hG hS [] rfl rfl hl.1 rfl (Nat.le_of_ble_eq_true rfl) dX5_passesWind_5 ⟨Nat.zero_le _, Nat.zero_le _⟩ ?_
    refine lv_istore_n (lv' := [(3, .int r2), (0, .ref h0), (1, .int x1), (2, .int x2)]) hx hb dX5_passesWind_8 rfl hl (by decide) rfl (fun ls hl => ?_)
    refine lv_iload_n hx hb dX5_passesWind_9 rfl (lv_at hl 0 rfl) ?_
    refine lv_iconst (v := (4 : Int32)) hx hb dX5_passesWind_10 (by decide) ?_
    refine lv_icmp_eq (tgt := 27) hx hb dX5_passesWind_11 (by decide) (fun hc => ?_) (fun hc => ?_)
    · have hf := it_t hc hf
      refine lv_iconst (v := (0 : Int32)) hx hb dX5_passesWind_27 (by decide) ?_
      exact zretRZ hx hb hr hlocks rfl hf dX5_passesWind_28
    · have hf := it_f hc hf
      refine lv_iload_n hx hb dX5_passesWind_14 rfl (lv_at hl 2 rfl) ?_
      refine lv_aload_n hx hb dX5_passesWind_15 rfl (lv_at hl 1 rfl) ?_
      refine zget hx hb hts hown hK hP hin_5 0 rfl rfl 2 (by decide) mw_93 (v := .int (w0 2)) rfl dX5_passesWind_16 ?_
      refine lv_icmp_eq (tgt := 27) hx hb dX5_passesWind_19 (by decide) (fun hc => ?_) (fun hc => ?_)
      · have hf := it_t hc hf
        refine lv_iconst (v := (0 : Int32)) hx hb dX5_passesWind_27 (by decide) ?_
        exact zretRZ hx hb hr hlocks rfl hf dX5_passesWind_28
      · have hf := it_f hc hf
        refine lv_iload_n hx hb dX5_passesWind_22 rfl (lv_at hl 2 rfl) ?_
        refine lv_iload_n hx hb dX5_passesWind_23 rfl (lv_at hl 3 rfl) ?_
        refine lv_icmp_ne (tgt := 29) hx hb dX5_passesWind_24 (by decide) (fun hc => ?_) (fun hc => ?_)
        · have hf := it_f hc hf
          refine lv_aload_n hx hb dX5_passesWind_29 rfl (lv_at hl 1 rfl) ?_
          refine zget hx hb hts hown hK hP hin_5 0 rfl rfl 2 (by decide) mw_93 (v := .int (w0 2)) rfl dX5_passesWind_30 ?_
          refine lv_iload_n hx hb dX5_passesWind_33 rfl (lv_at hl 2 rfl) ?_
          obtain ⟨r4, hq3, hf⟩ := ob1_d hf
          refine zroSN (As := [.int (w0 2), .int x1]) (rest := []) (r := r4) ⟨hx, hb, hml, hown, hts⟩ (kX7_apart l dC dI cy (w0 2) x1 r4 hq3) (List.mem_of_getElem? (i := 9) rfl) mw_316 mw_1 mw_317 hdX7_apart rfl rfl ⟨Nat.le_of_ble_eq_true rfl, Nat.le_of_ble_eq_true rfl⟩ hP hK hG hS [] rfl rfl hl.1 rfl (Nat.le_of_ble_eq_true rfl) dX5_passesWind_34 ⟨Nat.zero_le _, Nat.zero_le _⟩ ?_
          refine lv_iload_n hx hb dX5_passesWind_37 rfl (lv_at hl 2 rfl) ?_
          refine lv_iload_n hx hb dX5_passesWind_38 rfl (lv_at hl 3 rfl) ?_
          obtain ⟨r6, hq5, hf⟩ := ob1_d hf
          refine zroSN (As := [.int x1, .int x2]) (rest := [.int r4]) (r := r6) ⟨hx, hb, hml, hown, hts⟩ (kX7_apart l dC dI cy x1 x2 r6 hq5) (List.mem_of_getElem? (i := 9) rfl) mw_316 mw_1 mw_317 hdX7_apart rfl rfl ⟨Nat.le_of_ble_eq_true rfl, Nat.le_of_ble_eq_true rfl⟩ hP hK hG hS [] rfl rfl hl.1 rfl (Nat.le_of_ble_eq_true rfl) dX5_passesWind_39 ⟨Nat.zero_le _, Nat.zero_le _⟩ ?_
          refine lv_iadd hx hb dX5_passesWind_42 ?_
          refine lv_iload_n hx hb dX5_passesWind_43 rfl (lv_at hl 0 rfl) ?_
          refine lv_icmp_ne (tgt := 51) hx hb dX5_passesWind_44 (by decide) (fun hc => ?_) (fun hc => ?_)
          · have hf := it_f hc hf
            refine lv_iconst (v := (0 : Int32)) hx hb dX5_passesWind_51 (by decide) ?_
            exact zretRZ hx hb hr hlocks rfl hf dX5_passesWind_52
          · have hf := it_t hc hf
            refine lv_iconst (v := (1 : Int32)) hx hb dX5_passesWind_47 (by decide) ?_
            refine lv_goto (tgt := 52) hx hb dX5_passesWind_48 (by decide) ?_
            exact zretRZ hx hb hr hlocks rfl hf dX5_passesWind_52
        · have hf := it_t hc hf
          refine lv_iconst (v := (0 : Int32)) hx hb dX5_passesWind_27 (by decide) ?_
          exact zretRZ hx hb hr hlocks rfl hf dX5_passesWind_28
  exact kE
set_option maxHeartbeats 4000000 in
set_option maxRecDepth 100000 in
theorem kX5_wouldFailInStays (l : Launch) (dC : Nat → ClassId) (dI : Nat → Nat → Nat) (cy : ClassId) (h0 : Nat) (w0 : Nat → Int32) (h1 : Nat → Nat) (w1 : Nat → Nat → Int32) (x2 : Int32) (z : Int32) (hf : fX5_wouldFailInStays w0 w1 x2 = some z) : Met l yX5_wouldFailInStays (wsM yX5_wouldFailInStays cX5_wouldFailInStays 3 (some .boolean)) ({ frames := 3, cells := 0, slots := 0, locals := 66 } : Room) (va_Pc [.ref h0, .ref (h1 0), .int x2] (pRO (dC, dI) vwCl [(cy, .int)] (zW_56 cy h0 w0 h1 w1))) (vp_Si (fun q => q = z)) 0 0 (fun _ => False) := by
  refine Met.ofW (cc := cX5_wouldFailInStays) (maxL := 3) (ret := (some .boolean)) (by decide) rfl ?_
  intro p e s m args below meth c s₁ B hml hv
  obtain ⟨ha, hP, hK, hG⟩ := hv
  have hx := B.exec
  have hb := B.bytes
  have hr := B.returns
  have hts : ∀ w ∈ wsA, w.before args s = true := fun w h => atoms_spec (ws := wsM yX5_wouldFailInStays cX5_wouldFailInStays 3 (some .boolean)) B.pre w (List.mem_cons_of_mem _ h)
  have hown : s.vm.findClass RX5 = some m.cls := findClass_of_methodNamed B.named
  have hlocks := B.notSynchronized
  have hS : va_S (fun _ => False) s.heap s.heap [] := va_S.rf
  obtain ⟨ls, hl, he⟩ := zent (m := m) (n := 3) (L := [(0, .ref h0), (1, .ref (h1 0)), (2, .int x2)]) ha (Nat.le_of_ble_eq_true rfl) rfl
  refine W.eq he ?_
  unfold fX5_wouldFailInStays at hf
  have kE : W p l e ({ frames := 3, cells := 0, slots := 0, locals := 66 } : Room) s m args below meth c s.heap [] 0 0 (MQ below (vp_Si (fun q => q = z)) args s 0 0 (fun _ => False)) (F0 m 0 ls []) := by
    refine lv_aload_n hx hb dX5_wouldFailInStays_0 rfl (lv_at hl 1 rfl) ?_
    refine zgetN hx hb hts hG hown hK hP hin_6 1 rfl rfl 3 (by decide) (host := "Embayed") (List.mem_of_getElem? (i := 33) rfl) (v := .int (w1 0 3)) rfl dX5_wouldFailInStays_1 ?_
    refine lv_iconst (v := (5 : Int32)) hx hb dX5_wouldFailInStays_4 (by decide) ?_
    refine lv_icmp_le (tgt := 25) hx hb dX5_wouldFailInStays_5 (by decide) (fun hc => ?_) (fun hc => ?_)
    · have hf := it_t hc hf
      refine lv_iconst (v := (0 : Int32)) hx hb dX5_wouldFailInStays_25 (by decide) ?_
      exact zretRZ hx hb hr hlocks rfl hf dX5_wouldFailInStays_26
    · have hf := it_f hc hf
      refine lv_aload_n hx hb dX5_wouldFailInStays_8 rfl (lv_at hl 0 rfl) ?_
      refine lv_aload_n hx hb dX5_wouldFailInStays_9 rfl (lv_at hl 0 rfl) ?_
      refine lv_aload_n hx hb dX5_wouldFailInStays_10 rfl (lv_at hl 1 rfl) ?_
      obtain ⟨r2, hq1, hf⟩ := ob1_d hf
      refine zroV (q := (RX5, TX5, 17)) (As := [.ref (h1 0)]) (rest := [.ref h0]) (r := r2) ⟨hx, hb, hml, hown, hts⟩ (kX5_windIn l dC dI cy h0 w0 h1 w1 r2 hq1) mw_315 mw_264 mw_265 mw_6 mw_266 hdX5_windIn rfl rfl ⟨Nat.le_of_ble_eq_true rfl, Nat.le_of_ble_eq_true rfl⟩ hP hK hG hS 0 rfl rfl [0, 1, 2, 3, 4, 5, 6, 7, 8, 9] rfl rfl hl.1 rfl (Nat.le_of_ble_eq_true rfl) dX5_wouldFailInStays_11 ⟨Nat.zero_le _, Nat.zero_le _⟩ ?_
      refine lv_iload_n hx hb dX5_wouldFailInStays_14 rfl (lv_at hl 2 rfl) ?_
      obtain ⟨r4, hq3, hf⟩ := ob1_d hf
      refine zroV (q := (RX5, TX5, 17)) (As := [.int r2, .int x2]) (rest := []) (r := r4) ⟨hx, hb, hml, hown, hts⟩ (kX5_passesWind l dC dI cy h0 w0 r2 x2 r4 hq3) mw_372 mw_373 mw_891 mw_6 mw_374 hdX5_passesWind rfl rfl ⟨Nat.le_of_ble_eq_true rfl, Nat.le_of_ble_eq_true rfl⟩ hP hK hG hS 0 rfl rfl [0] rfl rfl hl.1 rfl (Nat.le_of_ble_eq_true rfl) dX5_wouldFailInStays_15 ⟨Nat.zero_le _, Nat.zero_le _⟩ ?_
      refine lv_if_eq (tgt := 25) hx hb dX5_wouldFailInStays_18 (by decide) (fun hc => ?_) (fun hc => ?_)
      · have hf := it_t hc hf
        refine lv_iconst (v := (0 : Int32)) hx hb dX5_wouldFailInStays_25 (by decide) ?_
        exact zretRZ hx hb hr hlocks rfl hf dX5_wouldFailInStays_26
      · have hf := it_f hc hf
        refine lv_iconst (v := (1 : Int32)) hx hb dX5_wouldFailInStays_21 (by decide) ?_
        refine lv_goto (tgt := 26) hx hb dX5_wouldFailInStays_22 (by decide) ?_
        exact zretRZ hx hb hr hlocks rfl hf dX5_wouldFailInStays_26
  exact kE
set_option maxHeartbeats 4000000 in
set_option maxRecDepth 100000 in
theorem kX5_turnBeforeWind (l : Launch) (dC : Nat → ClassId) (dI : Nat → Nat → Nat) (cy : ClassId) (h0 : Nat) (w0 : Nat → Int32) (h1 : Nat → Nat) (w1 : Nat → Nat → Int32) (x2 : Int32) (sz : Nat) (z : (Nat → Int32)) (hf : fX5_turnBeforeWind w0 w1 x2 = some z) : Met l yX5_turnBeforeWind (wsM yX5_turnBeforeWind cX5_turnBeforeWind 3 none) ({ frames := 3, cells := 0, slots := 0, locals := 70 } : Room) (va_Pc [.ref h0, .ref (h1 0), .int x2] (pWR (dC, dI) vwCl [(cy, .int)] (zW_56 cy h0 w0 h1 w1) sz)) (va_Qv (fun (v : (Nat → Int32)) => v = z) (fun v => aWR (dC, dI) vwCl [(cy, .int)] (va_A (zW_56 cy h0 w0 h1 w1) sz) (zW_56 cy h0 v h1 w1)) (va_A (zW_56 cy h0 w0 h1 w1) sz)) 0 0 (va_A (zW_56 cy h0 w0 h1 w1) sz) := by
  refine Met.ofW (cc := cX5_turnBeforeWind) (maxL := 3) (ret := none) (by decide) rfl ?_
  intro p e s m args below meth c s₁ B hml hv
  obtain ⟨ha, hsz, hP, hK, hD0, hG⟩ := hv
  have hx := B.exec
  have hb := B.bytes
  have hr := B.returns
  have hts : ∀ w ∈ wsA, w.before args s = true := fun w h => atoms_spec (ws := wsM yX5_turnBeforeWind cX5_turnBeforeWind 3 none) B.pre w (List.mem_cons_of_mem _ h)
  have hown : s.vm.findClass RX5 = some m.cls := findClass_of_methodNamed B.named
  have hlocks := B.notSynchronized
  subst hsz
  have hD := hD0.self (sz := s.heap.size)
  generalize hAe : va_A (zW_56 cy h0 w0 h1 w1) s.heap.size = A at hD hG ⊢
  have hA : ∀ q : Nat, s.heap.size ≤ q → A q := fun q h => by rw [← hAe]; exact Or.inr h
  have hS : va_S A s.heap s.heap [] := va_S.rf
  have hP : va_P (dC, dI) vwCl (zW_56 cy h0 w0 h1 w1) s.heap := hP
  have hD : va_D A (zW_56 cy h0 w0 h1 w1) := hD
  obtain ⟨ls, hl, he⟩ := zent (m := m) (n := 3) (L := [(0, .ref h0), (1, .ref (h1 0)), (2, .int x2)]) ha (Nat.le_of_ble_eq_true rfl) rfl
  refine W.eq he ?_
  unfold fX5_turnBeforeWind at hf
  have kE : ∀ (H : Heap) (locs : List Loc), va_P (dC, dI) vwCl (zW_56 cy h0 w0 h1 w1) H → va_D A (zW_56 cy h0 w0 h1 w1) → va_S A s.heap H locs → W p l e ({ frames := 3, cells := 0, slots := 0, locals := 70 } : Room) s m args below meth c H locs 0 0 (MQ below (va_Qv (fun (v : (Nat → Int32)) => v = z) (fun v => aWR (dC, dI) vwCl [(cy, .int)] A (zW_56 cy h0 v h1 w1)) A) args s 0 0 A) (F0 m 0 ls []) := by
    intro H locs hP hD hS
    refine lv_aload_n hx hb dX5_turnBeforeWind_0 rfl (lv_at hl 0 rfl) ?_
    refine lv_iload_n hx hb dX5_turnBeforeWind_1 rfl (lv_at hl 2 rfl) ?_
    refine zput hx hb hts hown hK hP hD hS hin_5 tyX5 tyX5_ok nmX5 0 rfl rfl 2 (by decide) mw_93 rfl (v := .int x2) rfl rfl (Nat.le_of_ble_eq_true rfl) (wn := (zW_56 cy h0 (ups w0 2 x2) h1 w1)) rfl dX5_turnBeforeWind_2 (fun H locs hP hD hS => ?_)
    refine lv_aload_n hx hb dX5_turnBeforeWind_5 rfl (lv_at hl 0 rfl) ?_
    refine lv_aload_n hx hb dX5_turnBeforeWind_6 rfl (lv_at hl 1 rfl) ?_
    refine lv_aload_n hx hb dX5_turnBeforeWind_7 rfl (lv_at hl 0 rfl) ?_
    refine lv_aload_n hx hb dX5_turnBeforeWind_8 rfl (lv_at hl 1 rfl) ?_
    obtain ⟨r2, hq1, hf⟩ := ob1_d hf
    refine zroV (q := (RX5, TX5, 17)) (As := [.ref (h1 0)]) (rest := [.ref (h1 0), .ref h0]) (r := r2) ⟨hx, hb, hml, hown, hts⟩ (kX5_windIn l dC dI cy h0 (ups w0 2 x2) h1 w1 r2 hq1) mw_315 mw_264 mw_265 mw_6 mw_266 hdX5_windIn rfl rfl ⟨Nat.le_of_ble_eq_true rfl, Nat.le_of_ble_eq_true rfl⟩ hP hK hG hS 0 rfl rfl [0, 1, 2, 3, 4, 5, 6, 7, 8, 9] rfl rfl hl.1 rfl (Nat.le_of_ble_eq_true rfl) dX5_turnBeforeWind_9 ⟨Nat.zero_le _, Nat.zero_le _⟩ ?_
    obtain ⟨r4, hq3, hf⟩ := ob1_d hf
    refine zroSN (As := [.int r2]) (rest := [.ref (h1 0), .ref h0]) (r := r4) ⟨hx, hb, hml, hown, hts⟩ (kX7_leeOf l dC dI cy r2 r4 hq3) (List.mem_of_getElem? (i := 12) rfl) mw_274 mw_1 mw_275 hdX7_leeOf rfl rfl ⟨Nat.le_of_ble_eq_true rfl, Nat.le_of_ble_eq_true rfl⟩ hP hK hG hS [] rfl rfl hl.1 rfl (Nat.le_of_ble_eq_true rfl) dX5_turnBeforeWind_12 ⟨Nat.zero_le _, Nat.zero_le _⟩ ?_
    obtain ⟨u6, hq5, hf⟩ := ob1_d hf
    refine zwvV (q := (RX5, TX5, 17)) (As := [.ref (h1 0), .int r4]) (rest := []) (u := u6) (wn := (zW_56 cy h0 u6 h1 w1)) ⟨hx, hb, hml, hown, hts⟩ (kX5_goInto l dC dI cy h0 (ups w0 2 x2) h1 w1 r4 H.size u6 hq5) mw_329 mw_330 mw_886 mw_6 mw_331 hdX5_goInto rfl rfl ⟨Nat.le_of_ble_eq_true rfl, Nat.le_of_ble_eq_true rfl⟩ hP hK hG hS 0 rfl rfl hD hA [0, 1, 2, 3, 4, 5, 6, 7, 8, 9] [] [0, 1, 2, 3, 4, 5, 6, 7, 8, 9] rfl rfl rfl rfl (by decide) rfl rfl rfl hl.1 rfl (Nat.le_of_ble_eq_true rfl) dX5_turnBeforeWind_15 ⟨Nat.zero_le _, Nat.zero_le _⟩ (fun H locs hP hD hS => ?_)
    refine lv_aload_n hx hb dX5_turnBeforeWind_18 rfl (lv_at hl 0 rfl) ?_
    obtain ⟨r8, hq7, hf⟩ := ob1_d hf
    refine zroV (q := (RX5, TX5, 17)) (As := []) (rest := []) (r := r8) ⟨hx, hb, hml, hown, hts⟩ (kX5_isEnded l dC dI cy h0 u6 r8 hq7) mw_308 mw_309 mw_310 mw_6 mw_311 hdX5_isEnded rfl rfl ⟨Nat.le_of_ble_eq_true rfl, Nat.le_of_ble_eq_true rfl⟩ hP hK hG hS 0 rfl rfl [0] rfl rfl hl.1 rfl (Nat.le_of_ble_eq_true rfl) dX5_turnBeforeWind_19 ⟨Nat.zero_le _, Nat.zero_le _⟩ ?_
    refine lv_if_ne (tgt := 30) hx hb dX5_turnBeforeWind_22 (by decide) (fun hc => ?_) (fun hc => ?_)
    · have hf := it_f hc hf
      exact zretV hx hb hr hlocks hP hK hD hS hf rfl dX5_turnBeforeWind_30
    · have hf := it_t hc hf
      refine lv_aload_n hx hb dX5_turnBeforeWind_25 rfl (lv_at hl 0 rfl) ?_
      refine lv_iconst (v := (2 : Int32)) hx hb dX5_turnBeforeWind_26 (by decide) ?_
      refine zput hx hb hts hown hK hP hD hS hin_5 tyX5 tyX5_ok nmX5 0 rfl rfl 10 (by decide) mw_101 rfl (v := .int (2 : Int32)) rfl rfl (Nat.le_of_ble_eq_true rfl) (wn := (zW_56 cy h0 (ups u6 10 (2 : Int32)) h1 w1)) rfl dX5_turnBeforeWind_27 (fun H locs hP hD hS => ?_)
      exact zretV hx hb hr hlocks hP hK hD hS hf rfl dX5_turnBeforeWind_30
  exact kE s.heap [] hP hD hS
set_option maxHeartbeats 4000000 in
set_option maxRecDepth 100000 in
theorem kX5_turnRoundAnchor (l : Launch) (dC : Nat → ClassId) (dI : Nat → Nat → Nat) (cy : ClassId) (h0 : Nat) (w0 : Nat → Int32) (x1 : Int32) (sz : Nat) (z : (Nat → Int32)) (hf : fX5_turnRoundAnchor w0 x1 = some z) : Met l yX5_turnRoundAnchor (wsM yX5_turnRoundAnchor cX5_turnRoundAnchor 2 none) ({ frames := 0, cells := 0, slots := 0, locals := 0 } : Room) (va_Pc [.ref h0, .int x1] (pWR (dC, dI) vwCl [(cy, .int)] (zW_5 cy h0 w0) sz)) (va_Qv (fun (v : (Nat → Int32)) => v = z) (fun v => aWR (dC, dI) vwCl [(cy, .int)] (va_A (zW_5 cy h0 w0) sz) (zW_5 cy h0 v)) (va_A (zW_5 cy h0 w0) sz)) 0 0 (va_A (zW_5 cy h0 w0) sz) := by
  refine Met.ofW (cc := cX5_turnRoundAnchor) (maxL := 2) (ret := none) (by decide) rfl ?_
  intro p e s m args below meth c s₁ B hml hv
  obtain ⟨ha, hsz, hP, hK, hD0, hG⟩ := hv
  have hx := B.exec
  have hb := B.bytes
  have hr := B.returns
  have hts : ∀ w ∈ wsA, w.before args s = true := fun w h => atoms_spec (ws := wsM yX5_turnRoundAnchor cX5_turnRoundAnchor 2 none) B.pre w (List.mem_cons_of_mem _ h)
  have hown : s.vm.findClass RX5 = some m.cls := findClass_of_methodNamed B.named
  have hlocks := B.notSynchronized
  subst hsz
  have hD := hD0.self (sz := s.heap.size)
  generalize hAe : va_A (zW_5 cy h0 w0) s.heap.size = A at hD hG ⊢
  have hA : ∀ q : Nat, s.heap.size ≤ q → A q := fun q h => by rw [← hAe]; exact Or.inr h
  have hS : va_S A s.heap s.heap [] := va_S.rf
  have hP : va_P (dC, dI) vwCl (zW_5 cy h0 w0) s.heap := hP
  have hD : va_D A (zW_5 cy h0 w0) := hD
  obtain ⟨ls, hl, he⟩ := zent (m := m) (n := 2) (L := [(0, .ref h0), (1, .int x1)]) ha (Nat.le_of_ble_eq_true rfl) rfl
  refine W.eq he ?_
  unfold fX5_turnRoundAnchor at hf
  have kE : ∀ (H : Heap) (locs : List Loc), va_P (dC, dI) vwCl (zW_5 cy h0 w0) H → va_D A (zW_5 cy h0 w0) → va_S A s.heap H locs → W p l e ({ frames := 0, cells := 0, slots := 0, locals := 0 } : Room) s m args below meth c H locs 0 0 (MQ below (va_Qv (fun (v : (Nat → Int32)) => v = z) (fun v => aWR (dC, dI) vwCl [(cy, .int)] A (zW_5 cy h0 v)) A) args s 0 0 A) (F0 m 0 ls []) := by
    intro H locs hP hD hS
    refine lv_aload_n hx hb dX5_turnRoundAnchor_0 rfl (lv_at hl 0 rfl) ?_
    refine lv_iload_n hx hb dX5_turnRoundAnchor_1 rfl (lv_at hl 1 rfl) ?_
    refine zput hx hb hts hown hK hP hD hS hin_5 tyX5 tyX5_ok nmX5 0 rfl rfl 2 (by decide) mw_93 rfl (v := .int x1) rfl rfl (Nat.le_of_ble_eq_true rfl) (wn := (zW_5 cy h0 (ups w0 2 x1))) rfl dX5_turnRoundAnchor_2 (fun H locs hP hD hS => ?_)
    refine lv_aload_n hx hb dX5_turnRoundAnchor_5 rfl (lv_at hl 0 rfl) ?_
    refine lv_dup hx hb dX5_turnRoundAnchor_6 rfl ?_
    refine zget hx hb hts hown hK hP hin_5 0 rfl rfl 5 (by decide) mw_96 (v := .int (w0 5)) rfl dX5_turnRoundAnchor_7 ?_
    refine lv_iconst (v := (1 : Int32)) hx hb dX5_turnRoundAnchor_10 (by decide) ?_
    refine lv_isub hx hb dX5_turnRoundAnchor_11 ?_
    refine zput hx hb hts hown hK hP hD hS hin_5 tyX5 tyX5_ok nmX5 0 rfl rfl 5 (by decide) mw_96 rfl (v := .int ((w0 5) - (1 : Int32))) rfl rfl (Nat.le_of_ble_eq_true rfl) (wn := (zW_5 cy h0 (ups (ups w0 2 x1) 5 ((w0 5) - (1 : Int32))))) rfl dX5_turnRoundAnchor_12 (fun H locs hP hD hS => ?_)
    refine lv_aload_n hx hb dX5_turnRoundAnchor_15 rfl (lv_at hl 0 rfl) ?_
    refine lv_iconst (v := (3 : Int32)) hx hb dX5_turnRoundAnchor_16 (by decide) ?_
    refine zput hx hb hts hown hK hP hD hS hin_5 tyX5 tyX5_ok nmX5 0 rfl rfl 10 (by decide) mw_101 rfl (v := .int (3 : Int32)) rfl rfl (Nat.le_of_ble_eq_true rfl) (wn := (zW_5 cy h0 (ups (ups (ups w0 2 x1) 5 ((w0 5) - (1 : Int32))) 10 (3 : Int32)))) rfl dX5_turnRoundAnchor_17 (fun H locs hP hD hS => ?_)
    exact zretV hx hb hr hlocks hP hK hD hS hf rfl dX5_turnRoundAnchor_20
  exact kE s.heap [] hP hD hS
set_option maxHeartbeats 4000000 in
set_option maxRecDepth 100000 in
theorem kX5_mayAnchor (l : Launch) (dC : Nat → ClassId) (dI : Nat → Nat → Nat) (cy : ClassId) (h0 : Nat) (w0 : Nat → Int32) (z : Int32) (hf : fX5_mayAnchor w0 = some z) : Met l yX5_mayAnchor (wsM yX5_mayAnchor cX5_mayAnchor 1 (some .boolean)) ({ frames := 2, cells := 0, slots := 0, locals := 40 } : Room) (va_Pc [.ref h0] (pRO (dC, dI) vwCl [(cy, .int)] (zW_5 cy h0 w0))) (vp_Si (fun q => q = z)) 0 0 (fun _ => False) := by
  refine Met.ofW (cc := cX5_mayAnchor) (maxL := 1) (ret := (some .boolean)) (by decide) rfl ?_
  intro p e s m args below meth c s₁ B hml hv
  obtain ⟨ha, hP, hK, hG⟩ := hv
  have hx := B.exec
  have hb := B.bytes
  have hr := B.returns
  have hts : ∀ w ∈ wsA, w.before args s = true := fun w h => atoms_spec (ws := wsM yX5_mayAnchor cX5_mayAnchor 1 (some .boolean)) B.pre w (List.mem_cons_of_mem _ h)
  have hown : s.vm.findClass RX5 = some m.cls := findClass_of_methodNamed B.named
  have hlocks := B.notSynchronized
  have hS : va_S (fun _ => False) s.heap s.heap [] := va_S.rf
  obtain ⟨ls, hl, he⟩ := zent (m := m) (n := 1) (L := [(0, .ref h0)]) ha (Nat.le_of_ble_eq_true rfl) rfl
  refine W.eq he ?_
  unfold fX5_mayAnchor at hf
  have kE : W p l e ({ frames := 2, cells := 0, slots := 0, locals := 40 } : Room) s m args below meth c s.heap [] 0 0 (MQ below (vp_Si (fun q => q = z)) args s 0 0 (fun _ => False)) (F0 m 0 ls []) := by
    refine lv_aload_n hx hb dX5_mayAnchor_0 rfl (lv_at hl 0 rfl) ?_
    obtain ⟨r2, hq1, hf⟩ := ob1_d hf
    refine zroV (q := (RX5, TX5, 17)) (As := []) (rest := []) (r := r2) ⟨hx, hb, hml, hown, hts⟩ (kX5_isAlive l dC dI cy h0 w0 r2 hq1) mw_364 mw_365 mw_366 mw_6 mw_367 hdX5_isAlive rfl rfl ⟨Nat.le_of_ble_eq_true rfl, Nat.le_of_ble_eq_true rfl⟩ hP hK hG hS 0 rfl rfl [0] rfl rfl hl.1 rfl (Nat.le_of_ble_eq_true rfl) dX5_mayAnchor_1 ⟨Nat.zero_le _, Nat.zero_le _⟩ ?_
    refine lv_if_eq (tgt := 26) hx hb dX5_mayAnchor_4 (by decide) (fun hc => ?_) (fun hc => ?_)
    · have hf := it_t hc hf
      refine lv_iconst (v := (0 : Int32)) hx hb dX5_mayAnchor_26 (by decide) ?_
      exact zretRZ hx hb hr hlocks rfl hf dX5_mayAnchor_27
    · have hf := it_f hc hf
      refine lv_aload_n hx hb dX5_mayAnchor_7 rfl (lv_at hl 0 rfl) ?_
      refine zget hx hb hts hown hK hP hin_5 0 rfl rfl 10 (by decide) mw_101 (v := .int (w0 10)) rfl dX5_mayAnchor_8 ?_
      refine lv_iconst (v := (4 : Int32)) hx hb dX5_mayAnchor_11 (by decide) ?_
      refine lv_icmp_eq (tgt := 26) hx hb dX5_mayAnchor_12 (by decide) (fun hc => ?_) (fun hc => ?_)
      · have hf := it_t hc hf
        refine lv_iconst (v := (0 : Int32)) hx hb dX5_mayAnchor_26 (by decide) ?_
        exact zretRZ hx hb hr hlocks rfl hf dX5_mayAnchor_27
      · have hf := it_f hc hf
        refine lv_aload_n hx hb dX5_mayAnchor_15 rfl (lv_at hl 0 rfl) ?_
        refine zget hx hb hts hown hK hP hin_5 0 rfl rfl 5 (by decide) mw_96 (v := .int (w0 5)) rfl dX5_mayAnchor_16 ?_
        refine lv_if_le (tgt := 26) hx hb dX5_mayAnchor_19 (by decide) (fun hc => ?_) (fun hc => ?_)
        · have hf := it_t hc hf
          refine lv_iconst (v := (0 : Int32)) hx hb dX5_mayAnchor_26 (by decide) ?_
          exact zretRZ hx hb hr hlocks rfl hf dX5_mayAnchor_27
        · have hf := it_f hc hf
          refine lv_iconst (v := (1 : Int32)) hx hb dX5_mayAnchor_22 (by decide) ?_
          refine lv_goto (tgt := 27) hx hb dX5_mayAnchor_23 (by decide) ?_
          exact zretRZ hx hb hr hlocks rfl hf dX5_mayAnchor_27
  exact kE
set_option maxHeartbeats 4000000 in
set_option maxRecDepth 100000 in
theorem kX5_copyFrom (l : Launch) (dC : Nat → ClassId) (dI : Nat → Nat → Nat) (cy : ClassId) (h0 : Nat) (w0 : Nat → Int32) (h1 : Nat) (w1 : Nat → Int32) (sz : Nat) (z : (Nat → Int32)) (hf : fX5_copyFrom w0 w1 = some z) : Met l yX5_copyFrom (wsM yX5_copyFrom cX5_copyFrom 2 none) ({ frames := 0, cells := 0, slots := 0, locals := 0 } : Room) (va_Pc [.ref h0, .ref h1] (pWR (dC, dI) vwCl [(cy, .int)] (zW_55 cy h0 w0 h1 w1) sz)) (va_Qv (fun (v : (Nat → Int32)) => v = z) (fun v => aWR (dC, dI) vwCl [(cy, .int)] (va_A (zW_55 cy h0 w0 h1 w1) sz) (zW_55 cy h0 v h1 w1)) (va_A (zW_55 cy h0 w0 h1 w1) sz)) 0 0 (va_A (zW_55 cy h0 w0 h1 w1) sz) := by
  refine Met.ofW (cc := cX5_copyFrom) (maxL := 2) (ret := none) (by decide) rfl ?_
  intro p e s m args below meth c s₁ B hml hv
  obtain ⟨ha, hsz, hP, hK, hD0, hG⟩ := hv
  have hx := B.exec
  have hb := B.bytes
  have hr := B.returns
  have hts : ∀ w ∈ wsA, w.before args s = true := fun w h => atoms_spec (ws := wsM yX5_copyFrom cX5_copyFrom 2 none) B.pre w (List.mem_cons_of_mem _ h)
  have hown : s.vm.findClass RX5 = some m.cls := findClass_of_methodNamed B.named
  have hlocks := B.notSynchronized
  subst hsz
  have hD := hD0.self (sz := s.heap.size)
  generalize hAe : va_A (zW_55 cy h0 w0 h1 w1) s.heap.size = A at hD hG ⊢
  have hA : ∀ q : Nat, s.heap.size ≤ q → A q := fun q h => by rw [← hAe]; exact Or.inr h
  have hS : va_S A s.heap s.heap [] := va_S.rf
  have hP : va_P (dC, dI) vwCl (zW_55 cy h0 w0 h1 w1) s.heap := hP
  have hD : va_D A (zW_55 cy h0 w0 h1 w1) := hD
  obtain ⟨ls, hl, he⟩ := zent (m := m) (n := 2) (L := [(0, .ref h0), (1, .ref h1)]) ha (Nat.le_of_ble_eq_true rfl) rfl
  refine W.eq he ?_
  unfold fX5_copyFrom at hf
  have kE : ∀ (H : Heap) (locs : List Loc), va_P (dC, dI) vwCl (zW_55 cy h0 w0 h1 w1) H → va_D A (zW_55 cy h0 w0 h1 w1) → va_S A s.heap H locs → W p l e ({ frames := 0, cells := 0, slots := 0, locals := 0 } : Room) s m args below meth c H locs 0 0 (MQ below (va_Qv (fun (v : (Nat → Int32)) => v = z) (fun v => aWR (dC, dI) vwCl [(cy, .int)] A (zW_55 cy h0 v h1 w1)) A) args s 0 0 A) (F0 m 0 ls []) := by
    intro H locs hP hD hS
    refine lv_aload_n hx hb dX5_copyFrom_0 rfl (lv_at hl 0 rfl) ?_
    refine lv_aload_n hx hb dX5_copyFrom_1 rfl (lv_at hl 1 rfl) ?_
    refine zget hx hb hts hown hK hP hin_5 1 rfl rfl 0 (by decide) mw_91 (v := .int (w1 0)) rfl dX5_copyFrom_2 ?_
    obtain ⟨hz1, hf⟩ := gz_d hf
    refine zput hx hb hts hown hK hP hD hS hin_5 tyX5 tyX5_ok nmX5 0 rfl rfl 0 (by decide) mw_91 rfl (v := .int (w1 0)) (gz_n hz1) (gz_f hz1) (Nat.le_of_ble_eq_true rfl) (wn := (zW_55 cy h0 (ups w0 0 (w1 0)) h1 w1)) rfl dX5_copyFrom_5 (fun H locs hP hD hS => ?_)
    refine lv_aload_n hx hb dX5_copyFrom_8 rfl (lv_at hl 0 rfl) ?_
    refine lv_aload_n hx hb dX5_copyFrom_9 rfl (lv_at hl 1 rfl) ?_
    refine zget hx hb hts hown hK hP hin_5 1 rfl rfl 1 (by decide) mw_92 (v := .int (w1 1)) rfl dX5_copyFrom_10 ?_
    refine zput hx hb hts hown hK hP hD hS hin_5 tyX5 tyX5_ok nmX5 0 rfl rfl 1 (by decide) mw_92 rfl (v := .int (w1 1)) rfl rfl (Nat.le_of_ble_eq_true rfl) (wn := (zW_55 cy h0 (ups (ups w0 0 (w1 0)) 1 (w1 1)) h1 w1)) rfl dX5_copyFrom_13 (fun H locs hP hD hS => ?_)
    refine lv_aload_n hx hb dX5_copyFrom_16 rfl (lv_at hl 0 rfl) ?_
    refine lv_aload_n hx hb dX5_copyFrom_17 rfl (lv_at hl 1 rfl) ?_
    refine zget hx hb hts hown hK hP hin_5 1 rfl rfl 2 (by decide) mw_93 (v := .int (w1 2)) rfl dX5_copyFrom_18 ?_
    refine zput hx hb hts hown hK hP hD hS hin_5 tyX5 tyX5_ok nmX5 0 rfl rfl 2 (by decide) mw_93 rfl (v := .int (w1 2)) rfl rfl (Nat.le_of_ble_eq_true rfl) (wn := (zW_55 cy h0 (ups (ups (ups w0 0 (w1 0)) 1 (w1 1)) 2 (w1 2)) h1 w1)) rfl dX5_copyFrom_21 (fun H locs hP hD hS => ?_)
    refine lv_aload_n hx hb dX5_copyFrom_24 rfl (lv_at hl 0 rfl) ?_
    refine lv_aload_n hx hb dX5_copyFrom_25 rfl (lv_at hl 1 rfl) ?_
    refine zget hx hb hts hown hK hP hin_5 1 rfl rfl 3 (by decide) mw_94 (v := .int (w1 3)) rfl dX5_copyFrom_26 ?_
    refine zput hx hb hts hown hK hP hD hS hin_5 tyX5 tyX5_ok nmX5 0 rfl rfl 3 (by decide) mw_94 rfl (v := .int (w1 3)) rfl rfl (Nat.le_of_ble_eq_true rfl) (wn := (zW_55 cy h0 (ups (ups (ups (ups w0 0 (w1 0)) 1 (w1 1)) 2 (w1 2)) 3 (w1 3)) h1 w1)) rfl dX5_copyFrom_29 (fun H locs hP hD hS => ?_)
    refine lv_aload_n hx hb dX5_copyFrom_32 rfl (lv_at hl 0 rfl) ?_
    refine lv_aload_n hx hb dX5_copyFrom_33 rfl (lv_at hl 1 rfl) ?_
    refine zget hx hb hts hown hK hP hin_5 1 rfl rfl 4 (by decide) mw_95 (v := .int (w1 4)) rfl dX5_copyFrom_34 ?_
    refine zput hx hb hts hown hK hP hD hS hin_5 tyX5 tyX5_ok nmX5 0 rfl rfl 4 (by decide) mw_95 rfl (v := .int (w1 4)) rfl rfl (Nat.le_of_ble_eq_true rfl) (wn := (zW_55 cy h0 (ups (ups (ups (ups (ups w0 0 (w1 0)) 1 (w1 1)) 2 (w1 2)) 3 (w1 3)) 4 (w1 4)) h1 w1)) rfl dX5_copyFrom_37 (fun H locs hP hD hS => ?_)
    refine lv_aload_n hx hb dX5_copyFrom_40 rfl (lv_at hl 0 rfl) ?_
    refine lv_aload_n hx hb dX5_copyFrom_41 rfl (lv_at hl 1 rfl) ?_
    refine zget hx hb hts hown hK hP hin_5 1 rfl rfl 5 (by decide) mw_96 (v := .int (w1 5)) rfl dX5_copyFrom_42 ?_
    refine zput hx hb hts hown hK hP hD hS hin_5 tyX5 tyX5_ok nmX5 0 rfl rfl 5 (by decide) mw_96 rfl (v := .int (w1 5)) rfl rfl (Nat.le_of_ble_eq_true rfl) (wn := (zW_55 cy h0 (ups (ups (ups (ups (ups (ups w0 0 (w1 0)) 1 (w1 1)) 2 (w1 2)) 3 (w1 3)) 4 (w1 4)) 5 (w1 5)) h1 w1)) rfl dX5_copyFrom_45 (fun H locs hP hD hS => ?_)
    refine lv_aload_n hx hb dX5_copyFrom_48 rfl (lv_at hl 0 rfl) ?_
    refine lv_aload_n hx hb dX5_copyFrom_49 rfl (lv_at hl 1 rfl) ?_
    refine zget hx hb hts hown hK hP hin_5 1 rfl rfl 6 (by decide) mw_97 (v := .int (w1 6)) rfl dX5_copyFrom_50 ?_
    refine zput hx hb hts hown hK hP hD hS hin_5 tyX5 tyX5_ok nmX5 0 rfl rfl 6 (by decide) mw_97 rfl (v := .int (w1 6)) rfl rfl (Nat.le_of_ble_eq_true rfl) (wn := (zW_55 cy h0 (ups (ups (ups (ups (ups (ups (ups w0 0 (w1 0)) 1 (w1 1)) 2 (w1 2)) 3 (w1 3)) 4 (w1 4)) 5 (w1 5)) 6 (w1 6)) h1 w1)) rfl dX5_copyFrom_53 (fun H locs hP hD hS => ?_)
    refine lv_aload_n hx hb dX5_copyFrom_56 rfl (lv_at hl 0 rfl) ?_
    refine lv_aload_n hx hb dX5_copyFrom_57 rfl (lv_at hl 1 rfl) ?_
    refine zget hx hb hts hown hK hP hin_5 1 rfl rfl 7 (by decide) mw_98 (v := .int (w1 7)) rfl dX5_copyFrom_58 ?_
    refine zput hx hb hts hown hK hP hD hS hin_5 tyX5 tyX5_ok nmX5 0 rfl rfl 7 (by decide) mw_98 rfl (v := .int (w1 7)) rfl rfl (Nat.le_of_ble_eq_true rfl) (wn := (zW_55 cy h0 (ups (ups (ups (ups (ups (ups (ups (ups w0 0 (w1 0)) 1 (w1 1)) 2 (w1 2)) 3 (w1 3)) 4 (w1 4)) 5 (w1 5)) 6 (w1 6)) 7 (w1 7)) h1 w1)) rfl dX5_copyFrom_61 (fun H locs hP hD hS => ?_)
    refine lv_aload_n hx hb dX5_copyFrom_64 rfl (lv_at hl 0 rfl) ?_
    refine lv_aload_n hx hb dX5_copyFrom_65 rfl (lv_at hl 1 rfl) ?_
    refine zget hx hb hts hown hK hP hin_5 1 rfl rfl 8 (by decide) mw_99 (v := .int (w1 8)) rfl dX5_copyFrom_66 ?_
    refine zput hx hb hts hown hK hP hD hS hin_5 tyX5 tyX5_ok nmX5 0 rfl rfl 8 (by decide) mw_99 rfl (v := .int (w1 8)) rfl rfl (Nat.le_of_ble_eq_true rfl) (wn := (zW_55 cy h0 (ups (ups (ups (ups (ups (ups (ups (ups (ups w0 0 (w1 0)) 1 (w1 1)) 2 (w1 2)) 3 (w1 3)) 4 (w1 4)) 5 (w1 5)) 6 (w1 6)) 7 (w1 7)) 8 (w1 8)) h1 w1)) rfl dX5_copyFrom_69 (fun H locs hP hD hS => ?_)
    refine lv_aload_n hx hb dX5_copyFrom_72 rfl (lv_at hl 0 rfl) ?_
    refine lv_aload_n hx hb dX5_copyFrom_73 rfl (lv_at hl 1 rfl) ?_
    refine zget hx hb hts hown hK hP hin_5 1 rfl rfl 9 (by decide) mw_100 (v := .int (w1 9)) rfl dX5_copyFrom_74 ?_
    refine zput hx hb hts hown hK hP hD hS hin_5 tyX5 tyX5_ok nmX5 0 rfl rfl 9 (by decide) mw_100 rfl (v := .int (w1 9)) rfl rfl (Nat.le_of_ble_eq_true rfl) (wn := (zW_55 cy h0 (ups (ups (ups (ups (ups (ups (ups (ups (ups (ups w0 0 (w1 0)) 1 (w1 1)) 2 (w1 2)) 3 (w1 3)) 4 (w1 4)) 5 (w1 5)) 6 (w1 6)) 7 (w1 7)) 8 (w1 8)) 9 (w1 9)) h1 w1)) rfl dX5_copyFrom_77 (fun H locs hP hD hS => ?_)
    refine lv_aload_n hx hb dX5_copyFrom_80 rfl (lv_at hl 0 rfl) ?_
    refine lv_aload_n hx hb dX5_copyFrom_81 rfl (lv_at hl 1 rfl) ?_
    refine zget hx hb hts hown hK hP hin_5 1 rfl rfl 10 (by decide) mw_101 (v := .int (w1 10)) rfl dX5_copyFrom_82 ?_
    refine zput hx hb hts hown hK hP hD hS hin_5 tyX5 tyX5_ok nmX5 0 rfl rfl 10 (by decide) mw_101 rfl (v := .int (w1 10)) rfl rfl (Nat.le_of_ble_eq_true rfl) (wn := (zW_55 cy h0 (ups (ups (ups (ups (ups (ups (ups (ups (ups (ups (ups w0 0 (w1 0)) 1 (w1 1)) 2 (w1 2)) 3 (w1 3)) 4 (w1 4)) 5 (w1 5)) 6 (w1 6)) 7 (w1 7)) 8 (w1 8)) 9 (w1 9)) 10 (w1 10)) h1 w1)) rfl dX5_copyFrom_85 (fun H locs hP hD hS => ?_)
    refine lv_aload_n hx hb dX5_copyFrom_88 rfl (lv_at hl 0 rfl) ?_
    refine lv_aload_n hx hb dX5_copyFrom_89 rfl (lv_at hl 1 rfl) ?_
    refine zget hx hb hts hown hK hP hin_5 1 rfl rfl 11 (by decide) mw_102 (v := .int (w1 11)) rfl dX5_copyFrom_90 ?_
    refine zput hx hb hts hown hK hP hD hS hin_5 tyX5 tyX5_ok nmX5 0 rfl rfl 11 (by decide) mw_102 rfl (v := .int (w1 11)) rfl rfl (Nat.le_of_ble_eq_true rfl) (wn := (zW_55 cy h0 (ups (ups (ups (ups (ups (ups (ups (ups (ups (ups (ups (ups w0 0 (w1 0)) 1 (w1 1)) 2 (w1 2)) 3 (w1 3)) 4 (w1 4)) 5 (w1 5)) 6 (w1 6)) 7 (w1 7)) 8 (w1 8)) 9 (w1 9)) 10 (w1 10)) 11 (w1 11)) h1 w1)) rfl dX5_copyFrom_93 (fun H locs hP hD hS => ?_)
    refine lv_aload_n hx hb dX5_copyFrom_96 rfl (lv_at hl 0 rfl) ?_
    refine lv_aload_n hx hb dX5_copyFrom_97 rfl (lv_at hl 1 rfl) ?_
    refine zget hx hb hts hown hK hP hin_5 1 rfl rfl 12 (by decide) mw_103 (v := .int (w1 12)) rfl dX5_copyFrom_98 ?_
    obtain ⟨hz2, hf⟩ := gz_d hf
    refine zput hx hb hts hown hK hP hD hS hin_5 tyX5 tyX5_ok nmX5 0 rfl rfl 12 (by decide) mw_103 rfl (v := .int (w1 12)) (gz_n hz2) (gz_f hz2) (Nat.le_of_ble_eq_true rfl) (wn := (zW_55 cy h0 (ups (ups (ups (ups (ups (ups (ups (ups (ups (ups (ups (ups (ups w0 0 (w1 0)) 1 (w1 1)) 2 (w1 2)) 3 (w1 3)) 4 (w1 4)) 5 (w1 5)) 6 (w1 6)) 7 (w1 7)) 8 (w1 8)) 9 (w1 9)) 10 (w1 10)) 11 (w1 11)) 12 (w1 12)) h1 w1)) rfl dX5_copyFrom_101 (fun H locs hP hD hS => ?_)
    refine lv_aload_n hx hb dX5_copyFrom_104 rfl (lv_at hl 0 rfl) ?_
    refine lv_aload_n hx hb dX5_copyFrom_105 rfl (lv_at hl 1 rfl) ?_
    refine zget hx hb hts hown hK hP hin_5 1 rfl rfl 13 (by decide) mw_104 (v := .int (w1 13)) rfl dX5_copyFrom_106 ?_
    obtain ⟨hz3, hf⟩ := gz_d hf
    refine zput hx hb hts hown hK hP hD hS hin_5 tyX5 tyX5_ok nmX5 0 rfl rfl 13 (by decide) mw_104 rfl (v := .int (w1 13)) (gz_n hz3) (gz_f hz3) (Nat.le_of_ble_eq_true rfl) (wn := (zW_55 cy h0 (ups (ups (ups (ups (ups (ups (ups (ups (ups (ups (ups (ups (ups (ups w0 0 (w1 0)) 1 (w1 1)) 2 (w1 2)) 3 (w1 3)) 4 (w1 4)) 5 (w1 5)) 6 (w1 6)) 7 (w1 7)) 8 (w1 8)) 9 (w1 9)) 10 (w1 10)) 11 (w1 11)) 12 (w1 12)) 13 (w1 13)) h1 w1)) rfl dX5_copyFrom_109 (fun H locs hP hD hS => ?_)
    refine lv_aload_n hx hb dX5_copyFrom_112 rfl (lv_at hl 0 rfl) ?_
    refine lv_aload_n hx hb dX5_copyFrom_113 rfl (lv_at hl 1 rfl) ?_
    refine zget hx hb hts hown hK hP hin_5 1 rfl rfl 14 (by decide) mw_105 (v := .int (w1 14)) rfl dX5_copyFrom_114 ?_
    refine zput hx hb hts hown hK hP hD hS hin_5 tyX5 tyX5_ok nmX5 0 rfl rfl 14 (by decide) mw_105 rfl (v := .int (w1 14)) rfl rfl (Nat.le_of_ble_eq_true rfl) (wn := (zW_55 cy h0 (ups (ups (ups (ups (ups (ups (ups (ups (ups (ups (ups (ups (ups (ups (ups w0 0 (w1 0)) 1 (w1 1)) 2 (w1 2)) 3 (w1 3)) 4 (w1 4)) 5 (w1 5)) 6 (w1 6)) 7 (w1 7)) 8 (w1 8)) 9 (w1 9)) 10 (w1 10)) 11 (w1 11)) 12 (w1 12)) 13 (w1 13)) 14 (w1 14)) h1 w1)) rfl dX5_copyFrom_117 (fun H locs hP hD hS => ?_)
    refine lv_aload_n hx hb dX5_copyFrom_120 rfl (lv_at hl 0 rfl) ?_
    refine lv_aload_n hx hb dX5_copyFrom_121 rfl (lv_at hl 1 rfl) ?_
    refine zget hx hb hts hown hK hP hin_5 1 rfl rfl 15 (by decide) mw_106 (v := .int (w1 15)) rfl dX5_copyFrom_122 ?_
    refine zput hx hb hts hown hK hP hD hS hin_5 tyX5 tyX5_ok nmX5 0 rfl rfl 15 (by decide) mw_106 rfl (v := .int (w1 15)) rfl rfl (Nat.le_of_ble_eq_true rfl) (wn := (zW_55 cy h0 (ups (ups (ups (ups (ups (ups (ups (ups (ups (ups (ups (ups (ups (ups (ups (ups w0 0 (w1 0)) 1 (w1 1)) 2 (w1 2)) 3 (w1 3)) 4 (w1 4)) 5 (w1 5)) 6 (w1 6)) 7 (w1 7)) 8 (w1 8)) 9 (w1 9)) 10 (w1 10)) 11 (w1 11)) 12 (w1 12)) 13 (w1 13)) 14 (w1 14)) 15 (w1 15)) h1 w1)) rfl dX5_copyFrom_125 (fun H locs hP hD hS => ?_)
    refine lv_aload_n hx hb dX5_copyFrom_128 rfl (lv_at hl 0 rfl) ?_
    refine lv_aload_n hx hb dX5_copyFrom_129 rfl (lv_at hl 1 rfl) ?_
    refine zget hx hb hts hown hK hP hin_5 1 rfl rfl 16 (by decide) mw_107 (v := .int (w1 16)) rfl dX5_copyFrom_130 ?_
    refine zput hx hb hts hown hK hP hD hS hin_5 tyX5 tyX5_ok nmX5 0 rfl rfl 16 (by decide) mw_107 rfl (v := .int (w1 16)) rfl rfl (Nat.le_of_ble_eq_true rfl) (wn := (zW_55 cy h0 (ups (ups (ups (ups (ups (ups (ups (ups (ups (ups (ups (ups (ups (ups (ups (ups (ups w0 0 (w1 0)) 1 (w1 1)) 2 (w1 2)) 3 (w1 3)) 4 (w1 4)) 5 (w1 5)) 6 (w1 6)) 7 (w1 7)) 8 (w1 8)) 9 (w1 9)) 10 (w1 10)) 11 (w1 11)) 12 (w1 12)) 13 (w1 13)) 14 (w1 14)) 15 (w1 15)) 16 (w1 16)) h1 w1)) rfl dX5_copyFrom_133 (fun H locs hP hD hS => ?_)
    exact zretV hx hb hr hlocks hP hK hD hS hf rfl dX5_copyFrom_136
  exact kE s.heap [] hP hD hS
set_option maxHeartbeats 4000000 in
set_option maxRecDepth 100000 in
theorem kX5_tensTillEnded (l : Launch) (dC : Nat → ClassId) (dI : Nat → Nat → Nat) (cy : ClassId) (h0 : Nat) (w0 : Nat → Int32) (h1 : Nat → Nat) (w1 : Nat → Nat → Int32) (sz : Nat) (z : Int32 × (Nat → Int32)) (hf : fX5_tensTillEnded w0 w1 = some z) : Met l yX5_tensTillEnded (wsM yX5_tensTillEnded cX5_tensTillEnded 3 (some .int)) ({ frames := 5, cells := 0, slots := 0, locals := 115 } : Room) (va_Pc [.ref h0, .ref (h1 0)] (pWR (dC, dI) vwCl [(cy, .int)] (zW_56 cy h0 w0 h1 w1) sz)) (va_Qi (fun (q : Int32) (v : (Nat → Int32)) => (q, v) = z) (fun v => aWR (dC, dI) vwCl [(cy, .int)] (va_A (zW_56 cy h0 w0 h1 w1) sz) (zW_56 cy h0 v h1 w1)) (va_A (zW_56 cy h0 w0 h1 w1) sz)) 0 0 (va_A (zW_56 cy h0 w0 h1 w1) sz) := by
  refine Met.ofW (cc := cX5_tensTillEnded) (maxL := 3) (ret := (some .int)) (by decide) rfl ?_
  intro p e s m args below meth c s₁ B hml hv
  obtain ⟨ha, hsz, hP, hK, hD0, hG⟩ := hv
  have hx := B.exec
  have hb := B.bytes
  have hr := B.returns
  have hts : ∀ w ∈ wsA, w.before args s = true := fun w h => atoms_spec (ws := wsM yX5_tensTillEnded cX5_tensTillEnded 3 (some .int)) B.pre w (List.mem_cons_of_mem _ h)
  have hown : s.vm.findClass RX5 = some m.cls := findClass_of_methodNamed B.named
  have hlocks := B.notSynchronized
  subst hsz
  have hD := hD0.self (sz := s.heap.size)
  generalize hAe : va_A (zW_56 cy h0 w0 h1 w1) s.heap.size = A at hD hG ⊢
  have hA : ∀ q : Nat, s.heap.size ≤ q → A q := fun q h => by rw [← hAe]; exact Or.inr h
  have hS : va_S A s.heap s.heap [] := va_S.rf
  have hP : va_P (dC, dI) vwCl (zW_56 cy h0 w0 h1 w1) s.heap := hP
  have hD : va_D A (zW_56 cy h0 w0 h1 w1) := hD
  have k2 : ∀ n : Nat, ∀ (c0_0 : (Nat → Int32)) (x2 : Int32) (H : Heap) (locs : List Loc) (ls : Array Slot), va_P (dC, dI) vwCl (zW_56 cy h0 c0_0 h1 w1) H → va_D A (zW_56 cy h0 c0_0 h1 w1) → va_S A s.heap H locs → lv_has ls 3 [(0, .ref h0), (1, .ref (h1 0)), (2, .int x2)] → (zl2 (fX5_tensTillEnded_2 w1) n) c0_0 x2 = some z → W p l e ({ frames := 5, cells := 0, slots := 0, locals := 115 } : Room) s m args below meth c H locs 0 0 (MQ below (va_Qi (fun (q : Int32) (v : (Nat → Int32)) => (q, v) = z) (fun v => aWR (dC, dI) vwCl [(cy, .int)] A (zW_56 cy h0 v h1 w1)) A) args s 0 0 A) (F0 m 2 ls []) := by
    intro n
    induction n with
    | zero =>
      intro c0_0 x2 H locs ls hP hD hS hl hf
      exact z_no hf
    | succ n hs2 =>
      intro c0_0 x2 H locs ls hP hD hS hl hf
      have hf : fX5_tensTillEnded_2 w1 (zl2 (fX5_tensTillEnded_2 w1) n) c0_0 x2 = some z := hf
      generalize zl2 (fX5_tensTillEnded_2 w1) n = s2 at hs2 hf
      unfold fX5_tensTillEnded_2 at hf
      refine lv_iload_n hx hb dX5_tensTillEnded_2 rfl (lv_at hl 2 rfl) ?_
      refine lv_bipush (v := (60 : Int32)) hx hb dX5_tensTillEnded_3 (by decide) ?_
      refine lv_icmp_ge (tgt := 26) hx hb dX5_tensTillEnded_5 (by decide) (fun hc => ?_) (fun hc => ?_)
      · have hf := it_t hc hf
        refine lv_iload_n hx hb dX5_tensTillEnded_26 rfl (lv_at hl 2 rfl) ?_
        exact zretI hx hb hr hlocks hP hK hD hS hf rfl dX5_tensTillEnded_27
      · have hf := it_f hc hf
        refine lv_aload_n hx hb dX5_tensTillEnded_8 rfl (lv_at hl 0 rfl) ?_
        obtain ⟨r2, hq1, hf⟩ := ob1_d hf
        refine zroV (q := (RX5, TX5, 17)) (As := []) (rest := []) (r := r2) ⟨hx, hb, hml, hown, hts⟩ (kX5_isEnded l dC dI cy h0 c0_0 r2 hq1) mw_308 mw_309 mw_310 mw_6 mw_311 hdX5_isEnded rfl rfl ⟨Nat.le_of_ble_eq_true rfl, Nat.le_of_ble_eq_true rfl⟩ hP hK hG hS 0 rfl rfl [0] rfl rfl hl.1 rfl (Nat.le_of_ble_eq_true rfl) dX5_tensTillEnded_9 ⟨Nat.zero_le _, Nat.zero_le _⟩ ?_
        refine lv_if_ne (tgt := 26) hx hb dX5_tensTillEnded_12 (by decide) (fun hc => ?_) (fun hc => ?_)
        · have hf := it_f hc hf
          refine lv_iload_n hx hb dX5_tensTillEnded_26 rfl (lv_at hl 2 rfl) ?_
          exact zretI hx hb hr hlocks hP hK hD hS hf rfl dX5_tensTillEnded_27
        · have hf := it_t hc hf
          refine lv_aload_n hx hb dX5_tensTillEnded_15 rfl (lv_at hl 0 rfl) ?_
          refine lv_aload_n hx hb dX5_tensTillEnded_16 rfl (lv_at hl 1 rfl) ?_
          obtain ⟨u4, hq3, hf⟩ := ob1_d hf
          refine zwvV (q := (RX5, TX5, 17)) (As := [.ref (h1 0)]) (rest := []) (u := u4) (wn := (zW_56 cy h0 u4 h1 w1)) ⟨hx, hb, hml, hown, hts⟩ (kX5_passTen l dC dI cy h0 c0_0 h1 w1 H.size u4 hq3) mw_304 mw_305 mw_306 mw_6 mw_307 hdX5_passTen rfl rfl ⟨Nat.le_of_ble_eq_true rfl, Nat.le_of_ble_eq_true rfl⟩ hP hK hG hS 0 rfl rfl hD hA [0, 1, 2, 3, 4, 5, 6, 7, 8, 9] [] [0, 1, 2, 3, 4, 5, 6, 7, 8, 9] rfl rfl rfl rfl (by decide) rfl rfl rfl hl.1 rfl (Nat.le_of_ble_eq_true rfl) dX5_tensTillEnded_17 ⟨Nat.zero_le _, Nat.zero_le _⟩ (fun H locs hP hD hS => ?_)
          refine lv_zinc (lv' := [(2, .int (x2 + (1 : Int32))), (0, .ref h0), (1, .ref (h1 0))]) hx hb dX5_tensTillEnded_20 hl (k := 2) rfl (v := (1 : Int32)) (by decide) (by decide) rfl (fun ls hl => ?_)
          refine lv_goto (tgt := 2) hx hb dX5_tensTillEnded_23 (by decide) ?_
          exact hs2 u4 (x2 + (1 : Int32)) H locs ls hP hD hS (lv_sub hl [1, 2, 0] rfl) hf
  obtain ⟨ls, hl, he⟩ := zent (m := m) (n := 3) (L := [(0, .ref h0), (1, .ref (h1 0))]) ha (Nat.le_of_ble_eq_true rfl) rfl
  refine W.eq he ?_
  unfold fX5_tensTillEnded at hf
  have kE : ∀ (H : Heap) (locs : List Loc), va_P (dC, dI) vwCl (zW_56 cy h0 w0 h1 w1) H → va_D A (zW_56 cy h0 w0 h1 w1) → va_S A s.heap H locs → W p l e ({ frames := 5, cells := 0, slots := 0, locals := 115 } : Room) s m args below meth c H locs 0 0 (MQ below (va_Qi (fun (q : Int32) (v : (Nat → Int32)) => (q, v) = z) (fun v => aWR (dC, dI) vwCl [(cy, .int)] A (zW_56 cy h0 v h1 w1)) A) args s 0 0 A) (F0 m 0 ls []) := by
    intro H locs hP hD hS
    refine lv_iconst (v := (0 : Int32)) hx hb dX5_tensTillEnded_0 (by decide) ?_
    refine lv_istore_n (lv' := [(2, .int (0 : Int32)), (0, .ref h0), (1, .ref (h1 0))]) hx hb dX5_tensTillEnded_1 rfl hl (by decide) rfl (fun ls hl => ?_)
    exact k2 zFU w0 (0 : Int32) H locs ls hP hD hS (lv_sub hl [1, 2, 0] rfl) hf
  exact kE s.heap [] hP hD hS
set_option maxHeartbeats 4000000 in
set_option maxRecDepth 100000 in
theorem kX5_tryAct (l : Launch) (dC : Nat → ClassId) (dI : Nat → Nat → Nat) (cy : ClassId) (h0 : Nat) (w0 : Nat → Int32) (h1 : Nat → Nat) (w1 : Nat → Nat → Int32) (x2 : Int32) (sz : Nat) (z : (Nat → Int32)) (hf : fX5_tryAct w0 w1 x2 = some z) : Met l yX5_tryAct (wsM yX5_tryAct cX5_tryAct 4 none) ({ frames := 4, cells := 0, slots := 0, locals := 92 } : Room) (va_Pc [.ref h0, .ref (h1 0), .int x2] (pWR (dC, dI) vwCl [(cy, .int)] (zW_56 cy h0 w0 h1 w1) sz)) (va_Qv (fun (v : (Nat → Int32)) => v = z) (fun v => aWR (dC, dI) vwCl [(cy, .int)] (va_A (zW_56 cy h0 w0 h1 w1) sz) (zW_56 cy h0 v h1 w1)) (va_A (zW_56 cy h0 w0 h1 w1) sz)) 0 0 (va_A (zW_56 cy h0 w0 h1 w1) sz) := by
  refine Met.ofW (cc := cX5_tryAct) (maxL := 4) (ret := none) (by decide) rfl ?_
  intro p e s m args below meth c s₁ B hml hv
  obtain ⟨ha, hsz, hP, hK, hD0, hG⟩ := hv
  have hx := B.exec
  have hb := B.bytes
  have hr := B.returns
  have hts : ∀ w ∈ wsA, w.before args s = true := fun w h => atoms_spec (ws := wsM yX5_tryAct cX5_tryAct 4 none) B.pre w (List.mem_cons_of_mem _ h)
  have hown : s.vm.findClass RX5 = some m.cls := findClass_of_methodNamed B.named
  have hlocks := B.notSynchronized
  subst hsz
  have hD := hD0.self (sz := s.heap.size)
  generalize hAe : va_A (zW_56 cy h0 w0 h1 w1) s.heap.size = A at hD hG ⊢
  have hA : ∀ q : Nat, s.heap.size ≤ q → A q := fun q h => by rw [← hAe]; exact Or.inr h
  have hS : va_S A s.heap s.heap [] := va_S.rf
  have hP : va_P (dC, dI) vwCl (zW_56 cy h0 w0 h1 w1) s.heap := hP
  have hD : va_D A (zW_56 cy h0 w0 h1 w1) := hD
  have k25 : ∀ (c0_0 : (Nat → Int32)) (t0 : Int32) (t1 : Int32) (H : Heap) (locs : List Loc) (ls : Array Slot), va_P (dC, dI) vwCl (zW_56 cy h0 c0_0 h1 w1) H → va_D A (zW_56 cy h0 c0_0 h1 w1) → va_S A s.heap H locs → lv_has ls 4 [(0, .ref h0), (1, .ref (h1 0))] → (fX5_tryAct_25 w1) c0_0 t0 t1 = some z → W p l e ({ frames := 4, cells := 0, slots := 0, locals := 92 } : Room) s m args below meth c H locs 0 0 (MQ below (va_Qv (fun (v : (Nat → Int32)) => v = z) (fun v => aWR (dC, dI) vwCl [(cy, .int)] A (zW_56 cy h0 v h1 w1)) A) args s 0 0 A) (F0 m 25 ls [.int t1, .int t0]) := by
    intro c0_0 t0 t1 H locs ls hP hD hS hl hf
    unfold fX5_tryAct_25 at hf
    refine lv_iadd hx hb dX5_tryAct_25 ?_
    obtain ⟨r2, hq1, hf⟩ := ob1_d hf
    refine zroSN (As := [.int (t0 + t1)]) (rest := []) (r := r2) ⟨hx, hb, hml, hown, hts⟩ (kX7_goneRound l dC dI cy (t0 + t1) r2 hq1) (List.mem_of_getElem? (i := 8) rfl) mw_271 mw_1 mw_272 hdX7_goneRound rfl rfl ⟨Nat.le_of_ble_eq_true rfl, Nat.le_of_ble_eq_true rfl⟩ hP hK hG hS [] rfl rfl hl.1 rfl (Nat.le_of_ble_eq_true rfl) dX5_tryAct_26 ⟨Nat.zero_le _, Nat.zero_le _⟩ ?_
    refine lv_istore_n (lv' := [(3, .int r2), (0, .ref h0), (1, .ref (h1 0))]) hx hb dX5_tryAct_29 rfl hl (by decide) rfl (fun ls hl => ?_)
    refine lv_aload_n hx hb dX5_tryAct_30 rfl (lv_at hl 1 rfl) ?_
    refine lv_aload_n hx hb dX5_tryAct_31 rfl (lv_at hl 2 rfl) ?_
    refine lv_iload_n hx hb dX5_tryAct_32 rfl (lv_at hl 0 rfl) ?_
    obtain ⟨r4, hq3, hf⟩ := ob1_d hf
    refine zroV (q := (RX5, TX5, 17)) (As := [.ref (h1 0), .int r2]) (rest := []) (r := r4) ⟨hx, hb, hml, hown, hts⟩ (kX5_mayTurn l dC dI cy h0 c0_0 h1 w1 r2 r4 hq3) mw_500 mw_361 mw_362 mw_6 mw_363 hdX5_mayTurn rfl rfl ⟨Nat.le_of_ble_eq_true rfl, Nat.le_of_ble_eq_true rfl⟩ hP hK hG hS 0 rfl rfl [0, 1, 2, 3, 4, 5, 6, 7, 8, 9] rfl rfl hl.1 rfl (Nat.le_of_ble_eq_true rfl) dX5_tryAct_33 ⟨Nat.zero_le _, Nat.zero_le _⟩ ?_
    refine lv_if_eq (tgt := 45) hx hb dX5_tryAct_36 (by decide) (fun hc => ?_) (fun hc => ?_)
    · have hf := it_t hc hf
      refine lv_goto (tgt := 98) hx hb dX5_tryAct_45 (by decide) ?_
      exact zretV hx hb hr hlocks hP hK hD hS hf rfl dX5_tryAct_98
    · have hf := it_f hc hf
      refine lv_aload_n hx hb dX5_tryAct_39 rfl (lv_at hl 1 rfl) ?_
      refine lv_aload_n hx hb dX5_tryAct_40 rfl (lv_at hl 2 rfl) ?_
      refine lv_iload_n hx hb dX5_tryAct_41 rfl (lv_at hl 0 rfl) ?_
      obtain ⟨u6, hq5, hf⟩ := ob1_d hf
      refine zwvV (q := (RX5, TX5, 17)) (As := [.ref (h1 0), .int r2]) (rest := []) (u := u6) (wn := (zW_56 cy h0 u6 h1 w1)) ⟨hx, hb, hml, hown, hts⟩ (kX5_turnBeforeWind l dC dI cy h0 c0_0 h1 w1 r2 H.size u6 hq5) mw_501 mw_381 mw_382 mw_6 mw_383 hdX5_turnBeforeWind rfl rfl ⟨Nat.le_of_ble_eq_true rfl, Nat.le_of_ble_eq_true rfl⟩ hP hK hG hS 0 rfl rfl hD hA [0, 1, 2, 3, 4, 5, 6, 7, 8, 9] [] [0, 1, 2, 3, 4, 5, 6, 7, 8, 9] rfl rfl rfl rfl (by decide) rfl rfl rfl hl.1 rfl (Nat.le_of_ble_eq_true rfl) dX5_tryAct_42 ⟨Nat.zero_le _, Nat.zero_le _⟩ (fun H locs hP hD hS => ?_)
      refine lv_goto (tgt := 98) hx hb dX5_tryAct_45 (by decide) ?_
      exact zretV hx hb hr hlocks hP hK hD hS hf rfl dX5_tryAct_98
  have k10 : ∀ (c0_0 : (Nat → Int32)) (x2 : Int32) (H : Heap) (locs : List Loc) (ls : Array Slot), va_P (dC, dI) vwCl (zW_56 cy h0 c0_0 h1 w1) H → va_D A (zW_56 cy h0 c0_0 h1 w1) → va_S A s.heap H locs → lv_has ls 4 [(0, .ref h0), (1, .ref (h1 0)), (2, .int x2)] → (fX5_tryAct_10 w1) c0_0 x2 = some z → W p l e ({ frames := 4, cells := 0, slots := 0, locals := 92 } : Room) s m args below meth c H locs 0 0 (MQ below (va_Qv (fun (v : (Nat → Int32)) => v = z) (fun v => aWR (dC, dI) vwCl [(cy, .int)] A (zW_56 cy h0 v h1 w1)) A) args s 0 0 A) (F0 m 10 ls []) := by
    intro c0_0 x2 H locs ls hP hD hS hl hf
    unfold fX5_tryAct_10 at hf
    refine lv_aload_n hx hb dX5_tryAct_10 rfl (lv_at hl 0 rfl) ?_
    refine zget hx hb hts hown hK hP hin_5 0 rfl rfl 2 (by decide) mw_93 (v := .int (c0_0 2)) rfl dX5_tryAct_11 ?_
    refine lv_iload_n hx hb dX5_tryAct_14 rfl (lv_at hl 2 rfl) ?_
    refine lv_iconst (v := (1 : Int32)) hx hb dX5_tryAct_15 (by decide) ?_
    refine lv_icmp_ne (tgt := 23) hx hb dX5_tryAct_16 (by decide) (fun hc => ?_) (fun hc => ?_)
    · have hf := it_f hc hf
      refine lv_bipush (v := (-2 : Int32)) hx hb dX5_tryAct_23 (by decide) ?_
      exact k25 c0_0 (c0_0 2) (-2 : Int32) H locs ls hP hD hS (lv_sub hl [0, 1] rfl) hf
    · have hf := it_t hc hf
      refine lv_iconst (v := (2 : Int32)) hx hb dX5_tryAct_19 (by decide) ?_
      refine lv_goto (tgt := 25) hx hb dX5_tryAct_20 (by decide) ?_
      exact k25 c0_0 (c0_0 2) (2 : Int32) H locs ls hP hD hS (lv_sub hl [0, 1] rfl) hf
  obtain ⟨ls, hl, he⟩ := zent (m := m) (n := 4) (L := [(0, .ref h0), (1, .ref (h1 0)), (2, .int x2)]) ha (Nat.le_of_ble_eq_true rfl) rfl
  refine W.eq he ?_
  unfold fX5_tryAct at hf
  have kE : ∀ (H : Heap) (locs : List Loc), va_P (dC, dI) vwCl (zW_56 cy h0 w0 h1 w1) H → va_D A (zW_56 cy h0 w0 h1 w1) → va_S A s.heap H locs → W p l e ({ frames := 4, cells := 0, slots := 0, locals := 92 } : Room) s m args below meth c H locs 0 0 (MQ below (va_Qv (fun (v : (Nat → Int32)) => v = z) (fun v => aWR (dC, dI) vwCl [(cy, .int)] A (zW_56 cy h0 v h1 w1)) A) args s 0 0 A) (F0 m 0 ls []) := by
    intro H locs hP hD hS
    refine lv_iload_n hx hb dX5_tryAct_0 rfl (lv_at hl 2 rfl) ?_
    refine lv_iconst (v := (1 : Int32)) hx hb dX5_tryAct_1 (by decide) ?_
    refine lv_icmp_eq (tgt := 10) hx hb dX5_tryAct_2 (by decide) (fun hc => ?_) (fun hc => ?_)
    · have hf := it_t hc hf
      exact k10 w0 x2 H locs ls hP hD hS (lv_sub hl [0, 1, 2] rfl) hf
    · have hf := it_f hc hf
      refine lv_iload_n hx hb dX5_tryAct_5 rfl (lv_at hl 2 rfl) ?_
      refine lv_iconst (v := (2 : Int32)) hx hb dX5_tryAct_6 (by decide) ?_
      refine lv_icmp_ne (tgt := 48) hx hb dX5_tryAct_7 (by decide) (fun hc => ?_) (fun hc => ?_)
      · have hf := it_f hc hf
        refine lv_iload_n hx hb dX5_tryAct_48 rfl (lv_at hl 2 rfl) ?_
        refine lv_iconst (v := (3 : Int32)) hx hb dX5_tryAct_49 (by decide) ?_
        refine lv_icmp_ne (tgt := 68) hx hb dX5_tryAct_50 (by decide) (fun hc => ?_) (fun hc => ?_)
        · have hf := it_f hc hf
          refine lv_iload_n hx hb dX5_tryAct_68 rfl (lv_at hl 2 rfl) ?_
          refine lv_iconst (v := (4 : Int32)) hx hb dX5_tryAct_69 (by decide) ?_
          refine lv_icmp_ne (tgt := 98) hx hb dX5_tryAct_70 (by decide) (fun hc => ?_) (fun hc => ?_)
          · have hf := it_f hc hf
            exact zretV hx hb hr hlocks hP hK hD hS hf rfl dX5_tryAct_98
          · have hf := it_t hc hf
            refine lv_aload_n hx hb dX5_tryAct_73 rfl (lv_at hl 0 rfl) ?_
            obtain ⟨r8, hq7, hf⟩ := ob1_d hf
            refine zroV (q := (RX5, TX5, 17)) (As := []) (rest := []) (r := r8) ⟨hx, hb, hml, hown, hts⟩ (kX5_isAlive l dC dI cy h0 w0 r8 hq7) mw_364 mw_365 mw_366 mw_6 mw_367 hdX5_isAlive rfl rfl ⟨Nat.le_of_ble_eq_true rfl, Nat.le_of_ble_eq_true rfl⟩ hP hK hG hS 0 rfl rfl [0] rfl rfl hl.1 rfl (Nat.le_of_ble_eq_true rfl) dX5_tryAct_74 ⟨Nat.zero_le _, Nat.zero_le _⟩ ?_
            refine lv_if_eq (tgt := 98) hx hb dX5_tryAct_77 (by decide) (fun hc => ?_) (fun hc => ?_)
            · have hf := it_t hc hf
              exact zretV hx hb hr hlocks hP hK hD hS hf rfl dX5_tryAct_98
            · have hf := it_f hc hf
              refine lv_aload_n hx hb dX5_tryAct_80 rfl (lv_at hl 0 rfl) ?_
              refine zget hx hb hts hown hK hP hin_5 0 rfl rfl 3 (by decide) mw_94 (v := .int (w0 3)) rfl dX5_tryAct_81 ?_
              refine lv_iconst (v := (3 : Int32)) hx hb dX5_tryAct_84 (by decide) ?_
              refine lv_icmp_ge (tgt := 98) hx hb dX5_tryAct_85 (by decide) (fun hc => ?_) (fun hc => ?_)
              · have hf := it_t hc hf
                exact zretV hx hb hr hlocks hP hK hD hS hf rfl dX5_tryAct_98
              · have hf := it_f hc hf
                refine lv_aload_n hx hb dX5_tryAct_88 rfl (lv_at hl 0 rfl) ?_
                refine lv_dup hx hb dX5_tryAct_89 rfl ?_
                refine zget hx hb hts hown hK hP hin_5 0 rfl rfl 3 (by decide) mw_94 (v := .int (w0 3)) rfl dX5_tryAct_90 ?_
                refine lv_iconst (v := (1 : Int32)) hx hb dX5_tryAct_93 (by decide) ?_
                refine lv_iadd hx hb dX5_tryAct_94 ?_
                refine zput hx hb hts hown hK hP hD hS hin_5 tyX5 tyX5_ok nmX5 0 rfl rfl 3 (by decide) mw_94 rfl (v := .int ((w0 3) + (1 : Int32))) rfl rfl (Nat.le_of_ble_eq_true rfl) (wn := (zW_56 cy h0 (ups w0 3 ((w0 3) + (1 : Int32))) h1 w1)) rfl dX5_tryAct_95 (fun H locs hP hD hS => ?_)
                exact zretV hx hb hr hlocks hP hK hD hS hf rfl dX5_tryAct_98
        · have hf := it_t hc hf
          refine lv_aload_n hx hb dX5_tryAct_53 rfl (lv_at hl 0 rfl) ?_
          obtain ⟨r10, hq9, hf⟩ := ob1_d hf
          refine zroV (q := (RX5, TX5, 17)) (As := []) (rest := []) (r := r10) ⟨hx, hb, hml, hown, hts⟩ (kX5_mayAnchor l dC dI cy h0 w0 r10 hq9) mw_502 mw_402 mw_403 mw_6 mw_404 hdX5_mayAnchor rfl rfl ⟨Nat.le_of_ble_eq_true rfl, Nat.le_of_ble_eq_true rfl⟩ hP hK hG hS 0 rfl rfl [0] rfl rfl hl.1 rfl (Nat.le_of_ble_eq_true rfl) dX5_tryAct_54 ⟨Nat.zero_le _, Nat.zero_le _⟩ ?_
          refine lv_if_eq (tgt := 98) hx hb dX5_tryAct_57 (by decide) (fun hc => ?_) (fun hc => ?_)
          · have hf := it_t hc hf
            exact zretV hx hb hr hlocks hP hK hD hS hf rfl dX5_tryAct_98
          · have hf := it_f hc hf
            refine lv_aload_n hx hb dX5_tryAct_60 rfl (lv_at hl 0 rfl) ?_
            refine lv_iconst (v := (4 : Int32)) hx hb dX5_tryAct_61 (by decide) ?_
            refine zput hx hb hts hown hK hP hD hS hin_5 tyX5 tyX5_ok nmX5 0 rfl rfl 10 (by decide) mw_101 rfl (v := .int (4 : Int32)) rfl rfl (Nat.le_of_ble_eq_true rfl) (wn := (zW_56 cy h0 (ups w0 10 (4 : Int32)) h1 w1)) rfl dX5_tryAct_62 (fun H locs hP hD hS => ?_)
            refine lv_goto (tgt := 98) hx hb dX5_tryAct_65 (by decide) ?_
            exact zretV hx hb hr hlocks hP hK hD hS hf rfl dX5_tryAct_98
      · have hf := it_t hc hf
        exact k10 w0 x2 H locs ls hP hD hS (lv_sub hl [0, 1, 2] rfl) hf
  exact kE s.heap [] hP hD hS
set_option maxHeartbeats 4000000 in
set_option maxRecDepth 100000 in
theorem kX4_firstWrong (l : Launch) (dC : Nat → ClassId) (dI : Nat → Nat → Nat) (cy : ClassId) (h0 : Nat → Nat) (w0 : Nat → Nat → Int32) (h1 : Nat → Nat) (w1 : Nat → Nat → Int32) (h2 : Nat) (w2 : Nat → Int32) (sz : Nat) (z : Int32 × (Nat → Int32)) (hf : fX4_firstWrong w0 w1 w2 = some z) : Met l yX4_firstWrong (wsM yX4_firstWrong cX4_firstWrong 5 (some .int)) ({ frames := 5, cells := 0, slots := 0, locals := 115 } : Room) (va_Pc [.ref (h0 0), .ref (h1 0), .ref h2] (pWR (dC, dI) vwCl [(cy, .int)] (zW_465 cy h0 w0 h1 w1 h2 w2) sz)) (va_Qi (fun (q : Int32) (v : (Nat → Int32)) => (q, v) = z) (fun v => aWR (dC, dI) vwCl [(cy, .int)] (va_A (zW_465 cy h0 w0 h1 w1 h2 w2) sz) (zW_465 cy h0 w0 h1 w1 h2 v)) (va_A (zW_465 cy h0 w0 h1 w1 h2 w2) sz)) 0 0 (va_A (zW_465 cy h0 w0 h1 w1 h2 w2) sz) := by
  refine Met.ofW (cc := cX4_firstWrong) (maxL := 5) (ret := (some .int)) (by decide) rfl ?_
  intro p e s m args below meth c s₁ B hml hv
  obtain ⟨ha, hsz, hP, hK, hD0, hG⟩ := hv
  have hx := B.exec
  have hb := B.bytes
  have hr := B.returns
  have hts : ∀ w ∈ wsA, w.before args s = true := fun w h => atoms_spec (ws := wsM yX4_firstWrong cX4_firstWrong 5 (some .int)) B.pre w (List.mem_cons_of_mem _ h)
  have hown : s.vm.findClass RX4 = some m.cls := findClass_of_methodNamed B.named
  have hlocks := B.notSynchronized
  subst hsz
  have hD := hD0.self (sz := s.heap.size)
  generalize hAe : va_A (zW_465 cy h0 w0 h1 w1 h2 w2) s.heap.size = A at hD hG ⊢
  have hA : ∀ q : Nat, s.heap.size ≤ q → A q := fun q h => by rw [← hAe]; exact Or.inr h
  have hS : va_S A s.heap s.heap [] := va_S.rf
  have hP : va_P (dC, dI) vwCl (zW_465 cy h0 w0 h1 w1 h2 w2) s.heap := hP
  have hD : va_D A (zW_465 cy h0 w0 h1 w1 h2 w2) := hD
  have k33 : ∀ (s2 : (Nat → Int32) → Int32 → Option (Int32 × (Nat → Int32))) (hs2 : ∀ (c2_0 : (Nat → Int32)) (x3 : Int32) (H : Heap) (locs : List Loc) (ls : Array Slot), va_P (dC, dI) vwCl (zW_465 cy h0 w0 h1 w1 h2 c2_0) H → va_D A (zW_465 cy h0 w0 h1 w1 h2 c2_0) → va_S A s.heap H locs → lv_has ls 5 [(0, .ref (h0 0)), (1, .ref (h1 0)), (2, .ref h2), (3, .int x3)] → s2 c2_0 x3 = some z → W p l e ({ frames := 5, cells := 0, slots := 0, locals := 115 } : Room) s m args below meth c H locs 0 0 (MQ below (va_Qi (fun (q : Int32) (v : (Nat → Int32)) => (q, v) = z) (fun v => aWR (dC, dI) vwCl [(cy, .int)] A (zW_465 cy h0 w0 h1 w1 h2 v)) A) args s 0 0 A) (F0 m 2 ls [])), ∀ (c2_0 : (Nat → Int32)) (x3 : Int32) (t0 : Int32) (H : Heap) (locs : List Loc) (ls : Array Slot), va_P (dC, dI) vwCl (zW_465 cy h0 w0 h1 w1 h2 c2_0) H → va_D A (zW_465 cy h0 w0 h1 w1 h2 c2_0) → va_S A s.heap H locs → lv_has ls 5 [(0, .ref (h0 0)), (1, .ref (h1 0)), (2, .ref h2), (3, .int x3)] → (fX4_firstWrong_33 w0 w1 s2) c2_0 x3 t0 = some z → W p l e ({ frames := 5, cells := 0, slots := 0, locals := 115 } : Room) s m args below meth c H locs 0 0 (MQ below (va_Qi (fun (q : Int32) (v : (Nat → Int32)) => (q, v) = z) (fun v => aWR (dC, dI) vwCl [(cy, .int)] A (zW_465 cy h0 w0 h1 w1 h2 v)) A) args s 0 0 A) (F0 m 33 ls [.int t0]) := by
    intro s2 hs2
    intro c2_0 x3 t0 H locs ls hP hD hS hl hf
    unfold fX4_firstWrong_33 at hf
    refine lv_istore (lv' := [(4, .int t0), (0, .ref (h0 0)), (1, .ref (h1 0)), (2, .ref h2), (3, .int x3)]) hx hb dX4_firstWrong_33 hl (by decide) rfl (fun ls hl => ?_)
    refine lv_aload_n hx hb dX4_firstWrong_35 rfl (lv_at hl 1 rfl) ?_
    refine zget hx hb hts hown hK hP hin_4 0 rfl rfl 0 (by decide) mw_137 (v := .ref (h0 1)) rfl dX4_firstWrong_36 ?_
    refine lv_iload_n hx hb dX4_firstWrong_39 rfl (lv_at hl 4 rfl) ?_
    obtain ⟨r4, hq3, hf⟩ := ob1_d hf
    refine zroSN (As := [.ref (h0 1), .int x3]) (rest := []) (r := r4) ⟨hx, hb, hml, hown, hts⟩ (kX7_valueAt l dC dI cy (h0 1) 12 (w0 1) x3 r4 hq3) (List.mem_of_getElem? (i := 18) rfl) mw_184 mw_1 mw_185 hdX7_valueAt rfl rfl ⟨Nat.le_of_ble_eq_true rfl, Nat.le_of_ble_eq_true rfl⟩ hP hK hG hS [1] rfl rfl hl.1 rfl (Nat.le_of_ble_eq_true rfl) dX4_firstWrong_40 ⟨Nat.zero_le _, Nat.zero_le _⟩ ?_
    refine lv_iload hx hb dX4_firstWrong_43 (lv_at hl 0 rfl) ?_
    refine lv_icmp_eq (tgt := 50) hx hb dX4_firstWrong_45 (by decide) (fun hc => ?_) (fun hc => ?_)
    · have hf := it_t hc hf
      refine lv_zinc (lv' := [(3, .int (x3 + (1 : Int32))), (4, .int t0), (0, .ref (h0 0)), (1, .ref (h1 0)), (2, .ref h2)]) hx hb dX4_firstWrong_50 hl (k := 4) rfl (v := (1 : Int32)) (by decide) (by decide) rfl (fun ls hl => ?_)
      refine lv_goto (tgt := 2) hx hb dX4_firstWrong_53 (by decide) ?_
      exact hs2 c2_0 (x3 + (1 : Int32)) H locs ls hP hD hS (lv_sub hl [2, 3, 4, 0] rfl) hf
    · have hf := it_f hc hf
      refine lv_iload_n hx hb dX4_firstWrong_48 rfl (lv_at hl 4 rfl) ?_
      exact zretI hx hb hr hlocks hP hK hD hS hf rfl dX4_firstWrong_49
  have k2 : ∀ n : Nat, ∀ (c2_0 : (Nat → Int32)) (x3 : Int32) (H : Heap) (locs : List Loc) (ls : Array Slot), va_P (dC, dI) vwCl (zW_465 cy h0 w0 h1 w1 h2 c2_0) H → va_D A (zW_465 cy h0 w0 h1 w1 h2 c2_0) → va_S A s.heap H locs → lv_has ls 5 [(0, .ref (h0 0)), (1, .ref (h1 0)), (2, .ref h2), (3, .int x3)] → (zl2 (fX4_firstWrong_2 w0 w1) n) c2_0 x3 = some z → W p l e ({ frames := 5, cells := 0, slots := 0, locals := 115 } : Room) s m args below meth c H locs 0 0 (MQ below (va_Qi (fun (q : Int32) (v : (Nat → Int32)) => (q, v) = z) (fun v => aWR (dC, dI) vwCl [(cy, .int)] A (zW_465 cy h0 w0 h1 w1 h2 v)) A) args s 0 0 A) (F0 m 2 ls []) := by
    intro n
    induction n with
    | zero =>
      intro c2_0 x3 H locs ls hP hD hS hl hf
      exact z_no hf
    | succ n hs2 =>
      intro c2_0 x3 H locs ls hP hD hS hl hf
      have hf : fX4_firstWrong_2 w0 w1 (zl2 (fX4_firstWrong_2 w0 w1) n) c2_0 x3 = some z := hf
      generalize zl2 (fX4_firstWrong_2 w0 w1) n = s2 at hs2 hf
      unfold fX4_firstWrong_2 at hf
      refine lv_iload_n hx hb dX4_firstWrong_2 rfl (lv_at hl 3 rfl) ?_
      refine lv_aload_n hx hb dX4_firstWrong_3 rfl (lv_at hl 0 rfl) ?_
      refine zget hx hb hts hown hK hP hin_4 0 rfl rfl 1 (by decide) mw_138 (v := .int (w0 0 1)) rfl dX4_firstWrong_4 ?_
      refine lv_icmp_ge (tgt := 56) hx hb dX4_firstWrong_7 (by decide) (fun hc => ?_) (fun hc => ?_)
      · have hf := it_t hc hf
        refine lv_bipush (v := (-9 : Int32)) hx hb dX4_firstWrong_56 (by decide) ?_
        exact zretI hx hb hr hlocks hP hK hD hS hf rfl dX4_firstWrong_58
      · have hf := it_f hc hf
        refine lv_aload_n hx hb dX4_firstWrong_10 rfl (lv_at hl 2 rfl) ?_
        refine lv_aload_n hx hb dX4_firstWrong_11 rfl (lv_at hl 1 rfl) ?_
        obtain ⟨u2, hq1, hf⟩ := ob1_d hf
        refine zwvV (q := (RX5, TX5, 17)) (As := [.ref (h1 0)]) (rest := []) (u := u2) (wn := (zW_465 cy h0 w0 h1 w1 h2 u2)) ⟨hx, hb, hml, hown, hts⟩ (kX5_passTen l dC dI cy h2 c2_0 h1 w1 H.size u2 hq1) mw_557 mw_305 mw_306 mw_6 mw_307 hdX5_passTen rfl rfl ⟨Nat.le_of_ble_eq_true rfl, Nat.le_of_ble_eq_true rfl⟩ hP hK hG hS 11 rfl rfl hD hA [11, 2, 3, 4, 5, 6, 7, 8, 9, 10] [0, 1] [0, 1, 3, 4, 5, 6, 7, 8, 9, 10, 11, 2] rfl rfl rfl rfl (by decide) rfl rfl rfl hl.1 rfl (Nat.le_of_ble_eq_true rfl) dX4_firstWrong_12 ⟨Nat.zero_le _, Nat.zero_le _⟩ (fun H locs hP hD hS => ?_)
        refine lv_aload_n hx hb dX4_firstWrong_15 rfl (lv_at hl 2 rfl) ?_
        refine zgetN hx hb hts hG hown hK hP hin_5 11 rfl rfl 1 (by decide) (host := "Embayed") (List.mem_of_getElem? (i := 43) rfl) (v := .int (u2 1)) rfl dX4_firstWrong_16 ?_
        refine lv_bipush (v := (-9 : Int32)) hx hb dX4_firstWrong_19 (by decide) ?_
        refine lv_icmp_ne (tgt := 29) hx hb dX4_firstWrong_21 (by decide) (fun hc => ?_) (fun hc => ?_)
        · have hf := it_f hc hf
          refine lv_aload_n hx hb dX4_firstWrong_29 rfl (lv_at hl 2 rfl) ?_
          refine zgetN hx hb hts hG hown hK hP hin_5 11 rfl rfl 1 (by decide) (host := "Embayed") (List.mem_of_getElem? (i := 43) rfl) (v := .int (u2 1)) rfl dX4_firstWrong_30 ?_
          exact k33 s2 hs2 u2 x3 (u2 1) H locs ls hP hD hS (lv_sub hl [0, 1, 2, 3] rfl) hf
        · have hf := it_t hc hf
          refine lv_bipush (v := (99 : Int32)) hx hb dX4_firstWrong_24 (by decide) ?_
          refine lv_goto (tgt := 33) hx hb dX4_firstWrong_26 (by decide) ?_
          exact k33 s2 hs2 u2 x3 (99 : Int32) H locs ls hP hD hS (lv_sub hl [0, 1, 2, 3] rfl) hf
  obtain ⟨ls, hl, he⟩ := zent (m := m) (n := 5) (L := [(0, .ref (h0 0)), (1, .ref (h1 0)), (2, .ref h2)]) ha (Nat.le_of_ble_eq_true rfl) rfl
  refine W.eq he ?_
  unfold fX4_firstWrong at hf
  have kE : ∀ (H : Heap) (locs : List Loc), va_P (dC, dI) vwCl (zW_465 cy h0 w0 h1 w1 h2 w2) H → va_D A (zW_465 cy h0 w0 h1 w1 h2 w2) → va_S A s.heap H locs → W p l e ({ frames := 5, cells := 0, slots := 0, locals := 115 } : Room) s m args below meth c H locs 0 0 (MQ below (va_Qi (fun (q : Int32) (v : (Nat → Int32)) => (q, v) = z) (fun v => aWR (dC, dI) vwCl [(cy, .int)] A (zW_465 cy h0 w0 h1 w1 h2 v)) A) args s 0 0 A) (F0 m 0 ls []) := by
    intro H locs hP hD hS
    refine lv_iconst (v := (0 : Int32)) hx hb dX4_firstWrong_0 (by decide) ?_
    refine lv_istore_n (lv' := [(3, .int (0 : Int32)), (0, .ref (h0 0)), (1, .ref (h1 0)), (2, .ref h2)]) hx hb dX4_firstWrong_1 rfl hl (by decide) rfl (fun ls hl => ?_)
    exact k2 zFU w2 (0 : Int32) H locs ls hP hD hS (lv_sub hl [1, 2, 3, 0] rfl) hf
  exact kE s.heap [] hP hD hS
