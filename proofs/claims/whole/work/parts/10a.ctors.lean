abbrev df_0 : List Value := [.null, .null, .int 0]
theorem dfs_0 : ∀ j, j < 3 → defaultValue (tyX0 j) = vp_V df_0 j := fun j hj => match j, hj with
  | 0, _ => rfl
  | 1, _ => rfl
  | 2, _ => rfl
  | n + 3, h => absurd h (by omega)
abbrev df_1 : List Value := [.null, .int 0, .int 0]
theorem dfs_1 : ∀ j, j < 3 → defaultValue (tyX1 j) = vp_V df_1 j := fun j hj => match j, hj with
  | 0, _ => rfl
  | 1, _ => rfl
  | 2, _ => rfl
  | n + 3, h => absurd h (by omega)
abbrev df_2 : List Value := [.null]
theorem dfs_2 : ∀ j, j < 1 → defaultValue (tyX2 j) = vp_V df_2 j := fun j hj => match j, hj with
  | 0, _ => rfl
  | n + 1, h => absurd h (by omega)
abbrev df_3 : List Value := [.null, .int 0]
theorem dfs_3 : ∀ j, j < 2 → defaultValue (tyX3 j) = vp_V df_3 j := fun j hj => match j, hj with
  | 0, _ => rfl
  | 1, _ => rfl
  | n + 2, h => absurd h (by omega)
abbrev df_4 : List Value := [.null, .int 0]
theorem dfs_4 : ∀ j, j < 2 → defaultValue (tyX4 j) = vp_V df_4 j := fun j hj => match j, hj with
  | 0, _ => rfl
  | 1, _ => rfl
  | n + 2, h => absurd h (by omega)
abbrev df_5 : List Value := [.int 0, .int 0, .int 0, .int 0, .int 0, .int 0, .int 0, .int 0, .int 0, .int 0, .int 0, .int 0, .int 0, .int 0, .int 0, .int 0, .int 0]
theorem dfs_5 : ∀ j, j < 17 → defaultValue (tyX5 j) = vp_V df_5 j := fun j hj => match j, hj with
  | 0, _ => rfl
  | 1, _ => rfl
  | 2, _ => rfl
  | 3, _ => rfl
  | 4, _ => rfl
  | 5, _ => rfl
  | 6, _ => rfl
  | 7, _ => rfl
  | 8, _ => rfl
  | 9, _ => rfl
  | 10, _ => rfl
  | 11, _ => rfl
  | 12, _ => rfl
  | 13, _ => rfl
  | 14, _ => rfl
  | 15, _ => rfl
  | 16, _ => rfl
  | n + 17, h => absurd h (by omega)
abbrev df_6 : List Value := [.null, .null, .null, .int 0, .int 0, .int 0, .int 0, .int 0, .int 0, .int 0]
theorem dfs_6 : ∀ j, j < 10 → defaultValue (tyX6 j) = vp_V df_6 j := fun j hj => match j, hj with
  | 0, _ => rfl
  | 1, _ => rfl
  | 2, _ => rfl
  | 3, _ => rfl
  | 4, _ => rfl
  | 5, _ => rfl
  | 6, _ => rfl
  | 7, _ => rfl
  | 8, _ => rfl
  | 9, _ => rfl
  | n + 10, h => absurd h (by omega)
abbrev df_7 : List Value := [.null, .null, .null, .null, .null, .null, .null, .null, .null, .int 0]
theorem dfs_7 : ∀ j, j < 10 → defaultValue (tyX7 j) = vp_V df_7 j := fun j hj => match j, hj with
  | 0, _ => rfl
  | 1, _ => rfl
  | 2, _ => rfl
  | 3, _ => rfl
  | 4, _ => rfl
  | 5, _ => rfl
  | 6, _ => rfl
  | 7, _ => rfl
  | 8, _ => rfl
  | 9, _ => rfl
  | n + 10, h => absurd h (by omega)
abbrev df_8 : List Value := [.int 0, .int 0, .null, .int 0, .null, .null, .int 0, .null, .null, .int 0, .null, .null, .int 0, .int 0, .int 0, .int 0, .int 0, .int 0, .int 0, .int 0, .int 0, .int 0, .int 0, .int 0, .int 0, .int 0, .int 0, .int 0, .int 0, .null, .null, .int 0, .null, .null, .null, .null, .int 0]
theorem dfs_8 : ∀ j, j < 37 → defaultValue (tyX8 j) = vp_V df_8 j := fun j hj => match j, hj with
  | 0, _ => rfl
  | 1, _ => rfl
  | 2, _ => rfl
  | 3, _ => rfl
  | 4, _ => rfl
  | 5, _ => rfl
  | 6, _ => rfl
  | 7, _ => rfl
  | 8, _ => rfl
  | 9, _ => rfl
  | 10, _ => rfl
  | 11, _ => rfl
  | 12, _ => rfl
  | 13, _ => rfl
  | 14, _ => rfl
  | 15, _ => rfl
  | 16, _ => rfl
  | 17, _ => rfl
  | 18, _ => rfl
  | 19, _ => rfl
  | 20, _ => rfl
  | 21, _ => rfl
  | 22, _ => rfl
  | 23, _ => rfl
  | 24, _ => rfl
  | 25, _ => rfl
  | 26, _ => rfl
  | 27, _ => rfl
  | 28, _ => rfl
  | 29, _ => rfl
  | 30, _ => rfl
  | 31, _ => rfl
  | 32, _ => rfl
  | 33, _ => rfl
  | 34, _ => rfl
  | 35, _ => rfl
  | 36, _ => rfl
  | n + 37, h => absurd h (by omega)
def z0 : Nat → Int32 := fun _ => 0
def il (l : List Int32) : Nat → Int32 := fun k => l.getD k 0
def bl (l : List (Nat → Int32)) : Nat → Nat → Int32 := fun k => l.getD k z0
def adl (l : List Nat) : Nat → Nat := fun k => l.getD k 0
def cns (h : Nat) (v : Nat → Nat) : Nat → Nat := fun k => match k with
  | 0 => h
  | k + 1 => v k
theorem cy_eq {D : va_G} {cl : List vw_C} {s : State} {cy cA : ClassId} (h : va_K D cl ([(cy, .int)] ++ [(cA, .int)]) s) : cy = cA := by
  have h1 : s.vm.findClass ("[" ++ FieldType.int.toString) = some cy := (h.2 0 (cy, .int) rfl).2
  have h2 : s.vm.findClass ("[" ++ FieldType.int.toString) = some cA := (h.2 1 (cA, .int) rfl).2
  exact Option.some.inj (h1.symm.trans h2)
theorem vpz (n : Nat) (cA : ClassId) : vp_cell cA (n, .inl z0) = arrV cA n (fun _ => defaultValue .int) := rfl
section ZC
variable {p : Program} {l : Launch} {e : Env} {R : Room} {s : State} {m : MethodId} {args : Array Value} {below : List Frame} {meth : Method} {c : Code} {H : Heap} {locs : List Loc} {cells slots mc ms : Nat} {Q : State → Prop}
variable {cc : ByteArray} {pc : Nat} {ls : Array Slot} {st rest As : List Value} {D : va_G} {cl : List vw_C} {tys : List (ClassId × FieldType)} {ws wc wn : va_W} {A : Nat → Prop} {own C host : String} {index maxL n nL : Nat} {y : MethodName} {bytes : ByteArray} {ret : Option FieldType} {rm : Room} {b a : Nat} {r : Int32} {ci : Nat} {q : vw_C} {fs : List Value}
theorem zobj (hx : p.tables.exec = Jvm.exec) (hb : c.code = cc) (hts : ∀ w ∈ wsA, w.before args s = true) (hown : s.vm.findClass own = some m.cls) (hlink : Cond.methodLink own index Lib.objectInit ∈ wsA) (hml : c.maxLocals = nL) (hsz : ls.size = nL) (hd : decode cc pc = .ok (.invokespecial index, 3)) (hframes : 1 ≤ R.frames) (hlocals : (rest.map fun v => v.category).sum + 12 ≤ R.locals)
    (kk : W p l e R s m args below meth c H locs cells slots Q (F0 m (pc + 3) ls rest)) : W p l e R s m args below meth c H locs cells slots Q (F0 m pc ls (.ref a :: rest)) := by
  refine W.objInit hx hb hown (hts _ hlink) (hts _ mw_17) (hts _ mw_18) rfl (by rw [hml]; exact hsz) rfl hd hframes (by show 2 * 0 + _ + 12 ≤ _; omega) ?_
  exact kk
theorem zputF (hexec : p.tables.exec = Jvm.exec) (hb : c.code = cc) (hts : ∀ w ∈ wsA, w.before args s = true) (hown : s.vm.findClass own = some m.cls) (hK : va_K D cl tys s) (hP : va_P D cl ws H) (hD : va_D A ws) {H0 : Heap} (hS0 : va_S A H0 H locs) {T : u_T} {N : Nat} (hin : ∀ w ∈ u_ws C T N, w ∈ wsA) (ty0 : Nat → FieldType) (hty : ∀ k, k < N → parseFieldDescriptor (T k).2.2.1 = some (ty0 k)) (hnm : ∀ a, a < N → ∀ b, b < N → a ≠ b → (T a).2.1 ≠ (T b).2.1)
    (q0 : Nat) (he : ws[q0]? = some (a, .inr (ci, fs))) (hc : cl[ci]? = some (C, T, N)) (k : Nat) (hk : k < N) (hlink : Cond.fieldLink own index (T k).1 (T k).2.1 (T k).2.2.1 ∈ wsA) (hfin : (T k).2.2.2 = true) (hin2 : meth.name = "<init>") (hdecl : (T k).1 = own) {v : Value} (hn : narrow (ty0 k) v = v) (hfit : fits (ty0 k) v = true) (hl : k < fs.length) (hwn : ws.set q0 (a, .inr (ci, fs.set k v)) = wn) (hdg : decode cc pc = .ok (.putfield index, 3))
    (kk : ∀ (H1 : Heap) (locs1 : List Loc), va_P D cl wn H1 → va_D A wn → va_S A H0 H1 locs1 → W p l e R s m args below meth c H1 locs1 cells slots Q (F0 m (pc + 3) ls rest)) : W p l e R s m args below meth c H locs cells slots Q (F0 m pc ls (v :: .ref a :: rest)) := by
  subst hwn
  exact va_putF hexec hb hts hin ty0 hty hnm hown hK hP hD hS0 q0 he hc k hk (hts _ hlink) (fun _ h => h) hfin hin2 hdecl (hty k hk) hn hfit hl hdg kk
theorem zretC (hexec : p.tables.exec = Jvm.exec) (hb : c.code = cc) (hr : meth.sig.returnType = none) (hlocks : meth.locks = false) (hP : va_P D cl wn H) (hK : va_K D cl tys s) (hD : va_D A wn) (hS : va_S A s.heap H locs) (u : Nat → Nat) {w1 : (Nat → Nat) → va_W} (hw : wn = w1 u) (hdg : decode cc pc = .ok (.return_, 1)) : W p l e R s m args below meth c H locs cells slots (MQ below (va_Qv (fun (_ : Nat → Nat) => True) (fun v => aWR D cl tys A (w1 v)) A) args s cells slots A) (F0 m pc ls []) := by
  subst hw
  exact W.vret hexec hb hr (fun t ht hW => ⟨⟨u, rfl, trivial, by rw [ht]; exact hP, va_K.moved hW.alike hK, hD⟩, hS.F ht⟩) hS.2.2 hdg hlocks
theorem zct {w1 wnf : (Nat → Nat) → va_W} (S : CallFix p m c cc nL s args wsA own)
    (hM : Met l y (wsM y bytes maxL none) rm (va_Pc [.ref b] (pWR D cl tys wc H.size)) (va_Qv (fun (_ : Nat → Nat) => True) (fun v => aWR D cl tys (va_A wc H.size) (w1 v)) (va_A wc H.size)) mc ms (va_A wc H.size))
    (m1 : Cond.methodLink own index y ∈ wsA) (m2 : Cond.instanceMethod y ∈ wsA) (m4 : Cond.initialized y.cls ∈ wsA) (m5 : Cond.code y bytes maxL none ∈ wsA) (hy1 : y.name = "<init>")
    (hd : y.cls ≠ "java/lang/invoke/MethodHandle" ∧ y.cls ≠ "java/lang/invoke/VarHandle" ∧ (parseMethodDescriptor y.desc).map (fun d => d.parameters.length) = some 0) (hrc : rm.cells = mc) (hrs : rm.slots = ms) (hR : rm.frames + 1 ≤ R.frames ∧ 8 + (maxL + 11) + rm.locals ≤ R.locals)
    (hP : va_P D cl ws H) (hK : va_K D cl tys s) (hG : GL A s) (hS : va_S A s.heap H locs) (hD : va_D A ws) (hA : ∀ q, s.heap.size ≤ q → A q) (isC isR perm : List Nat) (hC : isC.map (fun i => ws[i]?) = wc.map some) (hRr : isR.map (fun i => ws[i]?) = (isR.filterMap (fun i => ws[i]?)).map some) (hnc : va_nd isC = true) (hnr : va_nd isR = true) (hdis : ∀ i ∈ isR, i ∉ isC) (hnp : va_nd perm = true) (hperm : ∀ v, perm.map (fun i => (isR.filterMap (fun i => ws[i]?) ++ w1 v)[i]?) = (wnf v).map some)
    (hsz : ls.size = nL) (hW : (rest.map fun v => v.category).sum ≤ 8) (hdg : decode cc pc = .ok (.invokespecial index, 3)) (hf : cells + mc ≤ R.cells ∧ slots + ms ≤ R.slots)
    (kk : ∀ (v : Nat → Nat) (H1 : Heap) (locs1 : List Loc), va_P D cl (wnf v) H1 → va_D A (wnf v) → va_S A s.heap H1 locs1 → W p l e R s m args below meth c H1 locs1 (cells + mc) (slots + ms) Q (F0 m (pc + 3) ls rest)) : W p l e R s m args below meth c H locs cells slots Q (F0 m pc ls (.ref b :: rest)) := by
  have hPc := hP.sub isC (z_fm hC)
  have hDc : va_D (fun _ => True) wc := (hD.sub isC hnc hC).weaken (fun _ _ _ _ => trivial)
  have hFc := va_free hD hS hA isC hC
  refine va_callv (va_runI (As := []) (rest := rest) S hM ⟨callB_of 0 S.2.2.2.2 (gM m5) rfl hrc hrs (S.2.2.2.2 _ m4) (S.2.2.2.2 _ m1) hd hR, hy1, S.2.2.2.2 _ m2⟩ ⟨pWR.blind, pWR.go hPc hK hDc hG hS hFc⟩ rfl rfl hsz rfl (by show 2 * 0 + _ ≤ 8; omega) hdg hf) hS (fun q _ h => hFc q h) hFc (fun v t H1 locs1 ht hvm hw hB hz1 hk1 hS1 => ?_)
  obtain ⟨hP1, hK1, hD1⟩ := hB
  rw [ht] at hP1
  obtain ⟨a1, a2⟩ := zjoin hP hD isC isR perm hC hRr hnr hdis hnp (hperm v) hk1 hFc hP1 hD1
  exact kk v H1 locs1 a1 a2 hS1
theorem zctN {w1 wnf : (Nat → Nat) → va_W} (S : CallFix p m c cc nL s args wsA own)
    (hM : Met l y (wsM y bytes maxL none) rm (va_Pc [.ref b] (pWR D cl tys wc H.size)) (va_Qv (fun (_ : Nat → Nat) => True) (fun v => aWR D cl tys (va_A wc H.size) (w1 v)) (va_A wc H.size)) mc ms (va_A wc H.size))
    (m1 : Cond.methodLinkNest own index y host ∈ nestWs) (m2 : Cond.instanceMethod y ∈ wsA) (m4 : Cond.initialized y.cls ∈ wsA) (m5 : Cond.code y bytes maxL none ∈ wsA) (hy1 : y.name = "<init>")
    (hd : y.cls ≠ "java/lang/invoke/MethodHandle" ∧ y.cls ≠ "java/lang/invoke/VarHandle" ∧ (parseMethodDescriptor y.desc).map (fun d => d.parameters.length) = some 0) (hrc : rm.cells = mc) (hrs : rm.slots = ms) (hR : rm.frames + 1 ≤ R.frames ∧ 8 + (maxL + 11) + rm.locals ≤ R.locals)
    (hP : va_P D cl ws H) (hK : va_K D cl tys s) (hG : GL A s) (hS : va_S A s.heap H locs) (hD : va_D A ws) (hA : ∀ q, s.heap.size ≤ q → A q) (isC isR perm : List Nat) (hC : isC.map (fun i => ws[i]?) = wc.map some) (hRr : isR.map (fun i => ws[i]?) = (isR.filterMap (fun i => ws[i]?)).map some) (hnc : va_nd isC = true) (hnr : va_nd isR = true) (hdis : ∀ i ∈ isR, i ∉ isC) (hnp : va_nd perm = true) (hperm : ∀ v, perm.map (fun i => (isR.filterMap (fun i => ws[i]?) ++ w1 v)[i]?) = (wnf v).map some)
    (hsz : ls.size = nL) (hW : (rest.map fun v => v.category).sum ≤ 8) (hdg : decode cc pc = .ok (.invokespecial index, 3)) (hf : cells + mc ≤ R.cells ∧ slots + ms ≤ R.slots)
    (kk : ∀ (v : Nat → Nat) (H1 : Heap) (locs1 : List Loc), va_P D cl (wnf v) H1 → va_D A (wnf v) → va_S A s.heap H1 locs1 → W p l e R s m args below meth c H1 locs1 (cells + mc) (slots + ms) Q (F0 m (pc + 3) ls rest)) : W p l e R s m args below meth c H locs cells slots Q (F0 m pc ls (.ref b :: rest)) := by
  have hPc := hP.sub isC (z_fm hC)
  have hDc : va_D (fun _ => True) wc := (hD.sub isC hnc hC).weaken (fun _ _ _ _ => trivial)
  have hFc := va_free hD hS hA isC hC
  refine va_callv (va_runIN (As := []) (rest := rest) S hM ⟨va_cnB 0 S.2.2.2.2 (gM m5) rfl hrc hrs (hG.2.2.2.2.2 _ m1) (S.2.2.2.2 _ m4) hd hR, hy1, S.2.2.2.2 _ m2⟩ ⟨pWR.blind, pWR.go hPc hK hDc hG hS hFc⟩ rfl rfl hsz rfl (by show 2 * 0 + _ ≤ 8; omega) hdg hf) hS (fun q _ h => hFc q h) hFc (fun v t H1 locs1 ht hvm hw hB hz1 hk1 hS1 => ?_)
  obtain ⟨hP1, hK1, hD1⟩ := hB
  rw [ht] at hP1
  obtain ⟨a1, a2⟩ := zjoin hP hD isC isR perm hC hRr hnr hdis hnp (hperm v) hk1 hFc hP1 hD1
  exact kk v H1 locs1 a1 a2 hS1
end ZC
set_option maxHeartbeats 4000000 in
set_option maxRecDepth 100000 in
theorem kX0_init (l : Launch) (dC : Nat → ClassId) (dI : Nat → Nat → Nat) (cy : ClassId) (h0 sz : Nat) : Met l yX0_init (wsM yX0_init cX0_init 1 none) ({ frames := 1, cells := 2, slots := 16, locals := 20 } : Room) (va_Pc [.ref h0] (pWR (dC, dI) vwCl [(cy, .int)] [(h0, .inr (0, df_0))] sz)) (va_Qv (fun (_ : Nat → Nat) => True) (fun v => aWR (dC, dI) vwCl [(cy, .int)] (va_A [(h0, .inr (0, df_0))] sz) (zW_0 cy (cns h0 v) (bl [(il [0, 0, (0 : Int32)]), z0, z0]))) (va_A [(h0, .inr (0, df_0))] sz)) 2 16 (va_A [(h0, .inr (0, df_0))] sz) := by
  refine Met.ofW (cc := cX0_init) (maxL := 1) (ret := none) (by decide) rfl ?_
  intro p e s m args below meth c s₁ B hml hv
  obtain ⟨ha, hsz, hP, hK, hD0, hG⟩ := hv
  have hx := B.exec
  have hb := B.bytes
  have hr := B.returns
  have hts : ∀ w ∈ wsA, w.before args s = true := fun w h => atoms_spec (ws := wsM yX0_init cX0_init 1 none) B.pre w (List.mem_cons_of_mem _ h)
  have hown : s.vm.findClass RX0 = some m.cls := findClass_of_methodNamed B.named
  have hlocks := B.notSynchronized
  have hin : meth.name = "<init>" := (name_of_methodNamed B.named B.method).1
  subst hsz
  have hD := hD0.self (sz := s.heap.size)
  generalize hAe : va_A [(h0, .inr (0, df_0))] s.heap.size = A at hD hG ⊢
  have hA : ∀ q : Nat, s.heap.size ≤ q → A q := fun q h => by rw [← hAe]; exact Or.inr h
  have hS : va_S A s.heap s.heap [] := va_S.rf
  obtain ⟨ls, hl, he⟩ := zent (m := m) (n := 1) (L := [(0, .ref h0)]) ha (Nat.le_of_ble_eq_true rfl) rfl
  refine W.eq he ?_
  refine lv_aload_n hx hb dX0_init_0 rfl (lv_at hl 0 rfl) ?_
  refine zobj hx hb hts hown mw_49 hml hl.1 dX0_init_1 (Nat.le_of_ble_eq_true rfl) (Nat.le_of_ble_eq_true rfl) ?_
  refine lv_aload_n hx hb dX0_init_4 rfl (lv_at hl 0 rfl) ?_
  refine lv_bipush (v := (8 : Int32)) hx hb dX0_init_5 (by decide) ?_
  refine va_newa (atype := .int) (ty := .int) hx hb (hts _ mw_28) rfl hK hP hD hS hA (N' := 8) (a0 := (8, .inl z0)) (vpz 8) (by decide) (by decide) (Nat.le_of_ble_eq_true rfl) (Nat.le_of_ble_eq_true rfl) (Nat.le_of_ble_eq_true rfl) dX0_init_7 (fun q7 cA H hK1 hP hD hS => ?_)
  obtain rfl := cy_eq hK1
  have hP : va_P (dC, dI) vwCl [(h0, .inr (0, [.null, .null, .int 0])), (q7, eA cy 8 z0)] H := hP
  have hD : va_D A [(h0, .inr (0, [.null, .null, .int 0])), (q7, eA cy 8 z0)] := hD
  refine zputF hx hb hts hown hK hP hD hS hin_0 tyX0 tyX0_ok nmX0 0 rfl rfl 0 (by decide) mw_50 rfl hin rfl (v := .ref q7) rfl rfl (Nat.le_of_ble_eq_true rfl) (wn := [(h0, .inr (0, [.ref q7, .null, .int 0])), (q7, eA cy 8 z0)]) rfl dX0_init_9 (fun H locs hP hD hS => ?_)
  refine lv_aload_n hx hb dX0_init_12 rfl (lv_at hl 0 rfl) ?_
  refine lv_bipush (v := (8 : Int32)) hx hb dX0_init_13 (by decide) ?_
  refine va_newa (atype := .int) (ty := .int) hx hb (hts _ mw_28) rfl hK hP hD hS hA (N' := 8) (a0 := (8, .inl z0)) (vpz 8) (by decide) (by decide) (Nat.le_of_ble_eq_true rfl) (Nat.le_of_ble_eq_true rfl) (Nat.le_of_ble_eq_true rfl) dX0_init_15 (fun q15 cA H hK1 hP hD hS => ?_)
  obtain rfl := cy_eq hK1
  have hP : va_P (dC, dI) vwCl [(h0, .inr (0, [.ref q7, .null, .int 0])), (q7, eA cy 8 z0), (q15, eA cy 8 z0)] H := hP
  have hD : va_D A [(h0, .inr (0, [.ref q7, .null, .int 0])), (q7, eA cy 8 z0), (q15, eA cy 8 z0)] := hD
  refine zputF hx hb hts hown hK hP hD hS hin_0 tyX0 tyX0_ok nmX0 0 rfl rfl 1 (by decide) mw_51 rfl hin rfl (v := .ref q15) rfl rfl (Nat.le_of_ble_eq_true rfl) (wn := [(h0, .inr (0, [.ref q7, .ref q15, .int 0])), (q7, eA cy 8 z0), (q15, eA cy 8 z0)]) rfl dX0_init_17 (fun H locs hP hD hS => ?_)
  refine lv_aload_n hx hb dX0_init_20 rfl (lv_at hl 0 rfl) ?_
  refine lv_iconst (v := (0 : Int32)) hx hb dX0_init_21 (by decide) ?_
  refine zput hx hb hts hown hK hP hD hS hin_0 tyX0 tyX0_ok nmX0 0 rfl rfl 2 (by decide) mw_52 rfl (v := .int (0 : Int32)) rfl rfl (Nat.le_of_ble_eq_true rfl) (wn := [(h0, .inr (0, [.ref q7, .ref q15, .int (0 : Int32)])), (q7, eA cy 8 z0), (q15, eA cy 8 z0)]) rfl dX0_init_22 (fun H locs hP hD hS => ?_)
  exact zretC hx hb hr hlocks hP hK hD hS (adl [q7, q15]) rfl dX0_init_25
set_option maxHeartbeats 4000000 in
set_option maxRecDepth 100000 in
theorem kX1_init (l : Launch) (dC : Nat → ClassId) (dI : Nat → Nat → Nat) (cy : ClassId) (h0 sz : Nat) : Met l yX1_init (wsM yX1_init cX1_init 1 none) ({ frames := 1, cells := 1, slots := 64, locals := 20 } : Room) (va_Pc [.ref h0] (pWR (dC, dI) vwCl [(cy, .int)] [(h0, .inr (1, df_1))] sz)) (va_Qv (fun (_ : Nat → Nat) => True) (fun v => aWR (dC, dI) vwCl [(cy, .int)] (va_A [(h0, .inr (1, df_1))] sz) (zW_1 cy (cns h0 v) (bl [(il [0, (0 : Int32), (0 : Int32)]), z0]))) (va_A [(h0, .inr (1, df_1))] sz)) 1 64 (va_A [(h0, .inr (1, df_1))] sz) := by
  refine Met.ofW (cc := cX1_init) (maxL := 1) (ret := none) (by decide) rfl ?_
  intro p e s m args below meth c s₁ B hml hv
  obtain ⟨ha, hsz, hP, hK, hD0, hG⟩ := hv
  have hx := B.exec
  have hb := B.bytes
  have hr := B.returns
  have hts : ∀ w ∈ wsA, w.before args s = true := fun w h => atoms_spec (ws := wsM yX1_init cX1_init 1 none) B.pre w (List.mem_cons_of_mem _ h)
  have hown : s.vm.findClass RX1 = some m.cls := findClass_of_methodNamed B.named
  have hlocks := B.notSynchronized
  have hin : meth.name = "<init>" := (name_of_methodNamed B.named B.method).1
  subst hsz
  have hD := hD0.self (sz := s.heap.size)
  generalize hAe : va_A [(h0, .inr (1, df_1))] s.heap.size = A at hD hG ⊢
  have hA : ∀ q : Nat, s.heap.size ≤ q → A q := fun q h => by rw [← hAe]; exact Or.inr h
  have hS : va_S A s.heap s.heap [] := va_S.rf
  obtain ⟨ls, hl, he⟩ := zent (m := m) (n := 1) (L := [(0, .ref h0)]) ha (Nat.le_of_ble_eq_true rfl) rfl
  refine W.eq he ?_
  refine lv_aload_n hx hb dX1_init_0 rfl (lv_at hl 0 rfl) ?_
  refine zobj hx hb hts hown mw_38 hml hl.1 dX1_init_1 (Nat.le_of_ble_eq_true rfl) (Nat.le_of_ble_eq_true rfl) ?_
  refine lv_aload_n hx hb dX1_init_4 rfl (lv_at hl 0 rfl) ?_
  refine lv_bipush (v := (64 : Int32)) hx hb dX1_init_5 (by decide) ?_
  refine va_newa (atype := .int) (ty := .int) hx hb (hts _ mw_28) rfl hK hP hD hS hA (N' := 64) (a0 := (64, .inl z0)) (vpz 64) (by decide) (by decide) (Nat.le_of_ble_eq_true rfl) (Nat.le_of_ble_eq_true rfl) (Nat.le_of_ble_eq_true rfl) dX1_init_7 (fun q7 cA H hK1 hP hD hS => ?_)
  obtain rfl := cy_eq hK1
  have hP : va_P (dC, dI) vwCl [(h0, .inr (1, [.null, .int 0, .int 0])), (q7, eA cy 64 z0)] H := hP
  have hD : va_D A [(h0, .inr (1, [.null, .int 0, .int 0])), (q7, eA cy 64 z0)] := hD
  refine zputF hx hb hts hown hK hP hD hS hin_1 tyX1 tyX1_ok nmX1 0 rfl rfl 0 (by decide) mw_39 rfl hin rfl (v := .ref q7) rfl rfl (Nat.le_of_ble_eq_true rfl) (wn := [(h0, .inr (1, [.ref q7, .int 0, .int 0])), (q7, eA cy 64 z0)]) rfl dX1_init_9 (fun H locs hP hD hS => ?_)
  refine lv_aload_n hx hb dX1_init_12 rfl (lv_at hl 0 rfl) ?_
  refine lv_iconst (v := (0 : Int32)) hx hb dX1_init_13 (by decide) ?_
  refine zput hx hb hts hown hK hP hD hS hin_1 tyX1 tyX1_ok nmX1 0 rfl rfl 1 (by decide) mw_40 rfl (v := .int (0 : Int32)) rfl rfl (Nat.le_of_ble_eq_true rfl) (wn := [(h0, .inr (1, [.ref q7, .int (0 : Int32), .int 0])), (q7, eA cy 64 z0)]) rfl dX1_init_14 (fun H locs hP hD hS => ?_)
  refine lv_aload_n hx hb dX1_init_17 rfl (lv_at hl 0 rfl) ?_
  refine lv_iconst (v := (0 : Int32)) hx hb dX1_init_18 (by decide) ?_
  refine zput hx hb hts hown hK hP hD hS hin_1 tyX1 tyX1_ok nmX1 0 rfl rfl 2 (by decide) mw_41 rfl (v := .int (0 : Int32)) rfl rfl (Nat.le_of_ble_eq_true rfl) (wn := [(h0, .inr (1, [.ref q7, .int (0 : Int32), .int (0 : Int32)])), (q7, eA cy 64 z0)]) rfl dX1_init_19 (fun H locs hP hD hS => ?_)
  exact zretC hx hb hr hlocks hP hK hD hS (adl [q7]) rfl dX1_init_22
set_option maxHeartbeats 4000000 in
set_option maxRecDepth 100000 in
theorem kX2_init (l : Launch) (dC : Nat → ClassId) (dI : Nat → Nat → Nat) (cy : ClassId) (h0 sz : Nat) : Met l yX2_init (wsM yX2_init cX2_init 1 none) ({ frames := 1, cells := 1, slots := 192, locals := 20 } : Room) (va_Pc [.ref h0] (pWR (dC, dI) vwCl [(cy, .int)] [(h0, .inr (2, df_2))] sz)) (va_Qv (fun (_ : Nat → Nat) => True) (fun v => aWR (dC, dI) vwCl [(cy, .int)] (va_A [(h0, .inr (2, df_2))] sz) (zW_2 cy (cns h0 v) (bl [(il [0]), z0]))) (va_A [(h0, .inr (2, df_2))] sz)) 1 192 (va_A [(h0, .inr (2, df_2))] sz) := by
  refine Met.ofW (cc := cX2_init) (maxL := 1) (ret := none) (by decide) rfl ?_
  intro p e s m args below meth c s₁ B hml hv
  obtain ⟨ha, hsz, hP, hK, hD0, hG⟩ := hv
  have hx := B.exec
  have hb := B.bytes
  have hr := B.returns
  have hts : ∀ w ∈ wsA, w.before args s = true := fun w h => atoms_spec (ws := wsM yX2_init cX2_init 1 none) B.pre w (List.mem_cons_of_mem _ h)
  have hown : s.vm.findClass RX2 = some m.cls := findClass_of_methodNamed B.named
  have hlocks := B.notSynchronized
  have hin : meth.name = "<init>" := (name_of_methodNamed B.named B.method).1
  subst hsz
  have hD := hD0.self (sz := s.heap.size)
  generalize hAe : va_A [(h0, .inr (2, df_2))] s.heap.size = A at hD hG ⊢
  have hA : ∀ q : Nat, s.heap.size ≤ q → A q := fun q h => by rw [← hAe]; exact Or.inr h
  have hS : va_S A s.heap s.heap [] := va_S.rf
  obtain ⟨ls, hl, he⟩ := zent (m := m) (n := 1) (L := [(0, .ref h0)]) ha (Nat.le_of_ble_eq_true rfl) rfl
  refine W.eq he ?_
  refine lv_aload_n hx hb dX2_init_0 rfl (lv_at hl 0 rfl) ?_
  refine zobj hx hb hts hown mw_129 hml hl.1 dX2_init_1 (Nat.le_of_ble_eq_true rfl) (Nat.le_of_ble_eq_true rfl) ?_
  refine lv_aload_n hx hb dX2_init_4 rfl (lv_at hl 0 rfl) ?_
  refine lv_sipush (v := (192 : Int32)) hx hb dX2_init_5 (by decide) ?_
  refine va_newa (atype := .int) (ty := .int) hx hb (hts _ mw_28) rfl hK hP hD hS hA (N' := 192) (a0 := (192, .inl z0)) (vpz 192) (by decide) (by decide) (Nat.le_of_ble_eq_true rfl) (Nat.le_of_ble_eq_true rfl) (Nat.le_of_ble_eq_true rfl) dX2_init_8 (fun q8 cA H hK1 hP hD hS => ?_)
  obtain rfl := cy_eq hK1
  have hP : va_P (dC, dI) vwCl [(h0, .inr (2, [.null])), (q8, eA cy 192 z0)] H := hP
  have hD : va_D A [(h0, .inr (2, [.null])), (q8, eA cy 192 z0)] := hD
  refine zputF hx hb hts hown hK hP hD hS hin_2 tyX2 tyX2_ok nmX2 0 rfl rfl 0 (by decide) mw_130 rfl hin rfl (v := .ref q8) rfl rfl (Nat.le_of_ble_eq_true rfl) (wn := [(h0, .inr (2, [.ref q8])), (q8, eA cy 192 z0)]) rfl dX2_init_10 (fun H locs hP hD hS => ?_)
  exact zretC hx hb hr hlocks hP hK hD hS (adl [q8]) rfl dX2_init_13
set_option maxHeartbeats 4000000 in
set_option maxRecDepth 100000 in
theorem kX3_init (l : Launch) (dC : Nat → ClassId) (dI : Nat → Nat → Nat) (cy : ClassId) (h0 sz : Nat) : Met l yX3_init (wsM yX3_init cX3_init 1 none) ({ frames := 1, cells := 1, slots := 80, locals := 20 } : Room) (va_Pc [.ref h0] (pWR (dC, dI) vwCl [(cy, .int)] [(h0, .inr (3, df_3))] sz)) (va_Qv (fun (_ : Nat → Nat) => True) (fun v => aWR (dC, dI) vwCl [(cy, .int)] (va_A [(h0, .inr (3, df_3))] sz) (zW_3 cy (cns h0 v) (bl [(il [0, (0 : Int32)]), z0]))) (va_A [(h0, .inr (3, df_3))] sz)) 1 80 (va_A [(h0, .inr (3, df_3))] sz) := by
  refine Met.ofW (cc := cX3_init) (maxL := 1) (ret := none) (by decide) rfl ?_
  intro p e s m args below meth c s₁ B hml hv
  obtain ⟨ha, hsz, hP, hK, hD0, hG⟩ := hv
  have hx := B.exec
  have hb := B.bytes
  have hr := B.returns
  have hts : ∀ w ∈ wsA, w.before args s = true := fun w h => atoms_spec (ws := wsM yX3_init cX3_init 1 none) B.pre w (List.mem_cons_of_mem _ h)
  have hown : s.vm.findClass RX3 = some m.cls := findClass_of_methodNamed B.named
  have hlocks := B.notSynchronized
  have hin : meth.name = "<init>" := (name_of_methodNamed B.named B.method).1
  subst hsz
  have hD := hD0.self (sz := s.heap.size)
  generalize hAe : va_A [(h0, .inr (3, df_3))] s.heap.size = A at hD hG ⊢
  have hA : ∀ q : Nat, s.heap.size ≤ q → A q := fun q h => by rw [← hAe]; exact Or.inr h
  have hS : va_S A s.heap s.heap [] := va_S.rf
  obtain ⟨ls, hl, he⟩ := zent (m := m) (n := 1) (L := [(0, .ref h0)]) ha (Nat.le_of_ble_eq_true rfl) rfl
  refine W.eq he ?_
  refine lv_aload_n hx hb dX3_init_0 rfl (lv_at hl 0 rfl) ?_
  refine zobj hx hb hts hown mw_23 hml hl.1 dX3_init_1 (Nat.le_of_ble_eq_true rfl) (Nat.le_of_ble_eq_true rfl) ?_
  refine lv_aload_n hx hb dX3_init_4 rfl (lv_at hl 0 rfl) ?_
  refine lv_bipush (v := (80 : Int32)) hx hb dX3_init_5 (by decide) ?_
  refine va_newa (atype := .int) (ty := .int) hx hb (hts _ mw_28) rfl hK hP hD hS hA (N' := 80) (a0 := (80, .inl z0)) (vpz 80) (by decide) (by decide) (Nat.le_of_ble_eq_true rfl) (Nat.le_of_ble_eq_true rfl) (Nat.le_of_ble_eq_true rfl) dX3_init_7 (fun q7 cA H hK1 hP hD hS => ?_)
  obtain rfl := cy_eq hK1
  have hP : va_P (dC, dI) vwCl [(h0, .inr (3, [.null, .int 0])), (q7, eA cy 80 z0)] H := hP
  have hD : va_D A [(h0, .inr (3, [.null, .int 0])), (q7, eA cy 80 z0)] := hD
  refine zputF hx hb hts hown hK hP hD hS hin_3 tyX3 tyX3_ok nmX3 0 rfl rfl 0 (by decide) mw_24 rfl hin rfl (v := .ref q7) rfl rfl (Nat.le_of_ble_eq_true rfl) (wn := [(h0, .inr (3, [.ref q7, .int 0])), (q7, eA cy 80 z0)]) rfl dX3_init_9 (fun H locs hP hD hS => ?_)
  refine lv_aload_n hx hb dX3_init_12 rfl (lv_at hl 0 rfl) ?_
  refine lv_iconst (v := (0 : Int32)) hx hb dX3_init_13 (by decide) ?_
  refine zput hx hb hts hown hK hP hD hS hin_3 tyX3 tyX3_ok nmX3 0 rfl rfl 1 (by decide) mw_25 rfl (v := .int (0 : Int32)) rfl rfl (Nat.le_of_ble_eq_true rfl) (wn := [(h0, .inr (3, [.ref q7, .int (0 : Int32)])), (q7, eA cy 80 z0)]) rfl dX3_init_14 (fun H locs hP hD hS => ?_)
  exact zretC hx hb hr hlocks hP hK hD hS (adl [q7]) rfl dX3_init_17
set_option maxHeartbeats 4000000 in
set_option maxRecDepth 100000 in
theorem kX4_init (l : Launch) (dC : Nat → ClassId) (dI : Nat → Nat → Nat) (cy : ClassId) (h0 sz : Nat) : Met l yX4_init (wsM yX4_init cX4_init 1 none) ({ frames := 1, cells := 1, slots := 12, locals := 20 } : Room) (va_Pc [.ref h0] (pWR (dC, dI) vwCl [(cy, .int)] [(h0, .inr (4, df_4))] sz)) (va_Qv (fun (_ : Nat → Nat) => True) (fun v => aWR (dC, dI) vwCl [(cy, .int)] (va_A [(h0, .inr (4, df_4))] sz) (zW_4 cy (cns h0 v) (bl [(il [0, (0 : Int32)]), z0]))) (va_A [(h0, .inr (4, df_4))] sz)) 1 12 (va_A [(h0, .inr (4, df_4))] sz) := by
  refine Met.ofW (cc := cX4_init) (maxL := 1) (ret := none) (by decide) rfl ?_
  intro p e s m args below meth c s₁ B hml hv
  obtain ⟨ha, hsz, hP, hK, hD0, hG⟩ := hv
  have hx := B.exec
  have hb := B.bytes
  have hr := B.returns
  have hts : ∀ w ∈ wsA, w.before args s = true := fun w h => atoms_spec (ws := wsM yX4_init cX4_init 1 none) B.pre w (List.mem_cons_of_mem _ h)
  have hown : s.vm.findClass RX4 = some m.cls := findClass_of_methodNamed B.named
  have hlocks := B.notSynchronized
  have hin : meth.name = "<init>" := (name_of_methodNamed B.named B.method).1
  subst hsz
  have hD := hD0.self (sz := s.heap.size)
  generalize hAe : va_A [(h0, .inr (4, df_4))] s.heap.size = A at hD hG ⊢
  have hA : ∀ q : Nat, s.heap.size ≤ q → A q := fun q h => by rw [← hAe]; exact Or.inr h
  have hS : va_S A s.heap s.heap [] := va_S.rf
  obtain ⟨ls, hl, he⟩ := zent (m := m) (n := 1) (L := [(0, .ref h0)]) ha (Nat.le_of_ble_eq_true rfl) rfl
  refine W.eq he ?_
  refine lv_aload_n hx hb dX4_init_0 rfl (lv_at hl 0 rfl) ?_
  refine zobj hx hb hts hown mw_136 hml hl.1 dX4_init_1 (Nat.le_of_ble_eq_true rfl) (Nat.le_of_ble_eq_true rfl) ?_
  refine lv_aload_n hx hb dX4_init_4 rfl (lv_at hl 0 rfl) ?_
  refine lv_bipush (v := (12 : Int32)) hx hb dX4_init_5 (by decide) ?_
  refine va_newa (atype := .int) (ty := .int) hx hb (hts _ mw_28) rfl hK hP hD hS hA (N' := 12) (a0 := (12, .inl z0)) (vpz 12) (by decide) (by decide) (Nat.le_of_ble_eq_true rfl) (Nat.le_of_ble_eq_true rfl) (Nat.le_of_ble_eq_true rfl) dX4_init_7 (fun q7 cA H hK1 hP hD hS => ?_)
  obtain rfl := cy_eq hK1
  have hP : va_P (dC, dI) vwCl [(h0, .inr (4, [.null, .int 0])), (q7, eA cy 12 z0)] H := hP
  have hD : va_D A [(h0, .inr (4, [.null, .int 0])), (q7, eA cy 12 z0)] := hD
  refine zputF hx hb hts hown hK hP hD hS hin_4 tyX4 tyX4_ok nmX4 0 rfl rfl 0 (by decide) mw_137 rfl hin rfl (v := .ref q7) rfl rfl (Nat.le_of_ble_eq_true rfl) (wn := [(h0, .inr (4, [.ref q7, .int 0])), (q7, eA cy 12 z0)]) rfl dX4_init_9 (fun H locs hP hD hS => ?_)
  refine lv_aload_n hx hb dX4_init_12 rfl (lv_at hl 0 rfl) ?_
  refine lv_iconst (v := (0 : Int32)) hx hb dX4_init_13 (by decide) ?_
  refine zput hx hb hts hown hK hP hD hS hin_4 tyX4 tyX4_ok nmX4 0 rfl rfl 1 (by decide) mw_138 rfl (v := .int (0 : Int32)) rfl rfl (Nat.le_of_ble_eq_true rfl) (wn := [(h0, .inr (4, [.ref q7, .int (0 : Int32)])), (q7, eA cy 12 z0)]) rfl dX4_init_14 (fun H locs hP hD hS => ?_)
  exact zretC hx hb hr hlocks hP hK hD hS (adl [q7]) rfl dX4_init_17
set_option maxHeartbeats 4000000 in
set_option maxRecDepth 100000 in
theorem kX5_init (l : Launch) (dC : Nat → ClassId) (dI : Nat → Nat → Nat) (cy : ClassId) (h0 sz : Nat) : Met l yX5_init (wsM yX5_init cX5_init 1 none) ({ frames := 2, cells := 0, slots := 0, locals := 41 } : Room) (va_Pc [.ref h0] (pWR (dC, dI) vwCl [(cy, .int)] [(h0, .inr (5, df_5))] sz)) (va_Qv (fun (_ : Nat → Nat) => True) (fun v => aWR (dC, dI) vwCl [(cy, .int)] (va_A [(h0, .inr (5, df_5))] sz) (zW_5 cy h0 (ups (ups (ups (ups (ups (ups (ups (ups (ups (ups (ups (ups (ups (ups (ups (ups (ups (ups z0 0 (1 : Int32)) 1 (-9 : Int32)) 2 (0 : Int32)) 3 (1 : Int32)) 4 (3 : Int32)) 5 (2 : Int32)) 6 (0 : Int32)) 7 (0 : Int32)) 8 (0 : Int32)) 9 (0 : Int32)) 10 (1 : Int32)) 11 (0 : Int32)) 12 (0 : Int32)) 13 (0 : Int32)) 14 (0 : Int32)) 15 (2147483647 : Int32)) 16 (0 : Int32)) 0 (0 : Int32)))) (va_A [(h0, .inr (5, df_5))] sz)) 0 0 (va_A [(h0, .inr (5, df_5))] sz) := by
  refine Met.ofW (cc := cX5_init) (maxL := 1) (ret := none) (by decide) rfl ?_
  intro p e s m args below meth c s₁ B hml hv
  obtain ⟨ha, hsz, hP, hK, hD0, hG⟩ := hv
  have hx := B.exec
  have hb := B.bytes
  have hr := B.returns
  have hts : ∀ w ∈ wsA, w.before args s = true := fun w h => atoms_spec (ws := wsM yX5_init cX5_init 1 none) B.pre w (List.mem_cons_of_mem _ h)
  have hown : s.vm.findClass RX5 = some m.cls := findClass_of_methodNamed B.named
  have hlocks := B.notSynchronized
  have hin : meth.name = "<init>" := (name_of_methodNamed B.named B.method).1
  subst hsz
  have hD := hD0.self (sz := s.heap.size)
  generalize hAe : va_A [(h0, .inr (5, df_5))] s.heap.size = A at hD hG ⊢
  have hA : ∀ q : Nat, s.heap.size ≤ q → A q := fun q h => by rw [← hAe]; exact Or.inr h
  have hS : va_S A s.heap s.heap [] := va_S.rf
  obtain ⟨ls, hl, he⟩ := zent (m := m) (n := 1) (L := [(0, .ref h0)]) ha (Nat.le_of_ble_eq_true rfl) rfl
  refine W.eq he ?_
  refine lv_aload_n hx hb dX5_init_0 rfl (lv_at hl 0 rfl) ?_
  refine zobj hx hb hts hown mw_81 hml hl.1 dX5_init_1 (Nat.le_of_ble_eq_true rfl) (Nat.le_of_ble_eq_true rfl) ?_
  refine lv_aload_n hx hb dX5_init_4 rfl (lv_at hl 0 rfl) ?_
  obtain ⟨zz, hzz⟩ : ∃ zz, fX5_leaveBay z0 = some zz := ⟨_, rfl⟩
  refine zwvV (q := (RX5, TX5, 17)) (As := []) (rest := []) (u := zz) (wn := zW_5 cy h0 zz) ⟨hx, hb, hml, hown, hts⟩ (kX5_leaveBay l dC dI cy h0 z0 s.heap.size zz hzz) mw_82 mw_83 mw_84 mw_6 mw_85 hdX5_leaveBay rfl rfl ⟨Nat.le_of_ble_eq_true rfl, Nat.le_of_ble_eq_true rfl⟩ hP hK hG hS 0 rfl rfl hD hA [0] [] [0] rfl rfl rfl rfl (by decide) rfl rfl rfl hl.1 rfl (Nat.le_of_ble_eq_true rfl) dX5_init_5 ⟨Nat.zero_le _, Nat.zero_le _⟩ (fun H locs hP hD hS => ?_)
  have hzz : ((ups (ups (ups (ups (ups (ups (ups (ups (ups (ups (ups (ups (ups (ups (ups (ups (ups (ups z0 0 (1 : Int32)) 1 (-9 : Int32)) 2 (0 : Int32)) 3 (1 : Int32)) 4 (3 : Int32)) 5 (2 : Int32)) 6 (0 : Int32)) 7 (0 : Int32)) 8 (0 : Int32)) 9 (0 : Int32)) 10 (1 : Int32)) 11 (0 : Int32)) 12 (0 : Int32)) 13 (0 : Int32)) 14 (0 : Int32)) 15 (2147483647 : Int32)) 16 (0 : Int32)) 0 (0 : Int32)) : Nat → Int32) = zz := Option.some.inj hzz
  subst hzz
  exact zretC hx hb hr hlocks hP hK hD hS (adl []) rfl dX5_init_8
set_option maxHeartbeats 4000000 in
set_option maxRecDepth 100000 in
theorem kX6_init (l : Launch) (dC : Nat → ClassId) (dI : Nat → Nat → Nat) (cy : ClassId) (h0 sz : Nat) : Met l yX6_init (wsM yX6_init cX6_init 1 none) ({ frames := 2, cells := 8, slots := 105, locals := 40 } : Room) (va_Pc [.ref h0] (pWR (dC, dI) vwCl [(cy, .int)] [(h0, .inr (6, df_6))] sz)) (va_Qv (fun (_ : Nat → Nat) => True) (fun v => aWR (dC, dI) vwCl [(cy, .int)] (va_A [(h0, .inr (6, df_6))] sz) (zW_6 cy (cns h0 v) (bl [(il [0, 0, 0, (3 : Int32), (3 : Int32), (0 : Int32), (40 : Int32), (2 : Int32), (5 : Int32), (30 : Int32)]), (il [0, (0 : Int32), (0 : Int32)]), z0, (il [0, 0, (0 : Int32)]), z0, z0, (il [0, 0, (0 : Int32)]), z0, z0]))) (va_A [(h0, .inr (6, df_6))] sz)) 8 105 (va_A [(h0, .inr (6, df_6))] sz) := by
  refine Met.ofW (cc := cX6_init) (maxL := 1) (ret := none) (by decide) rfl ?_
  intro p e s m args below meth c s₁ B hml hv
  obtain ⟨ha, hsz, hP, hK, hD0, hG⟩ := hv
  have hx := B.exec
  have hb := B.bytes
  have hr := B.returns
  have hts : ∀ w ∈ wsA, w.before args s = true := fun w h => atoms_spec (ws := wsM yX6_init cX6_init 1 none) B.pre w (List.mem_cons_of_mem _ h)
  have hown : s.vm.findClass RX6 = some m.cls := findClass_of_methodNamed B.named
  have hlocks := B.notSynchronized
  have hin : meth.name = "<init>" := (name_of_methodNamed B.named B.method).1
  subst hsz
  have hD := hD0.self (sz := s.heap.size)
  generalize hAe : va_A [(h0, .inr (6, df_6))] s.heap.size = A at hD hG ⊢
  have hA : ∀ q : Nat, s.heap.size ≤ q → A q := fun q h => by rw [← hAe]; exact Or.inr h
  have hS : va_S A s.heap s.heap [] := va_S.rf
  obtain ⟨ls, hl, he⟩ := zent (m := m) (n := 1) (L := [(0, .ref h0)]) ha (Nat.le_of_ble_eq_true rfl) rfl
  refine W.eq he ?_
  refine lv_aload_n hx hb dX6_init_0 rfl (lv_at hl 0 rfl) ?_
  refine zobj hx hb hts hown mw_33 hml hl.1 dX6_init_1 (Nat.le_of_ble_eq_true rfl) (Nat.le_of_ble_eq_true rfl) ?_
  refine lv_aload_n hx hb dX6_init_4 rfl (lv_at hl 0 rfl) ?_
  refine va_new (ci := 1) (fs := df_1) (C := RX1) (T := TX1) (N := 3) hx hb hts hin_1 tyX1 tyX1_ok hown (hts _ mw_34) (hts _ mw_35) (hts _ mw_4) hK hP hD hS hA rfl dfs_1 (Nat.le_of_ble_eq_true rfl) (Nat.le_of_ble_eq_true rfl) dX6_init_5 (fun q5 H hP hD hS => ?_)
  have hP : va_P (dC, dI) vwCl [(h0, .inr (6, [.null, .null, .null, .int 0, .int 0, .int 0, .int 0, .int 0, .int 0, .int 0])), (q5, .inr (1, [.null, .int 0, .int 0]))] H := hP
  have hD : va_D A [(h0, .inr (6, [.null, .null, .null, .int 0, .int 0, .int 0, .int 0, .int 0, .int 0, .int 0])), (q5, .inr (1, [.null, .int 0, .int 0]))] := hD
  refine lv_dup hx hb dX6_init_8 rfl ?_
  refine zctN (wnf := fun v9 => [(h0, .inr (6, [.null, .null, .null, .int 0, .int 0, .int 0, .int 0, .int 0, .int 0, .int 0])), (q5, eX1 (v9 0) (il [0, (0 : Int32), (0 : Int32)])), ((v9 0), eA cy 64 z0)]) ⟨hx, hb, hml, hown, hts⟩ (kX1_init l dC dI cy q5 H.size) (List.mem_of_getElem? (i := 2) rfl) mw_36 mw_4 mw_37 rfl hdX1_init rfl rfl ⟨Nat.le_of_ble_eq_true rfl, Nat.le_of_ble_eq_true rfl⟩ hP hK hG hS hD hA [1] [0] [0, 1, 2] rfl rfl rfl rfl (by decide) rfl (fun _ => rfl) hl.1 (Nat.le_of_ble_eq_true rfl) dX6_init_9 ⟨Nat.le_of_ble_eq_true rfl, Nat.le_of_ble_eq_true rfl⟩ (fun v9 H locs hP hD hS => ?_)
  have hP : va_P (dC, dI) vwCl [(h0, .inr (6, [.null, .null, .null, .int 0, .int 0, .int 0, .int 0, .int 0, .int 0, .int 0])), (q5, eX1 (v9 0) (il [0, (0 : Int32), (0 : Int32)])), ((v9 0), eA cy 64 z0)] H := hP
  have hD : va_D A [(h0, .inr (6, [.null, .null, .null, .int 0, .int 0, .int 0, .int 0, .int 0, .int 0, .int 0])), (q5, eX1 (v9 0) (il [0, (0 : Int32), (0 : Int32)])), ((v9 0), eA cy 64 z0)] := hD
  refine zputF hx hb hts hown hK hP hD hS hin_6 tyX6 tyX6_ok nmX6 0 rfl rfl 0 (by decide) mw_56 rfl hin rfl (v := .ref q5) rfl rfl (Nat.le_of_ble_eq_true rfl) (wn := [(h0, .inr (6, [.ref q5, .null, .null, .int 0, .int 0, .int 0, .int 0, .int 0, .int 0, .int 0])), (q5, eX1 (v9 0) (il [0, (0 : Int32), (0 : Int32)])), ((v9 0), eA cy 64 z0)]) rfl dX6_init_12 (fun H locs hP hD hS => ?_)
  refine lv_aload_n hx hb dX6_init_15 rfl (lv_at hl 0 rfl) ?_
  refine va_new (ci := 0) (fs := df_0) (C := RX0) (T := TX0) (N := 3) hx hb hts hin_0 tyX0 tyX0_ok hown (hts _ mw_45) (hts _ mw_46) (hts _ mw_5) hK hP hD hS hA rfl dfs_0 (Nat.le_of_ble_eq_true rfl) (Nat.le_of_ble_eq_true rfl) dX6_init_16 (fun q16 H hP hD hS => ?_)
  have hP : va_P (dC, dI) vwCl [(h0, .inr (6, [.ref q5, .null, .null, .int 0, .int 0, .int 0, .int 0, .int 0, .int 0, .int 0])), (q5, eX1 (v9 0) (il [0, (0 : Int32), (0 : Int32)])), ((v9 0), eA cy 64 z0), (q16, .inr (0, [.null, .null, .int 0]))] H := hP
  have hD : va_D A [(h0, .inr (6, [.ref q5, .null, .null, .int 0, .int 0, .int 0, .int 0, .int 0, .int 0, .int 0])), (q5, eX1 (v9 0) (il [0, (0 : Int32), (0 : Int32)])), ((v9 0), eA cy 64 z0), (q16, .inr (0, [.null, .null, .int 0]))] := hD
  refine lv_dup hx hb dX6_init_19 rfl ?_
  refine zctN (wnf := fun v20 => [(h0, .inr (6, [.ref q5, .null, .null, .int 0, .int 0, .int 0, .int 0, .int 0, .int 0, .int 0])), (q5, eX1 (v9 0) (il [0, (0 : Int32), (0 : Int32)])), ((v9 0), eA cy 64 z0), (q16, eX0 (v20 0) (v20 1) (il [0, 0, (0 : Int32)])), ((v20 0), eA cy 8 z0), ((v20 1), eA cy 8 z0)]) ⟨hx, hb, hml, hown, hts⟩ (kX0_init l dC dI cy q16 H.size) (List.mem_of_getElem? (i := 3) rfl) mw_47 mw_5 mw_48 rfl hdX0_init rfl rfl ⟨Nat.le_of_ble_eq_true rfl, Nat.le_of_ble_eq_true rfl⟩ hP hK hG hS hD hA [3] [0, 1, 2] [0, 1, 2, 3, 4, 5] rfl rfl rfl rfl (by decide) rfl (fun _ => rfl) hl.1 (Nat.le_of_ble_eq_true rfl) dX6_init_20 ⟨Nat.le_of_ble_eq_true rfl, Nat.le_of_ble_eq_true rfl⟩ (fun v20 H locs hP hD hS => ?_)
  have hP : va_P (dC, dI) vwCl [(h0, .inr (6, [.ref q5, .null, .null, .int 0, .int 0, .int 0, .int 0, .int 0, .int 0, .int 0])), (q5, eX1 (v9 0) (il [0, (0 : Int32), (0 : Int32)])), ((v9 0), eA cy 64 z0), (q16, eX0 (v20 0) (v20 1) (il [0, 0, (0 : Int32)])), ((v20 0), eA cy 8 z0), ((v20 1), eA cy 8 z0)] H := hP
  have hD : va_D A [(h0, .inr (6, [.ref q5, .null, .null, .int 0, .int 0, .int 0, .int 0, .int 0, .int 0, .int 0])), (q5, eX1 (v9 0) (il [0, (0 : Int32), (0 : Int32)])), ((v9 0), eA cy 64 z0), (q16, eX0 (v20 0) (v20 1) (il [0, 0, (0 : Int32)])), ((v20 0), eA cy 8 z0), ((v20 1), eA cy 8 z0)] := hD
  refine zputF hx hb hts hown hK hP hD hS hin_6 tyX6 tyX6_ok nmX6 0 rfl rfl 1 (by decide) mw_57 rfl hin rfl (v := .ref q16) rfl rfl (Nat.le_of_ble_eq_true rfl) (wn := [(h0, .inr (6, [.ref q5, .ref q16, .null, .int 0, .int 0, .int 0, .int 0, .int 0, .int 0, .int 0])), (q5, eX1 (v9 0) (il [0, (0 : Int32), (0 : Int32)])), ((v9 0), eA cy 64 z0), (q16, eX0 (v20 0) (v20 1) (il [0, 0, (0 : Int32)])), ((v20 0), eA cy 8 z0), ((v20 1), eA cy 8 z0)]) rfl dX6_init_23 (fun H locs hP hD hS => ?_)
  refine lv_aload_n hx hb dX6_init_26 rfl (lv_at hl 0 rfl) ?_
  refine va_new (ci := 0) (fs := df_0) (C := RX0) (T := TX0) (N := 3) hx hb hts hin_0 tyX0 tyX0_ok hown (hts _ mw_45) (hts _ mw_46) (hts _ mw_5) hK hP hD hS hA rfl dfs_0 (Nat.le_of_ble_eq_true rfl) (Nat.le_of_ble_eq_true rfl) dX6_init_27 (fun q27 H hP hD hS => ?_)
  have hP : va_P (dC, dI) vwCl [(h0, .inr (6, [.ref q5, .ref q16, .null, .int 0, .int 0, .int 0, .int 0, .int 0, .int 0, .int 0])), (q5, eX1 (v9 0) (il [0, (0 : Int32), (0 : Int32)])), ((v9 0), eA cy 64 z0), (q16, eX0 (v20 0) (v20 1) (il [0, 0, (0 : Int32)])), ((v20 0), eA cy 8 z0), ((v20 1), eA cy 8 z0), (q27, .inr (0, [.null, .null, .int 0]))] H := hP
  have hD : va_D A [(h0, .inr (6, [.ref q5, .ref q16, .null, .int 0, .int 0, .int 0, .int 0, .int 0, .int 0, .int 0])), (q5, eX1 (v9 0) (il [0, (0 : Int32), (0 : Int32)])), ((v9 0), eA cy 64 z0), (q16, eX0 (v20 0) (v20 1) (il [0, 0, (0 : Int32)])), ((v20 0), eA cy 8 z0), ((v20 1), eA cy 8 z0), (q27, .inr (0, [.null, .null, .int 0]))] := hD
  refine lv_dup hx hb dX6_init_30 rfl ?_
  refine zctN (wnf := fun v31 => [(h0, .inr (6, [.ref q5, .ref q16, .null, .int 0, .int 0, .int 0, .int 0, .int 0, .int 0, .int 0])), (q5, eX1 (v9 0) (il [0, (0 : Int32), (0 : Int32)])), ((v9 0), eA cy 64 z0), (q16, eX0 (v20 0) (v20 1) (il [0, 0, (0 : Int32)])), ((v20 0), eA cy 8 z0), ((v20 1), eA cy 8 z0), (q27, eX0 (v31 0) (v31 1) (il [0, 0, (0 : Int32)])), ((v31 0), eA cy 8 z0), ((v31 1), eA cy 8 z0)]) ⟨hx, hb, hml, hown, hts⟩ (kX0_init l dC dI cy q27 H.size) (List.mem_of_getElem? (i := 3) rfl) mw_47 mw_5 mw_48 rfl hdX0_init rfl rfl ⟨Nat.le_of_ble_eq_true rfl, Nat.le_of_ble_eq_true rfl⟩ hP hK hG hS hD hA [6] [0, 1, 2, 3, 4, 5] [0, 1, 2, 3, 4, 5, 6, 7, 8] rfl rfl rfl rfl (by decide) rfl (fun _ => rfl) hl.1 (Nat.le_of_ble_eq_true rfl) dX6_init_31 ⟨Nat.le_of_ble_eq_true rfl, Nat.le_of_ble_eq_true rfl⟩ (fun v31 H locs hP hD hS => ?_)
  have hP : va_P (dC, dI) vwCl [(h0, .inr (6, [.ref q5, .ref q16, .null, .int 0, .int 0, .int 0, .int 0, .int 0, .int 0, .int 0])), (q5, eX1 (v9 0) (il [0, (0 : Int32), (0 : Int32)])), ((v9 0), eA cy 64 z0), (q16, eX0 (v20 0) (v20 1) (il [0, 0, (0 : Int32)])), ((v20 0), eA cy 8 z0), ((v20 1), eA cy 8 z0), (q27, eX0 (v31 0) (v31 1) (il [0, 0, (0 : Int32)])), ((v31 0), eA cy 8 z0), ((v31 1), eA cy 8 z0)] H := hP
  have hD : va_D A [(h0, .inr (6, [.ref q5, .ref q16, .null, .int 0, .int 0, .int 0, .int 0, .int 0, .int 0, .int 0])), (q5, eX1 (v9 0) (il [0, (0 : Int32), (0 : Int32)])), ((v9 0), eA cy 64 z0), (q16, eX0 (v20 0) (v20 1) (il [0, 0, (0 : Int32)])), ((v20 0), eA cy 8 z0), ((v20 1), eA cy 8 z0), (q27, eX0 (v31 0) (v31 1) (il [0, 0, (0 : Int32)])), ((v31 0), eA cy 8 z0), ((v31 1), eA cy 8 z0)] := hD
  refine zputF hx hb hts hown hK hP hD hS hin_6 tyX6 tyX6_ok nmX6 0 rfl rfl 2 (by decide) mw_58 rfl hin rfl (v := .ref q27) rfl rfl (Nat.le_of_ble_eq_true rfl) (wn := [(h0, .inr (6, [.ref q5, .ref q16, .ref q27, .int 0, .int 0, .int 0, .int 0, .int 0, .int 0, .int 0])), (q5, eX1 (v9 0) (il [0, (0 : Int32), (0 : Int32)])), ((v9 0), eA cy 64 z0), (q16, eX0 (v20 0) (v20 1) (il [0, 0, (0 : Int32)])), ((v20 0), eA cy 8 z0), ((v20 1), eA cy 8 z0), (q27, eX0 (v31 0) (v31 1) (il [0, 0, (0 : Int32)])), ((v31 0), eA cy 8 z0), ((v31 1), eA cy 8 z0)]) rfl dX6_init_34 (fun H locs hP hD hS => ?_)
  refine lv_aload_n hx hb dX6_init_37 rfl (lv_at hl 0 rfl) ?_
  refine lv_iconst (v := (3 : Int32)) hx hb dX6_init_38 (by decide) ?_
  refine zput hx hb hts hown hK hP hD hS hin_6 tyX6 tyX6_ok nmX6 0 rfl rfl 3 (by decide) mw_59 rfl (v := .int (3 : Int32)) rfl rfl (Nat.le_of_ble_eq_true rfl) (wn := [(h0, .inr (6, [.ref q5, .ref q16, .ref q27, .int (3 : Int32), .int 0, .int 0, .int 0, .int 0, .int 0, .int 0])), (q5, eX1 (v9 0) (il [0, (0 : Int32), (0 : Int32)])), ((v9 0), eA cy 64 z0), (q16, eX0 (v20 0) (v20 1) (il [0, 0, (0 : Int32)])), ((v20 0), eA cy 8 z0), ((v20 1), eA cy 8 z0), (q27, eX0 (v31 0) (v31 1) (il [0, 0, (0 : Int32)])), ((v31 0), eA cy 8 z0), ((v31 1), eA cy 8 z0)]) rfl dX6_init_39 (fun H locs hP hD hS => ?_)
  refine lv_aload_n hx hb dX6_init_42 rfl (lv_at hl 0 rfl) ?_
  refine lv_iconst (v := (3 : Int32)) hx hb dX6_init_43 (by decide) ?_
  refine zput hx hb hts hown hK hP hD hS hin_6 tyX6 tyX6_ok nmX6 0 rfl rfl 4 (by decide) mw_60 rfl (v := .int (3 : Int32)) rfl rfl (Nat.le_of_ble_eq_true rfl) (wn := [(h0, .inr (6, [.ref q5, .ref q16, .ref q27, .int (3 : Int32), .int (3 : Int32), .int 0, .int 0, .int 0, .int 0, .int 0])), (q5, eX1 (v9 0) (il [0, (0 : Int32), (0 : Int32)])), ((v9 0), eA cy 64 z0), (q16, eX0 (v20 0) (v20 1) (il [0, 0, (0 : Int32)])), ((v20 0), eA cy 8 z0), ((v20 1), eA cy 8 z0), (q27, eX0 (v31 0) (v31 1) (il [0, 0, (0 : Int32)])), ((v31 0), eA cy 8 z0), ((v31 1), eA cy 8 z0)]) rfl dX6_init_44 (fun H locs hP hD hS => ?_)
  refine lv_aload_n hx hb dX6_init_47 rfl (lv_at hl 0 rfl) ?_
  refine lv_iconst (v := (0 : Int32)) hx hb dX6_init_48 (by decide) ?_
  refine zput hx hb hts hown hK hP hD hS hin_6 tyX6 tyX6_ok nmX6 0 rfl rfl 5 (by decide) mw_61 rfl (v := .int (0 : Int32)) rfl rfl (Nat.le_of_ble_eq_true rfl) (wn := [(h0, .inr (6, [.ref q5, .ref q16, .ref q27, .int (3 : Int32), .int (3 : Int32), .int (0 : Int32), .int 0, .int 0, .int 0, .int 0])), (q5, eX1 (v9 0) (il [0, (0 : Int32), (0 : Int32)])), ((v9 0), eA cy 64 z0), (q16, eX0 (v20 0) (v20 1) (il [0, 0, (0 : Int32)])), ((v20 0), eA cy 8 z0), ((v20 1), eA cy 8 z0), (q27, eX0 (v31 0) (v31 1) (il [0, 0, (0 : Int32)])), ((v31 0), eA cy 8 z0), ((v31 1), eA cy 8 z0)]) rfl dX6_init_49 (fun H locs hP hD hS => ?_)
  refine lv_aload_n hx hb dX6_init_52 rfl (lv_at hl 0 rfl) ?_
  refine lv_bipush (v := (40 : Int32)) hx hb dX6_init_53 (by decide) ?_
  refine zput hx hb hts hown hK hP hD hS hin_6 tyX6 tyX6_ok nmX6 0 rfl rfl 6 (by decide) mw_62 rfl (v := .int (40 : Int32)) rfl rfl (Nat.le_of_ble_eq_true rfl) (wn := [(h0, .inr (6, [.ref q5, .ref q16, .ref q27, .int (3 : Int32), .int (3 : Int32), .int (0 : Int32), .int (40 : Int32), .int 0, .int 0, .int 0])), (q5, eX1 (v9 0) (il [0, (0 : Int32), (0 : Int32)])), ((v9 0), eA cy 64 z0), (q16, eX0 (v20 0) (v20 1) (il [0, 0, (0 : Int32)])), ((v20 0), eA cy 8 z0), ((v20 1), eA cy 8 z0), (q27, eX0 (v31 0) (v31 1) (il [0, 0, (0 : Int32)])), ((v31 0), eA cy 8 z0), ((v31 1), eA cy 8 z0)]) rfl dX6_init_55 (fun H locs hP hD hS => ?_)
  refine lv_aload_n hx hb dX6_init_58 rfl (lv_at hl 0 rfl) ?_
  refine lv_iconst (v := (2 : Int32)) hx hb dX6_init_59 (by decide) ?_
  refine zput hx hb hts hown hK hP hD hS hin_6 tyX6 tyX6_ok nmX6 0 rfl rfl 7 (by decide) mw_63 rfl (v := .int (2 : Int32)) rfl rfl (Nat.le_of_ble_eq_true rfl) (wn := [(h0, .inr (6, [.ref q5, .ref q16, .ref q27, .int (3 : Int32), .int (3 : Int32), .int (0 : Int32), .int (40 : Int32), .int (2 : Int32), .int 0, .int 0])), (q5, eX1 (v9 0) (il [0, (0 : Int32), (0 : Int32)])), ((v9 0), eA cy 64 z0), (q16, eX0 (v20 0) (v20 1) (il [0, 0, (0 : Int32)])), ((v20 0), eA cy 8 z0), ((v20 1), eA cy 8 z0), (q27, eX0 (v31 0) (v31 1) (il [0, 0, (0 : Int32)])), ((v31 0), eA cy 8 z0), ((v31 1), eA cy 8 z0)]) rfl dX6_init_60 (fun H locs hP hD hS => ?_)
  refine lv_aload_n hx hb dX6_init_63 rfl (lv_at hl 0 rfl) ?_
  refine lv_iconst (v := (5 : Int32)) hx hb dX6_init_64 (by decide) ?_
  refine zput hx hb hts hown hK hP hD hS hin_6 tyX6 tyX6_ok nmX6 0 rfl rfl 8 (by decide) mw_64 rfl (v := .int (5 : Int32)) rfl rfl (Nat.le_of_ble_eq_true rfl) (wn := [(h0, .inr (6, [.ref q5, .ref q16, .ref q27, .int (3 : Int32), .int (3 : Int32), .int (0 : Int32), .int (40 : Int32), .int (2 : Int32), .int (5 : Int32), .int 0])), (q5, eX1 (v9 0) (il [0, (0 : Int32), (0 : Int32)])), ((v9 0), eA cy 64 z0), (q16, eX0 (v20 0) (v20 1) (il [0, 0, (0 : Int32)])), ((v20 0), eA cy 8 z0), ((v20 1), eA cy 8 z0), (q27, eX0 (v31 0) (v31 1) (il [0, 0, (0 : Int32)])), ((v31 0), eA cy 8 z0), ((v31 1), eA cy 8 z0)]) rfl dX6_init_65 (fun H locs hP hD hS => ?_)
  refine lv_aload_n hx hb dX6_init_68 rfl (lv_at hl 0 rfl) ?_
  refine lv_bipush (v := (30 : Int32)) hx hb dX6_init_69 (by decide) ?_
  refine zput hx hb hts hown hK hP hD hS hin_6 tyX6 tyX6_ok nmX6 0 rfl rfl 9 (by decide) mw_65 rfl (v := .int (30 : Int32)) rfl rfl (Nat.le_of_ble_eq_true rfl) (wn := [(h0, .inr (6, [.ref q5, .ref q16, .ref q27, .int (3 : Int32), .int (3 : Int32), .int (0 : Int32), .int (40 : Int32), .int (2 : Int32), .int (5 : Int32), .int (30 : Int32)])), (q5, eX1 (v9 0) (il [0, (0 : Int32), (0 : Int32)])), ((v9 0), eA cy 64 z0), (q16, eX0 (v20 0) (v20 1) (il [0, 0, (0 : Int32)])), ((v20 0), eA cy 8 z0), ((v20 1), eA cy 8 z0), (q27, eX0 (v31 0) (v31 1) (il [0, 0, (0 : Int32)])), ((v31 0), eA cy 8 z0), ((v31 1), eA cy 8 z0)]) rfl dX6_init_71 (fun H locs hP hD hS => ?_)
  exact zretC hx hb hr hlocks hP hK hD hS (adl [q5, (v9 0), q16, (v20 0), (v20 1), q27, (v31 0), (v31 1)]) rfl dX6_init_74
