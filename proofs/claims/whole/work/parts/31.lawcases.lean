set_option maxHeartbeats 4000000 in
set_option maxRecDepth 100000 in
theorem lc_0 {p : Program} {l : Launch} {e : Env} {s : State} {m : MethodId} {below : List Frame} {meth : Method} {c : Code} {dC : Nat → ClassId} {dI : Nat → Nat → Nat} {cy : ClassId} {b L : Nat} {xs : Nat → Int32} (C0 : lw_At p s m meth c b L xs) (hK : va_K (dC, dI) vwCl [(cy, .int)] s) (hG : GL (fun q : Nat => s.heap.size ≤ q) s) (x3 : Int32) (hi1 : vp_in (x3 + (1 : Int32)) L) (hi2 : vp_in (x3 + (2 : Int32)) L) (hi3 : vp_in (x3 + (3 : Int32)) L) (n : Nat) (h0 h1 : Nat → Nat) (w0 w1 : Nat → Nat → Int32) (hn : n < 1000) (hR : zR n w0 w1) (kk : ∀ (v0 v1 : Nat → Nat → Int32) (H : Heap) (locs : List Loc) (ls : Array Slot), zR (n + 1) v0 v1 → va_P (dC, dI) vwCl (zW_78 cy h0 v0 h1 v1) H → va_D (fun q : Nat => s.heap.size ≤ q) (zW_78 cy h0 v0 h1 v1) → va_S (fun q : Nat => s.heap.size ≤ q) s.heap H locs → lv_has ls 4 [(0, .ref b), (1, .ref (h0 0)), (2, .ref (h1 0)), (3, .int x3)] → W p l e room_1 s m #[Value.ref b] below meth c H locs 43 1370 (lw_Z below #[Value.ref b] s) (F0 m 899 ls [])) (H : Heap) (locs : List Loc) (ls : Array Slot) (hP : va_P (dC, dI) vwCl (zW_78 cy h0 w0 h1 w1) H) (hD : va_D (fun q : Nat => s.heap.size ≤ q) (zW_78 cy h0 w0 h1 w1)) (hS : va_S (fun q : Nat => s.heap.size ≤ q) s.heap H locs) (hl : lv_has ls 4 [(0, .ref b), (1, .ref (h0 0)), (2, .ref (h1 0)), (3, .int x3)]) : W p l e room_1 s m #[Value.ref b] below meth c H locs 43 1370 (lw_Z below #[Value.ref b] s) (F0 m 180 ls []) := by
  obtain ⟨hx, hb, hr, hml, hown, hts0, hX, hbl, hlocks, hgv⟩ := C0
  have hts : ∀ w ∈ wsA, w.before #[Value.ref b] s = true := fun w h => hts0 w (wa_of h)
  have hown : s.vm.findClass RL = some m.cls := hown
  have hA : ∀ q : Nat, s.heap.size ≤ q → (fun q : Nat => s.heap.size ≤ q) q := fun _ h => h
  have hbA : ¬ (fun q : Nat => s.heap.size ≤ q) b := Nat.not_le.mpr hbl
  obtain ⟨r, c1, c2, c28, d0, d2, d9, hzE, hzM, hR1⟩ := sim_letter hn hR (xs (x3 + (1 : Int32)).toNatClampNeg)
  refine lv_aload_n hx hb dL_law_180 rfl (lv_at hl 1 rfl) ?_
  refine lv_aload_n hx hb dL_law_181 rfl (lv_at hl 0 rfl) ?_
  refine lv_iload_n hx hb dL_law_182 rfl (lv_at hl 3 rfl) ?_
  refine lv_iconst (v := (1 : Int32)) hx hb dL_law_183 (by decide) ?_
  refine lv_iadd hx hb dL_law_184 ?_
  refine va_sld hx hb hX hbl hbA hS hi1 dL_law_185 ?_
  refine zwiV (q := (RX7, TX7, 10)) (As := [.int (xs (x3 + (1 : Int32)).toNatClampNeg)]) (rest := []) (r := r) (u := (c1, c2, c28)) (wn := zW_78 cy h0 (ups (ups (ups w0 1 c1) 2 c2) 28 c28) h1 w1) ⟨hx, hb, hml, hown, hts⟩ (kX7_letter l dC dI cy h0 w0 (xs (x3 + (1 : Int32)).toNatClampNeg) H.size (r, c1, c2, c28) hzE) mw_161 mw_162 mw_163 mw_1 mw_164 hdX7_letter rfl rfl ⟨Nat.le_of_ble_eq_true rfl, Nat.le_of_ble_eq_true rfl⟩ hP hK hG hS 0 rfl rfl hD hA [0, 1, 2, 3, 4, 5, 6, 7, 8, 9, 10, 11, 12, 13, 14, 15, 16, 17, 18, 19, 20, 21, 22, 23, 24, 25, 26, 27, 28] [29, 30, 31, 32, 33, 34, 35, 36, 37, 38, 39, 40, 41, 42] [14, 15, 16, 17, 18, 19, 20, 21, 22, 23, 24, 25, 26, 27, 28, 29, 30, 31, 32, 33, 34, 35, 36, 37, 38, 39, 40, 41, 42, 0, 1, 2, 3, 4, 5, 6, 7, 8, 9, 10, 11, 12, 13] rfl rfl rfl rfl (by decide) rfl rfl rfl hl.1 rfl (Nat.le_of_ble_eq_true rfl) dL_law_186 ⟨Nat.le_refl 43, Nat.le_refl 1370⟩ (fun H locs hP hD hS => ?_)
  refine lv_aload_n hx hb dL_law_189 rfl (lv_at hl 2 rfl) ?_
  refine lv_aload_n hx hb dL_law_190 rfl (lv_at hl 0 rfl) ?_
  refine lv_iload_n hx hb dL_law_191 rfl (lv_at hl 3 rfl) ?_
  refine lv_iconst (v := (1 : Int32)) hx hb dL_law_192 (by decide) ?_
  refine lv_iadd hx hb dL_law_193 ?_
  refine va_sld hx hb hX hbl hbA hS hi1 dL_law_194 ?_
  refine zwiV (q := (RX8, TX8, 37)) (As := [.int (xs (x3 + (1 : Int32)).toNatClampNeg)]) (rest := [.int r]) (r := r) (u := (d0, d2, d9)) (wn := zW_78 cy h0 (ups (ups (ups w0 1 c1) 2 c2) 28 c28) h1 (ups (ups (ups w1 0 d0) 2 d2) 9 d9)) ⟨hx, hb, hml, hown, hts⟩ (kX8_letter l dC dI cy h1 w1 (xs (x3 + (1 : Int32)).toNatClampNeg) H.size (r, d0, d2, d9) hzM) mw_664 mw_665 mw_666 mw_9 mw_667 hdX8_letter rfl rfl ⟨Nat.le_of_ble_eq_true rfl, Nat.le_of_ble_eq_true rfl⟩ hP hK hG hS 29 rfl rfl hD hA [29, 30, 31, 32, 33, 34, 35, 36, 37, 38, 39, 40, 41, 42] [0, 1, 2, 3, 4, 5, 6, 7, 8, 9, 10, 11, 12, 13, 14, 15, 16, 17, 18, 19, 20, 21, 22, 23, 24, 25, 26, 27, 28] [0, 1, 2, 3, 4, 5, 6, 7, 8, 9, 10, 11, 12, 13, 14, 15, 16, 17, 18, 19, 20, 21, 22, 23, 24, 25, 26, 27, 28, 29, 30, 31, 32, 33, 34, 35, 36, 37, 38, 39, 40, 41, 42] rfl rfl rfl rfl (by decide) rfl rfl rfl hl.1 rfl (Nat.le_of_ble_eq_true rfl) dL_law_195 ⟨Nat.le_refl 43, Nat.le_refl 1370⟩ (fun H locs hP hD hS => ?_)
  refine lv_icmp_eq (tgt := 899) hx hb dL_law_198 (by decide) (fun hc => ?_) (fun hc => ?_)
  · exact kk _ _ H locs ls hR1 hP hD hS hl
  · exact absurd rfl hc
set_option maxHeartbeats 4000000 in
set_option maxRecDepth 100000 in
theorem lc_1 {p : Program} {l : Launch} {e : Env} {s : State} {m : MethodId} {below : List Frame} {meth : Method} {c : Code} {dC : Nat → ClassId} {dI : Nat → Nat → Nat} {cy : ClassId} {b L : Nat} {xs : Nat → Int32} (C0 : lw_At p s m meth c b L xs) (hK : va_K (dC, dI) vwCl [(cy, .int)] s) (hG : GL (fun q : Nat => s.heap.size ≤ q) s) (x3 : Int32) (hi1 : vp_in (x3 + (1 : Int32)) L) (hi2 : vp_in (x3 + (2 : Int32)) L) (hi3 : vp_in (x3 + (3 : Int32)) L) (n : Nat) (h0 h1 : Nat → Nat) (w0 w1 : Nat → Nat → Int32) (hn : n < 1000) (hR : zR n w0 w1) (kk : ∀ (v0 v1 : Nat → Nat → Int32) (H : Heap) (locs : List Loc) (ls : Array Slot), zR (n + 1) v0 v1 → va_P (dC, dI) vwCl (zW_78 cy h0 v0 h1 v1) H → va_D (fun q : Nat => s.heap.size ≤ q) (zW_78 cy h0 v0 h1 v1) → va_S (fun q : Nat => s.heap.size ≤ q) s.heap H locs → lv_has ls 4 [(0, .ref b), (1, .ref (h0 0)), (2, .ref (h1 0)), (3, .int x3)] → W p l e room_1 s m #[Value.ref b] below meth c H locs 43 1370 (lw_Z below #[Value.ref b] s) (F0 m 899 ls [])) (H : Heap) (locs : List Loc) (ls : Array Slot) (hP : va_P (dC, dI) vwCl (zW_78 cy h0 w0 h1 w1) H) (hD : va_D (fun q : Nat => s.heap.size ≤ q) (zW_78 cy h0 w0 h1 w1)) (hS : va_S (fun q : Nat => s.heap.size ≤ q) s.heap H locs) (hl : lv_has ls 4 [(0, .ref b), (1, .ref (h0 0)), (2, .ref (h1 0)), (3, .int x3)]) : W p l e room_1 s m #[Value.ref b] below meth c H locs 43 1370 (lw_Z below #[Value.ref b] s) (F0 m 203 ls []) := by
  obtain ⟨hx, hb, hr, hml, hown, hts0, hX, hbl, hlocks, hgv⟩ := C0
  have hts : ∀ w ∈ wsA, w.before #[Value.ref b] s = true := fun w h => hts0 w (wa_of h)
  have hown : s.vm.findClass RL = some m.cls := hown
  have hA : ∀ q : Nat, s.heap.size ≤ q → (fun q : Nat => s.heap.size ≤ q) q := fun _ h => h
  have hbA : ¬ (fun q : Nat => s.heap.size ≤ q) b := Nat.not_le.mpr hbl
  obtain ⟨r, c1, c4, c5, c12, d0, d1, hzE, hzM, hR1⟩ := sim_bay hn hR
  refine lv_aload_n hx hb dL_law_203 rfl (lv_at hl 1 rfl) ?_
  refine zwiV (q := (RX7, TX7, 10)) (As := []) (rest := []) (r := r) (u := (c1, c4, c5, c12)) (wn := zW_78 cy h0 (ups (ups (ups (ups w0 1 c1) 4 c4) 5 c5) 12 c12) h1 w1) ⟨hx, hb, hml, hown, hts⟩ (kX7_bay l dC dI cy h0 w0 H.size (r, c1, c4, c5, c12) hzE) mw_172 mw_173 mw_174 mw_1 mw_175 hdX7_bay rfl rfl ⟨Nat.le_of_ble_eq_true rfl, Nat.le_of_ble_eq_true rfl⟩ hP hK hG hS 0 rfl rfl hD hA [0, 1, 2, 3, 4, 5, 6, 7, 8, 9, 10, 11, 12, 13, 14, 15, 16, 17, 18, 19, 20, 21, 22, 23, 24, 25, 26, 27, 28] [29, 30, 31, 32, 33, 34, 35, 36, 37, 38, 39, 40, 41, 42] [14, 15, 16, 17, 18, 19, 20, 21, 22, 23, 24, 25, 26, 27, 28, 29, 30, 31, 32, 33, 34, 35, 36, 37, 38, 39, 40, 41, 42, 0, 1, 2, 3, 4, 5, 6, 7, 8, 9, 10, 11, 12, 13] rfl rfl rfl rfl (by decide) rfl rfl rfl hl.1 rfl (Nat.le_of_ble_eq_true rfl) dL_law_204 ⟨Nat.le_refl 43, Nat.le_refl 1370⟩ (fun H locs hP hD hS => ?_)
  refine lv_aload_n hx hb dL_law_207 rfl (lv_at hl 2 rfl) ?_
  refine zwiV (q := (RX8, TX8, 37)) (As := []) (rest := [.int r]) (r := r) (u := (d0, d1)) (wn := zW_78 cy h0 (ups (ups (ups (ups w0 1 c1) 4 c4) 5 c5) 12 c12) h1 (ups (ups w1 0 d0) 1 d1)) ⟨hx, hb, hml, hown, hts⟩ (kX8_bay l dC dI cy h1 w1 H.size (r, d0, d1) hzM) mw_671 mw_672 mw_673 mw_9 mw_674 hdX8_bay rfl rfl ⟨Nat.le_of_ble_eq_true rfl, Nat.le_of_ble_eq_true rfl⟩ hP hK hG hS 29 rfl rfl hD hA [29, 30, 31, 32, 33, 34, 35, 36, 37, 38, 39, 40, 41, 42] [0, 1, 2, 3, 4, 5, 6, 7, 8, 9, 10, 11, 12, 13, 14, 15, 16, 17, 18, 19, 20, 21, 22, 23, 24, 25, 26, 27, 28] [0, 1, 2, 3, 4, 5, 6, 7, 8, 9, 10, 11, 12, 13, 14, 15, 16, 17, 18, 19, 20, 21, 22, 23, 24, 25, 26, 27, 28, 29, 30, 31, 32, 33, 34, 35, 36, 37, 38, 39, 40, 41, 42] rfl rfl rfl rfl (by decide) rfl rfl rfl hl.1 rfl (Nat.le_of_ble_eq_true rfl) dL_law_208 ⟨Nat.le_refl 43, Nat.le_refl 1370⟩ (fun H locs hP hD hS => ?_)
  refine lv_icmp_eq (tgt := 899) hx hb dL_law_211 (by decide) (fun hc => ?_) (fun hc => ?_)
  · exact kk _ _ H locs ls hR1 hP hD hS hl
  · exact absurd rfl hc
set_option maxHeartbeats 4000000 in
set_option maxRecDepth 100000 in
theorem lc_2 {p : Program} {l : Launch} {e : Env} {s : State} {m : MethodId} {below : List Frame} {meth : Method} {c : Code} {dC : Nat → ClassId} {dI : Nat → Nat → Nat} {cy : ClassId} {b L : Nat} {xs : Nat → Int32} (C0 : lw_At p s m meth c b L xs) (hK : va_K (dC, dI) vwCl [(cy, .int)] s) (hG : GL (fun q : Nat => s.heap.size ≤ q) s) (x3 : Int32) (hi1 : vp_in (x3 + (1 : Int32)) L) (hi2 : vp_in (x3 + (2 : Int32)) L) (hi3 : vp_in (x3 + (3 : Int32)) L) (n : Nat) (h0 h1 : Nat → Nat) (w0 w1 : Nat → Nat → Int32) (hn : n < 1000) (hR : zR n w0 w1) (kk : ∀ (v0 v1 : Nat → Nat → Int32) (H : Heap) (locs : List Loc) (ls : Array Slot), zR (n + 1) v0 v1 → va_P (dC, dI) vwCl (zW_78 cy h0 v0 h1 v1) H → va_D (fun q : Nat => s.heap.size ≤ q) (zW_78 cy h0 v0 h1 v1) → va_S (fun q : Nat => s.heap.size ≤ q) s.heap H locs → lv_has ls 4 [(0, .ref b), (1, .ref (h0 0)), (2, .ref (h1 0)), (3, .int x3)] → W p l e room_1 s m #[Value.ref b] below meth c H locs 43 1370 (lw_Z below #[Value.ref b] s) (F0 m 899 ls [])) (H : Heap) (locs : List Loc) (ls : Array Slot) (hP : va_P (dC, dI) vwCl (zW_78 cy h0 w0 h1 w1) H) (hD : va_D (fun q : Nat => s.heap.size ≤ q) (zW_78 cy h0 w0 h1 w1)) (hS : va_S (fun q : Nat => s.heap.size ≤ q) s.heap H locs) (hl : lv_has ls 4 [(0, .ref b), (1, .ref (h0 0)), (2, .ref (h1 0)), (3, .int x3)]) : W p l e room_1 s m #[Value.ref b] below meth c H locs 43 1370 (lw_Z below #[Value.ref b] s) (F0 m 216 ls []) := by
  obtain ⟨hx, hb, hr, hml, hown, hts0, hX, hbl, hlocks, hgv⟩ := C0
  have hts : ∀ w ∈ wsA, w.before #[Value.ref b] s = true := fun w h => hts0 w (wa_of h)
  have hown : s.vm.findClass RL = some m.cls := hown
  have hA : ∀ q : Nat, s.heap.size ≤ q → (fun q : Nat => s.heap.size ≤ q) q := fun _ h => h
  have hbA : ¬ (fun q : Nat => s.heap.size ≤ q) b := Nat.not_le.mpr hbl
  obtain ⟨r, c28, d9, hzE, hzM, hR1⟩ := sim_cell hn hR (xs (x3 + (1 : Int32)).toNatClampNeg)
  refine lv_aload_n hx hb dL_law_216 rfl (lv_at hl 1 rfl) ?_
  refine lv_aload_n hx hb dL_law_217 rfl (lv_at hl 0 rfl) ?_
  refine lv_iload_n hx hb dL_law_218 rfl (lv_at hl 3 rfl) ?_
  refine lv_iconst (v := (1 : Int32)) hx hb dL_law_219 (by decide) ?_
  refine lv_iadd hx hb dL_law_220 ?_
  refine va_sld hx hb hX hbl hbA hS hi1 dL_law_221 ?_
  refine zwiV (q := (RX7, TX7, 10)) (As := [.int (xs (x3 + (1 : Int32)).toNatClampNeg)]) (rest := []) (r := r) (u := c28) (wn := zW_78 cy h0 (ups w0 28 c28) h1 w1) ⟨hx, hb, hml, hown, hts⟩ (kX7_cell l dC dI cy h0 w0 (xs (x3 + (1 : Int32)).toNatClampNeg) H.size (r, c28) hzE) mw_204 mw_205 mw_206 mw_1 mw_207 hdX7_cell rfl rfl ⟨Nat.le_of_ble_eq_true rfl, Nat.le_of_ble_eq_true rfl⟩ hP hK hG hS 0 rfl rfl hD hA [0, 1, 2, 3, 4, 5, 6, 7, 8, 9, 10, 11, 12, 13, 14, 15, 16, 17, 18, 19, 20, 21, 22, 23, 24, 25, 26, 27, 28] [29, 30, 31, 32, 33, 34, 35, 36, 37, 38, 39, 40, 41, 42] [14, 15, 16, 17, 18, 19, 20, 21, 22, 23, 24, 25, 26, 27, 28, 29, 30, 31, 32, 33, 34, 35, 36, 37, 38, 39, 40, 41, 42, 0, 1, 2, 3, 4, 5, 6, 7, 8, 9, 10, 11, 12, 13] rfl rfl rfl rfl (by decide) rfl rfl rfl hl.1 rfl (Nat.le_of_ble_eq_true rfl) dL_law_222 ⟨Nat.le_refl 43, Nat.le_refl 1370⟩ (fun H locs hP hD hS => ?_)
  refine lv_aload_n hx hb dL_law_225 rfl (lv_at hl 2 rfl) ?_
  refine lv_aload_n hx hb dL_law_226 rfl (lv_at hl 0 rfl) ?_
  refine lv_iload_n hx hb dL_law_227 rfl (lv_at hl 3 rfl) ?_
  refine lv_iconst (v := (1 : Int32)) hx hb dL_law_228 (by decide) ?_
  refine lv_iadd hx hb dL_law_229 ?_
  refine va_sld hx hb hX hbl hbA hS hi1 dL_law_230 ?_
  refine zwiV (q := (RX8, TX8, 37)) (As := [.int (xs (x3 + (1 : Int32)).toNatClampNeg)]) (rest := [.int r]) (r := r) (u := d9) (wn := zW_78 cy h0 (ups w0 28 c28) h1 (ups w1 9 d9)) ⟨hx, hb, hml, hown, hts⟩ (kX8_cell l dC dI cy h1 w1 (xs (x3 + (1 : Int32)).toNatClampNeg) H.size (r, d9) hzM) mw_681 mw_682 mw_683 mw_9 mw_684 hdX8_cell rfl rfl ⟨Nat.le_of_ble_eq_true rfl, Nat.le_of_ble_eq_true rfl⟩ hP hK hG hS 29 rfl rfl hD hA [29, 30, 31, 32, 33, 34, 35, 36, 37, 38, 39, 40, 41, 42] [0, 1, 2, 3, 4, 5, 6, 7, 8, 9, 10, 11, 12, 13, 14, 15, 16, 17, 18, 19, 20, 21, 22, 23, 24, 25, 26, 27, 28] [0, 1, 2, 3, 4, 5, 6, 7, 8, 9, 10, 11, 12, 13, 14, 15, 16, 17, 18, 19, 20, 21, 22, 23, 24, 25, 26, 27, 28, 29, 30, 31, 32, 33, 34, 35, 36, 37, 38, 39, 40, 41, 42] rfl rfl rfl rfl (by decide) rfl rfl rfl hl.1 rfl (Nat.le_of_ble_eq_true rfl) dL_law_231 ⟨Nat.le_refl 43, Nat.le_refl 1370⟩ (fun H locs hP hD hS => ?_)
  refine lv_icmp_eq (tgt := 899) hx hb dL_law_234 (by decide) (fun hc => ?_) (fun hc => ?_)
  · exact kk _ _ H locs ls hR1 hP hD hS hl
  · exact absurd rfl hc
set_option maxHeartbeats 4000000 in
set_option maxRecDepth 100000 in
theorem lc_3 {p : Program} {l : Launch} {e : Env} {s : State} {m : MethodId} {below : List Frame} {meth : Method} {c : Code} {dC : Nat → ClassId} {dI : Nat → Nat → Nat} {cy : ClassId} {b L : Nat} {xs : Nat → Int32} (C0 : lw_At p s m meth c b L xs) (hK : va_K (dC, dI) vwCl [(cy, .int)] s) (hG : GL (fun q : Nat => s.heap.size ≤ q) s) (x3 : Int32) (hi1 : vp_in (x3 + (1 : Int32)) L) (hi2 : vp_in (x3 + (2 : Int32)) L) (hi3 : vp_in (x3 + (3 : Int32)) L) (n : Nat) (h0 h1 : Nat → Nat) (w0 w1 : Nat → Nat → Int32) (hn : n < 1000) (hR : zR n w0 w1) (kk : ∀ (v0 v1 : Nat → Nat → Int32) (H : Heap) (locs : List Loc) (ls : Array Slot), zR (n + 1) v0 v1 → va_P (dC, dI) vwCl (zW_78 cy h0 v0 h1 v1) H → va_D (fun q : Nat => s.heap.size ≤ q) (zW_78 cy h0 v0 h1 v1) → va_S (fun q : Nat => s.heap.size ≤ q) s.heap H locs → lv_has ls 4 [(0, .ref b), (1, .ref (h0 0)), (2, .ref (h1 0)), (3, .int x3)] → W p l e room_1 s m #[Value.ref b] below meth c H locs 43 1370 (lw_Z below #[Value.ref b] s) (F0 m 899 ls [])) (H : Heap) (locs : List Loc) (ls : Array Slot) (hP : va_P (dC, dI) vwCl (zW_78 cy h0 w0 h1 w1) H) (hD : va_D (fun q : Nat => s.heap.size ≤ q) (zW_78 cy h0 w0 h1 w1)) (hS : va_S (fun q : Nat => s.heap.size ≤ q) s.heap H locs) (hl : lv_has ls 4 [(0, .ref b), (1, .ref (h0 0)), (2, .ref (h1 0)), (3, .int x3)]) : W p l e room_1 s m #[Value.ref b] below meth c H locs 43 1370 (lw_Z below #[Value.ref b] s) (F0 m 239 ls []) := by
  obtain ⟨hx, hb, hr, hml, hown, hts0, hX, hbl, hlocks, hgv⟩ := C0
  have hts : ∀ w ∈ wsA, w.before #[Value.ref b] s = true := fun w h => hts0 w (wa_of h)
  have hown : s.vm.findClass RL = some m.cls := hown
  have hA : ∀ q : Nat, s.heap.size ≤ q → (fun q : Nat => s.heap.size ≤ q) q := fun _ h => h
  have hbA : ¬ (fun q : Nat => s.heap.size ≤ q) b := Nat.not_le.mpr hbl
  obtain ⟨r, c3, c28, d3, d9, hzE, hzM, hR1⟩ := sim_set hn hR (xs (x3 + (1 : Int32)).toNatClampNeg) (xs (x3 + (2 : Int32)).toNatClampNeg)
  refine lv_aload_n hx hb dL_law_239 rfl (lv_at hl 1 rfl) ?_
  refine lv_aload_n hx hb dL_law_240 rfl (lv_at hl 0 rfl) ?_
  refine lv_iload_n hx hb dL_law_241 rfl (lv_at hl 3 rfl) ?_
  refine lv_iconst (v := (1 : Int32)) hx hb dL_law_242 (by decide) ?_
  refine lv_iadd hx hb dL_law_243 ?_
  refine va_sld hx hb hX hbl hbA hS hi1 dL_law_244 ?_
  refine lv_aload_n hx hb dL_law_245 rfl (lv_at hl 0 rfl) ?_
  refine lv_iload_n hx hb dL_law_246 rfl (lv_at hl 3 rfl) ?_
  refine lv_iconst (v := (2 : Int32)) hx hb dL_law_247 (by decide) ?_
  refine lv_iadd hx hb dL_law_248 ?_
  refine va_sld hx hb hX hbl hbA hS hi2 dL_law_249 ?_
  refine zwiV (q := (RX7, TX7, 10)) (As := [.int (xs (x3 + (1 : Int32)).toNatClampNeg), .int (xs (x3 + (2 : Int32)).toNatClampNeg)]) (rest := []) (r := r) (u := (c3, c28)) (wn := zW_78 cy h0 (ups (ups w0 3 c3) 28 c28) h1 w1) ⟨hx, hb, hml, hown, hts⟩ (kX7_set l dC dI cy h0 w0 (xs (x3 + (1 : Int32)).toNatClampNeg) (xs (x3 + (2 : Int32)).toNatClampNeg) H.size (r, c3, c28) hzE) mw_216 mw_217 mw_218 mw_1 mw_219 hdX7_set rfl rfl ⟨Nat.le_of_ble_eq_true rfl, Nat.le_of_ble_eq_true rfl⟩ hP hK hG hS 0 rfl rfl hD hA [0, 1, 2, 3, 4, 5, 6, 7, 8, 9, 10, 11, 12, 13, 14, 15, 16, 17, 18, 19, 20, 21, 22, 23, 24, 25, 26, 27, 28] [29, 30, 31, 32, 33, 34, 35, 36, 37, 38, 39, 40, 41, 42] [14, 15, 16, 17, 18, 19, 20, 21, 22, 23, 24, 25, 26, 27, 28, 29, 30, 31, 32, 33, 34, 35, 36, 37, 38, 39, 40, 41, 42, 0, 1, 2, 3, 4, 5, 6, 7, 8, 9, 10, 11, 12, 13] rfl rfl rfl rfl (by decide) rfl rfl rfl hl.1 rfl (Nat.le_of_ble_eq_true rfl) dL_law_250 ⟨Nat.le_refl 43, Nat.le_refl 1370⟩ (fun H locs hP hD hS => ?_)
  refine lv_aload_n hx hb dL_law_253 rfl (lv_at hl 2 rfl) ?_
  refine lv_aload_n hx hb dL_law_254 rfl (lv_at hl 0 rfl) ?_
  refine lv_iload_n hx hb dL_law_255 rfl (lv_at hl 3 rfl) ?_
  refine lv_iconst (v := (1 : Int32)) hx hb dL_law_256 (by decide) ?_
  refine lv_iadd hx hb dL_law_257 ?_
  refine va_sld hx hb hX hbl hbA hS hi1 dL_law_258 ?_
  refine lv_aload_n hx hb dL_law_259 rfl (lv_at hl 0 rfl) ?_
  refine lv_iload_n hx hb dL_law_260 rfl (lv_at hl 3 rfl) ?_
  refine lv_iconst (v := (2 : Int32)) hx hb dL_law_261 (by decide) ?_
  refine lv_iadd hx hb dL_law_262 ?_
  refine va_sld hx hb hX hbl hbA hS hi2 dL_law_263 ?_
  refine zwiV (q := (RX8, TX8, 37)) (As := [.int (xs (x3 + (1 : Int32)).toNatClampNeg), .int (xs (x3 + (2 : Int32)).toNatClampNeg)]) (rest := [.int r]) (r := r) (u := (d3, d9)) (wn := zW_78 cy h0 (ups (ups w0 3 c3) 28 c28) h1 (ups (ups w1 3 d3) 9 d9)) ⟨hx, hb, hml, hown, hts⟩ (kX8_set l dC dI cy h1 w1 (xs (x3 + (1 : Int32)).toNatClampNeg) (xs (x3 + (2 : Int32)).toNatClampNeg) H.size (r, d3, d9) hzM) mw_688 mw_689 mw_690 mw_9 mw_691 hdX8_set rfl rfl ⟨Nat.le_of_ble_eq_true rfl, Nat.le_of_ble_eq_true rfl⟩ hP hK hG hS 29 rfl rfl hD hA [29, 30, 31, 32, 33, 34, 35, 36, 37, 38, 39, 40, 41, 42] [0, 1, 2, 3, 4, 5, 6, 7, 8, 9, 10, 11, 12, 13, 14, 15, 16, 17, 18, 19, 20, 21, 22, 23, 24, 25, 26, 27, 28] [0, 1, 2, 3, 4, 5, 6, 7, 8, 9, 10, 11, 12, 13, 14, 15, 16, 17, 18, 19, 20, 21, 22, 23, 24, 25, 26, 27, 28, 29, 30, 31, 32, 33, 34, 35, 36, 37, 38, 39, 40, 41, 42] rfl rfl rfl rfl (by decide) rfl rfl rfl hl.1 rfl (Nat.le_of_ble_eq_true rfl) dL_law_264 ⟨Nat.le_refl 43, Nat.le_refl 1370⟩ (fun H locs hP hD hS => ?_)
  refine lv_icmp_eq (tgt := 899) hx hb dL_law_267 (by decide) (fun hc => ?_) (fun hc => ?_)
  · exact kk _ _ H locs ls hR1 hP hD hS hl
  · exact absurd rfl hc
set_option maxHeartbeats 4000000 in
set_option maxRecDepth 100000 in
theorem lc_4 {p : Program} {l : Launch} {e : Env} {s : State} {m : MethodId} {below : List Frame} {meth : Method} {c : Code} {dC : Nat → ClassId} {dI : Nat → Nat → Nat} {cy : ClassId} {b L : Nat} {xs : Nat → Int32} (C0 : lw_At p s m meth c b L xs) (hK : va_K (dC, dI) vwCl [(cy, .int)] s) (hG : GL (fun q : Nat => s.heap.size ≤ q) s) (x3 : Int32) (hi1 : vp_in (x3 + (1 : Int32)) L) (hi2 : vp_in (x3 + (2 : Int32)) L) (hi3 : vp_in (x3 + (3 : Int32)) L) (n : Nat) (h0 h1 : Nat → Nat) (w0 w1 : Nat → Nat → Int32) (hn : n < 1000) (hR : zR n w0 w1) (kk : ∀ (v0 v1 : Nat → Nat → Int32) (H : Heap) (locs : List Loc) (ls : Array Slot), zR (n + 1) v0 v1 → va_P (dC, dI) vwCl (zW_78 cy h0 v0 h1 v1) H → va_D (fun q : Nat => s.heap.size ≤ q) (zW_78 cy h0 v0 h1 v1) → va_S (fun q : Nat => s.heap.size ≤ q) s.heap H locs → lv_has ls 4 [(0, .ref b), (1, .ref (h0 0)), (2, .ref (h1 0)), (3, .int x3)] → W p l e room_1 s m #[Value.ref b] below meth c H locs 43 1370 (lw_Z below #[Value.ref b] s) (F0 m 899 ls [])) (H : Heap) (locs : List Loc) (ls : Array Slot) (hP : va_P (dC, dI) vwCl (zW_78 cy h0 w0 h1 w1) H) (hD : va_D (fun q : Nat => s.heap.size ≤ q) (zW_78 cy h0 w0 h1 w1)) (hS : va_S (fun q : Nat => s.heap.size ≤ q) s.heap H locs) (hl : lv_has ls 4 [(0, .ref b), (1, .ref (h0 0)), (2, .ref (h1 0)), (3, .int x3)]) : W p l e room_1 s m #[Value.ref b] below meth c H locs 43 1370 (lw_Z below #[Value.ref b] s) (F0 m 272 ls []) := by
  obtain ⟨hx, hb, hr, hml, hown, hts0, hX, hbl, hlocks, hgv⟩ := C0
  have hts : ∀ w ∈ wsA, w.before #[Value.ref b] s = true := fun w h => hts0 w (wa_of h)
  have hown : s.vm.findClass RL = some m.cls := hown
  have hA : ∀ q : Nat, s.heap.size ≤ q → (fun q : Nat => s.heap.size ≤ q) q := fun _ h => h
  have hbA : ¬ (fun q : Nat => s.heap.size ≤ q) b := Nat.not_le.mpr hbl
  obtain ⟨r, c6, c7, c8, c28, d0, d4, d5, d9, hzE, hzM, hR1⟩ := sim_wind hn hR (xs (x3 + (1 : Int32)).toNatClampNeg) (xs (x3 + (2 : Int32)).toNatClampNeg)
  refine lv_aload_n hx hb dL_law_272 rfl (lv_at hl 1 rfl) ?_
  refine lv_aload_n hx hb dL_law_273 rfl (lv_at hl 0 rfl) ?_
  refine lv_iload_n hx hb dL_law_274 rfl (lv_at hl 3 rfl) ?_
  refine lv_iconst (v := (1 : Int32)) hx hb dL_law_275 (by decide) ?_
  refine lv_iadd hx hb dL_law_276 ?_
  refine va_sld hx hb hX hbl hbA hS hi1 dL_law_277 ?_
  refine lv_aload_n hx hb dL_law_278 rfl (lv_at hl 0 rfl) ?_
  refine lv_iload_n hx hb dL_law_279 rfl (lv_at hl 3 rfl) ?_
  refine lv_iconst (v := (2 : Int32)) hx hb dL_law_280 (by decide) ?_
  refine lv_iadd hx hb dL_law_281 ?_
  refine va_sld hx hb hX hbl hbA hS hi2 dL_law_282 ?_
  refine zwiV (q := (RX7, TX7, 10)) (As := [.int (xs (x3 + (1 : Int32)).toNatClampNeg), .int (xs (x3 + (2 : Int32)).toNatClampNeg)]) (rest := []) (r := r) (u := (c6, c7, c8, c28)) (wn := zW_78 cy h0 (ups (ups (ups (ups w0 6 c6) 7 c7) 8 c8) 28 c28) h1 w1) ⟨hx, hb, hml, hown, hts⟩ (kX7_wind l dC dI cy h0 w0 (xs (x3 + (1 : Int32)).toNatClampNeg) (xs (x3 + (2 : Int32)).toNatClampNeg) H.size (r, c6, c7, c8, c28) hzE) mw_231 mw_232 mw_233 mw_1 mw_234 hdX7_wind rfl rfl ⟨Nat.le_of_ble_eq_true rfl, Nat.le_of_ble_eq_true rfl⟩ hP hK hG hS 0 rfl rfl hD hA [0, 1, 2, 3, 4, 5, 6, 7, 8, 9, 10, 11, 12, 13, 14, 15, 16, 17, 18, 19, 20, 21, 22, 23, 24, 25, 26, 27, 28] [29, 30, 31, 32, 33, 34, 35, 36, 37, 38, 39, 40, 41, 42] [14, 15, 16, 17, 18, 19, 20, 21, 22, 23, 24, 25, 26, 27, 28, 29, 30, 31, 32, 33, 34, 35, 36, 37, 38, 39, 40, 41, 42, 0, 1, 2, 3, 4, 5, 6, 7, 8, 9, 10, 11, 12, 13] rfl rfl rfl rfl (by decide) rfl rfl rfl hl.1 rfl (Nat.le_of_ble_eq_true rfl) dL_law_283 ⟨Nat.le_refl 43, Nat.le_refl 1370⟩ (fun H locs hP hD hS => ?_)
  refine lv_aload_n hx hb dL_law_286 rfl (lv_at hl 2 rfl) ?_
  refine lv_aload_n hx hb dL_law_287 rfl (lv_at hl 0 rfl) ?_
  refine lv_iload_n hx hb dL_law_288 rfl (lv_at hl 3 rfl) ?_
  refine lv_iconst (v := (1 : Int32)) hx hb dL_law_289 (by decide) ?_
  refine lv_iadd hx hb dL_law_290 ?_
  refine va_sld hx hb hX hbl hbA hS hi1 dL_law_291 ?_
  refine lv_aload_n hx hb dL_law_292 rfl (lv_at hl 0 rfl) ?_
  refine lv_iload_n hx hb dL_law_293 rfl (lv_at hl 3 rfl) ?_
  refine lv_iconst (v := (2 : Int32)) hx hb dL_law_294 (by decide) ?_
  refine lv_iadd hx hb dL_law_295 ?_
  refine va_sld hx hb hX hbl hbA hS hi2 dL_law_296 ?_
  refine zwiV (q := (RX8, TX8, 37)) (As := [.int (xs (x3 + (1 : Int32)).toNatClampNeg), .int (xs (x3 + (2 : Int32)).toNatClampNeg)]) (rest := [.int r]) (r := r) (u := (d0, d4, d5, d9)) (wn := zW_78 cy h0 (ups (ups (ups (ups w0 6 c6) 7 c7) 8 c8) 28 c28) h1 (ups (ups (ups (ups w1 0 d0) 4 d4) 5 d5) 9 d9)) ⟨hx, hb, hml, hown, hts⟩ (kX8_wind l dC dI cy h1 w1 (xs (x3 + (1 : Int32)).toNatClampNeg) (xs (x3 + (2 : Int32)).toNatClampNeg) H.size (r, d0, d4, d5, d9) hzM) mw_692 mw_693 mw_694 mw_9 mw_695 hdX8_wind rfl rfl ⟨Nat.le_of_ble_eq_true rfl, Nat.le_of_ble_eq_true rfl⟩ hP hK hG hS 29 rfl rfl hD hA [29, 30, 31, 32, 33, 34, 35, 36, 37, 38, 39, 40, 41, 42] [0, 1, 2, 3, 4, 5, 6, 7, 8, 9, 10, 11, 12, 13, 14, 15, 16, 17, 18, 19, 20, 21, 22, 23, 24, 25, 26, 27, 28] [0, 1, 2, 3, 4, 5, 6, 7, 8, 9, 10, 11, 12, 13, 14, 15, 16, 17, 18, 19, 20, 21, 22, 23, 24, 25, 26, 27, 28, 29, 30, 31, 32, 33, 34, 35, 36, 37, 38, 39, 40, 41, 42] rfl rfl rfl rfl (by decide) rfl rfl rfl hl.1 rfl (Nat.le_of_ble_eq_true rfl) dL_law_297 ⟨Nat.le_refl 43, Nat.le_refl 1370⟩ (fun H locs hP hD hS => ?_)
  refine lv_icmp_eq (tgt := 899) hx hb dL_law_300 (by decide) (fun hc => ?_) (fun hc => ?_)
  · exact kk _ _ H locs ls hR1 hP hD hS hl
  · exact absurd rfl hc
set_option maxHeartbeats 4000000 in
set_option maxRecDepth 100000 in
theorem lc_5 {p : Program} {l : Launch} {e : Env} {s : State} {m : MethodId} {below : List Frame} {meth : Method} {c : Code} {dC : Nat → ClassId} {dI : Nat → Nat → Nat} {cy : ClassId} {b L : Nat} {xs : Nat → Int32} (C0 : lw_At p s m meth c b L xs) (hK : va_K (dC, dI) vwCl [(cy, .int)] s) (hG : GL (fun q : Nat => s.heap.size ≤ q) s) (x3 : Int32) (hi1 : vp_in (x3 + (1 : Int32)) L) (hi2 : vp_in (x3 + (2 : Int32)) L) (hi3 : vp_in (x3 + (3 : Int32)) L) (n : Nat) (h0 h1 : Nat → Nat) (w0 w1 : Nat → Nat → Int32) (hn : n < 1000) (hR : zR n w0 w1) (kk : ∀ (v0 v1 : Nat → Nat → Int32) (H : Heap) (locs : List Loc) (ls : Array Slot), zR (n + 1) v0 v1 → va_P (dC, dI) vwCl (zW_78 cy h0 v0 h1 v1) H → va_D (fun q : Nat => s.heap.size ≤ q) (zW_78 cy h0 v0 h1 v1) → va_S (fun q : Nat => s.heap.size ≤ q) s.heap H locs → lv_has ls 4 [(0, .ref b), (1, .ref (h0 0)), (2, .ref (h1 0)), (3, .int x3)] → W p l e room_1 s m #[Value.ref b] below meth c H locs 43 1370 (lw_Z below #[Value.ref b] s) (F0 m 899 ls [])) (H : Heap) (locs : List Loc) (ls : Array Slot) (hP : va_P (dC, dI) vwCl (zW_78 cy h0 w0 h1 w1) H) (hD : va_D (fun q : Nat => s.heap.size ≤ q) (zW_78 cy h0 w0 h1 w1)) (hS : va_S (fun q : Nat => s.heap.size ≤ q) s.heap H locs) (hl : lv_has ls 4 [(0, .ref b), (1, .ref (h0 0)), (2, .ref (h1 0)), (3, .int x3)]) : W p l e room_1 s m #[Value.ref b] below meth c H locs 43 1370 (lw_Z below #[Value.ref b] s) (F0 m 305 ls []) := by
  obtain ⟨hx, hb, hr, hml, hown, hts0, hX, hbl, hlocks, hgv⟩ := C0
  have hts : ∀ w ∈ wsA, w.before #[Value.ref b] s = true := fun w h => hts0 w (wa_of h)
  have hown : s.vm.findClass RL = some m.cls := hown
  have hA : ∀ q : Nat, s.heap.size ≤ q → (fun q : Nat => s.heap.size ≤ q) q := fun _ h => h
  have hbA : ¬ (fun q : Nat => s.heap.size ≤ q) b := Nat.not_le.mpr hbl
  obtain ⟨r, c9, c10, c11, c28, d0, d6, d7, d9, hzE, hzM, hR1⟩ := sim_tide hn hR (xs (x3 + (1 : Int32)).toNatClampNeg) (xs (x3 + (2 : Int32)).toNatClampNeg)
  refine lv_aload_n hx hb dL_law_305 rfl (lv_at hl 1 rfl) ?_
  refine lv_aload_n hx hb dL_law_306 rfl (lv_at hl 0 rfl) ?_
  refine lv_iload_n hx hb dL_law_307 rfl (lv_at hl 3 rfl) ?_
  refine lv_iconst (v := (1 : Int32)) hx hb dL_law_308 (by decide) ?_
  refine lv_iadd hx hb dL_law_309 ?_
  refine va_sld hx hb hX hbl hbA hS hi1 dL_law_310 ?_
  refine lv_aload_n hx hb dL_law_311 rfl (lv_at hl 0 rfl) ?_
  refine lv_iload_n hx hb dL_law_312 rfl (lv_at hl 3 rfl) ?_
  refine lv_iconst (v := (2 : Int32)) hx hb dL_law_313 (by decide) ?_
  refine lv_iadd hx hb dL_law_314 ?_
  refine va_sld hx hb hX hbl hbA hS hi2 dL_law_315 ?_
  refine zwiV (q := (RX7, TX7, 10)) (As := [.int (xs (x3 + (1 : Int32)).toNatClampNeg), .int (xs (x3 + (2 : Int32)).toNatClampNeg)]) (rest := []) (r := r) (u := (c9, c10, c11, c28)) (wn := zW_78 cy h0 (ups (ups (ups (ups w0 9 c9) 10 c10) 11 c11) 28 c28) h1 w1) ⟨hx, hb, hml, hown, hts⟩ (kX7_tide l dC dI cy h0 w0 (xs (x3 + (1 : Int32)).toNatClampNeg) (xs (x3 + (2 : Int32)).toNatClampNeg) H.size (r, c9, c10, c11, c28) hzE) mw_246 mw_247 mw_248 mw_1 mw_249 hdX7_tide rfl rfl ⟨Nat.le_of_ble_eq_true rfl, Nat.le_of_ble_eq_true rfl⟩ hP hK hG hS 0 rfl rfl hD hA [0, 1, 2, 3, 4, 5, 6, 7, 8, 9, 10, 11, 12, 13, 14, 15, 16, 17, 18, 19, 20, 21, 22, 23, 24, 25, 26, 27, 28] [29, 30, 31, 32, 33, 34, 35, 36, 37, 38, 39, 40, 41, 42] [14, 15, 16, 17, 18, 19, 20, 21, 22, 23, 24, 25, 26, 27, 28, 29, 30, 31, 32, 33, 34, 35, 36, 37, 38, 39, 40, 41, 42, 0, 1, 2, 3, 4, 5, 6, 7, 8, 9, 10, 11, 12, 13] rfl rfl rfl rfl (by decide) rfl rfl rfl hl.1 rfl (Nat.le_of_ble_eq_true rfl) dL_law_316 ⟨Nat.le_refl 43, Nat.le_refl 1370⟩ (fun H locs hP hD hS => ?_)
  refine lv_aload_n hx hb dL_law_319 rfl (lv_at hl 2 rfl) ?_
  refine lv_aload_n hx hb dL_law_320 rfl (lv_at hl 0 rfl) ?_
  refine lv_iload_n hx hb dL_law_321 rfl (lv_at hl 3 rfl) ?_
  refine lv_iconst (v := (1 : Int32)) hx hb dL_law_322 (by decide) ?_
  refine lv_iadd hx hb dL_law_323 ?_
  refine va_sld hx hb hX hbl hbA hS hi1 dL_law_324 ?_
  refine lv_aload_n hx hb dL_law_325 rfl (lv_at hl 0 rfl) ?_
  refine lv_iload_n hx hb dL_law_326 rfl (lv_at hl 3 rfl) ?_
  refine lv_iconst (v := (2 : Int32)) hx hb dL_law_327 (by decide) ?_
  refine lv_iadd hx hb dL_law_328 ?_
  refine va_sld hx hb hX hbl hbA hS hi2 dL_law_329 ?_
  refine zwiV (q := (RX8, TX8, 37)) (As := [.int (xs (x3 + (1 : Int32)).toNatClampNeg), .int (xs (x3 + (2 : Int32)).toNatClampNeg)]) (rest := [.int r]) (r := r) (u := (d0, d6, d7, d9)) (wn := zW_78 cy h0 (ups (ups (ups (ups w0 9 c9) 10 c10) 11 c11) 28 c28) h1 (ups (ups (ups (ups w1 0 d0) 6 d6) 7 d7) 9 d9)) ⟨hx, hb, hml, hown, hts⟩ (kX8_tide l dC dI cy h1 w1 (xs (x3 + (1 : Int32)).toNatClampNeg) (xs (x3 + (2 : Int32)).toNatClampNeg) H.size (r, d0, d6, d7, d9) hzM) mw_699 mw_700 mw_701 mw_9 mw_702 hdX8_tide rfl rfl ⟨Nat.le_of_ble_eq_true rfl, Nat.le_of_ble_eq_true rfl⟩ hP hK hG hS 29 rfl rfl hD hA [29, 30, 31, 32, 33, 34, 35, 36, 37, 38, 39, 40, 41, 42] [0, 1, 2, 3, 4, 5, 6, 7, 8, 9, 10, 11, 12, 13, 14, 15, 16, 17, 18, 19, 20, 21, 22, 23, 24, 25, 26, 27, 28] [0, 1, 2, 3, 4, 5, 6, 7, 8, 9, 10, 11, 12, 13, 14, 15, 16, 17, 18, 19, 20, 21, 22, 23, 24, 25, 26, 27, 28, 29, 30, 31, 32, 33, 34, 35, 36, 37, 38, 39, 40, 41, 42] rfl rfl rfl rfl (by decide) rfl rfl rfl hl.1 rfl (Nat.le_of_ble_eq_true rfl) dL_law_330 ⟨Nat.le_refl 43, Nat.le_refl 1370⟩ (fun H locs hP hD hS => ?_)
  refine lv_icmp_eq (tgt := 899) hx hb dL_law_333 (by decide) (fun hc => ?_) (fun hc => ?_)
  · exact kk _ _ H locs ls hR1 hP hD hS hl
  · exact absurd rfl hc
set_option maxHeartbeats 4000000 in
set_option maxRecDepth 100000 in
theorem lc_6 {p : Program} {l : Launch} {e : Env} {s : State} {m : MethodId} {below : List Frame} {meth : Method} {c : Code} {dC : Nat → ClassId} {dI : Nat → Nat → Nat} {cy : ClassId} {b L : Nat} {xs : Nat → Int32} (C0 : lw_At p s m meth c b L xs) (hK : va_K (dC, dI) vwCl [(cy, .int)] s) (hG : GL (fun q : Nat => s.heap.size ≤ q) s) (x3 : Int32) (hi1 : vp_in (x3 + (1 : Int32)) L) (hi2 : vp_in (x3 + (2 : Int32)) L) (hi3 : vp_in (x3 + (3 : Int32)) L) (n : Nat) (h0 h1 : Nat → Nat) (w0 w1 : Nat → Nat → Int32) (hn : n < 1000) (hR : zR n w0 w1) (kk : ∀ (v0 v1 : Nat → Nat → Int32) (H : Heap) (locs : List Loc) (ls : Array Slot), zR (n + 1) v0 v1 → va_P (dC, dI) vwCl (zW_78 cy h0 v0 h1 v1) H → va_D (fun q : Nat => s.heap.size ≤ q) (zW_78 cy h0 v0 h1 v1) → va_S (fun q : Nat => s.heap.size ≤ q) s.heap H locs → lv_has ls 4 [(0, .ref b), (1, .ref (h0 0)), (2, .ref (h1 0)), (3, .int x3)] → W p l e room_1 s m #[Value.ref b] below meth c H locs 43 1370 (lw_Z below #[Value.ref b] s) (F0 m 899 ls [])) (H : Heap) (locs : List Loc) (ls : Array Slot) (hP : va_P (dC, dI) vwCl (zW_78 cy h0 w0 h1 w1) H) (hD : va_D (fun q : Nat => s.heap.size ≤ q) (zW_78 cy h0 w0 h1 w1)) (hS : va_S (fun q : Nat => s.heap.size ≤ q) s.heap H locs) (hl : lv_has ls 4 [(0, .ref b), (1, .ref (h0 0)), (2, .ref (h1 0)), (3, .int x3)]) : W p l e room_1 s m #[Value.ref b] below meth c H locs 43 1370 (lw_Z below #[Value.ref b] s) (F0 m 338 ls []) := by
  obtain ⟨hx, hb, hr, hml, hown, hts0, hX, hbl, hlocks, hgv⟩ := C0
  have hts : ∀ w ∈ wsA, w.before #[Value.ref b] s = true := fun w h => hts0 w (wa_of h)
  have hown : s.vm.findClass RL = some m.cls := hown
  have hA : ∀ q : Nat, s.heap.size ≤ q → (fun q : Nat => s.heap.size ≤ q) q := fun _ h => h
  have hbA : ¬ (fun q : Nat => s.heap.size ≤ q) b := Nat.not_le.mpr hbl
  obtain ⟨r, c12, c28, d0, d9, hzE, hzM, hR1⟩ := sim_lays hn hR (xs (x3 + (1 : Int32)).toNatClampNeg)
  refine lv_aload_n hx hb dL_law_338 rfl (lv_at hl 1 rfl) ?_
  refine lv_aload_n hx hb dL_law_339 rfl (lv_at hl 0 rfl) ?_
  refine lv_iload_n hx hb dL_law_340 rfl (lv_at hl 3 rfl) ?_
  refine lv_iconst (v := (1 : Int32)) hx hb dL_law_341 (by decide) ?_
  refine lv_iadd hx hb dL_law_342 ?_
  refine va_sld hx hb hX hbl hbA hS hi1 dL_law_343 ?_
  refine zwiV (q := (RX7, TX7, 10)) (As := [.int (xs (x3 + (1 : Int32)).toNatClampNeg)]) (rest := []) (r := r) (u := (c12, c28)) (wn := zW_78 cy h0 (ups (ups w0 12 c12) 28 c28) h1 w1) ⟨hx, hb, hml, hown, hts⟩ (kX7_lays l dC dI cy h0 w0 (xs (x3 + (1 : Int32)).toNatClampNeg) H.size (r, c12, c28) hzE) mw_250 mw_251 mw_252 mw_1 mw_253 hdX7_lays rfl rfl ⟨Nat.le_of_ble_eq_true rfl, Nat.le_of_ble_eq_true rfl⟩ hP hK hG hS 0 rfl rfl hD hA [0, 1, 2, 3, 4, 5, 6, 7, 8, 9, 10, 11, 12, 13, 14, 15, 16, 17, 18, 19, 20, 21, 22, 23, 24, 25, 26, 27, 28] [29, 30, 31, 32, 33, 34, 35, 36, 37, 38, 39, 40, 41, 42] [14, 15, 16, 17, 18, 19, 20, 21, 22, 23, 24, 25, 26, 27, 28, 29, 30, 31, 32, 33, 34, 35, 36, 37, 38, 39, 40, 41, 42, 0, 1, 2, 3, 4, 5, 6, 7, 8, 9, 10, 11, 12, 13] rfl rfl rfl rfl (by decide) rfl rfl rfl hl.1 rfl (Nat.le_of_ble_eq_true rfl) dL_law_344 ⟨Nat.le_refl 43, Nat.le_refl 1370⟩ (fun H locs hP hD hS => ?_)
  refine lv_aload_n hx hb dL_law_347 rfl (lv_at hl 2 rfl) ?_
  refine lv_aload_n hx hb dL_law_348 rfl (lv_at hl 0 rfl) ?_
  refine lv_iload_n hx hb dL_law_349 rfl (lv_at hl 3 rfl) ?_
  refine lv_iconst (v := (1 : Int32)) hx hb dL_law_350 (by decide) ?_
  refine lv_iadd hx hb dL_law_351 ?_
  refine va_sld hx hb hX hbl hbA hS hi1 dL_law_352 ?_
  refine zwiV (q := (RX8, TX8, 37)) (As := [.int (xs (x3 + (1 : Int32)).toNatClampNeg)]) (rest := [.int r]) (r := r) (u := (d0, d9)) (wn := zW_78 cy h0 (ups (ups w0 12 c12) 28 c28) h1 (ups (ups w1 0 d0) 9 d9)) ⟨hx, hb, hml, hown, hts⟩ (kX8_lays l dC dI cy h1 w1 (xs (x3 + (1 : Int32)).toNatClampNeg) H.size (r, d0, d9) hzM) mw_703 mw_704 mw_705 mw_9 mw_706 hdX8_lays rfl rfl ⟨Nat.le_of_ble_eq_true rfl, Nat.le_of_ble_eq_true rfl⟩ hP hK hG hS 29 rfl rfl hD hA [29, 30, 31, 32, 33, 34, 35, 36, 37, 38, 39, 40, 41, 42] [0, 1, 2, 3, 4, 5, 6, 7, 8, 9, 10, 11, 12, 13, 14, 15, 16, 17, 18, 19, 20, 21, 22, 23, 24, 25, 26, 27, 28] [0, 1, 2, 3, 4, 5, 6, 7, 8, 9, 10, 11, 12, 13, 14, 15, 16, 17, 18, 19, 20, 21, 22, 23, 24, 25, 26, 27, 28, 29, 30, 31, 32, 33, 34, 35, 36, 37, 38, 39, 40, 41, 42] rfl rfl rfl rfl (by decide) rfl rfl rfl hl.1 rfl (Nat.le_of_ble_eq_true rfl) dL_law_353 ⟨Nat.le_refl 43, Nat.le_refl 1370⟩ (fun H locs hP hD hS => ?_)
  refine lv_icmp_eq (tgt := 899) hx hb dL_law_356 (by decide) (fun hc => ?_) (fun hc => ?_)
  · exact kk _ _ H locs ls hR1 hP hD hS hl
  · exact absurd rfl hc
set_option maxHeartbeats 4000000 in
set_option maxRecDepth 100000 in
theorem lc_7 {p : Program} {l : Launch} {e : Env} {s : State} {m : MethodId} {below : List Frame} {meth : Method} {c : Code} {dC : Nat → ClassId} {dI : Nat → Nat → Nat} {cy : ClassId} {b L : Nat} {xs : Nat → Int32} (C0 : lw_At p s m meth c b L xs) (hK : va_K (dC, dI) vwCl [(cy, .int)] s) (hG : GL (fun q : Nat => s.heap.size ≤ q) s) (x3 : Int32) (hi1 : vp_in (x3 + (1 : Int32)) L) (hi2 : vp_in (x3 + (2 : Int32)) L) (hi3 : vp_in (x3 + (3 : Int32)) L) (n : Nat) (h0 h1 : Nat → Nat) (w0 w1 : Nat → Nat → Int32) (hn : n < 1000) (hR : zR n w0 w1) (kk : ∀ (v0 v1 : Nat → Nat → Int32) (H : Heap) (locs : List Loc) (ls : Array Slot), zR (n + 1) v0 v1 → va_P (dC, dI) vwCl (zW_78 cy h0 v0 h1 v1) H → va_D (fun q : Nat => s.heap.size ≤ q) (zW_78 cy h0 v0 h1 v1) → va_S (fun q : Nat => s.heap.size ≤ q) s.heap H locs → lv_has ls 4 [(0, .ref b), (1, .ref (h0 0)), (2, .ref (h1 0)), (3, .int x3)] → W p l e room_1 s m #[Value.ref b] below meth c H locs 43 1370 (lw_Z below #[Value.ref b] s) (F0 m 899 ls [])) (H : Heap) (locs : List Loc) (ls : Array Slot) (hP : va_P (dC, dI) vwCl (zW_78 cy h0 w0 h1 w1) H) (hD : va_D (fun q : Nat => s.heap.size ≤ q) (zW_78 cy h0 w0 h1 w1)) (hS : va_S (fun q : Nat => s.heap.size ≤ q) s.heap H locs) (hl : lv_has ls 4 [(0, .ref b), (1, .ref (h0 0)), (2, .ref (h1 0)), (3, .int x3)]) : W p l e room_1 s m #[Value.ref b] below meth c H locs 43 1370 (lw_Z below #[Value.ref b] s) (F0 m 361 ls []) := by
  obtain ⟨hx, hb, hr, hml, hown, hts0, hX, hbl, hlocks, hgv⟩ := C0
  have hts : ∀ w ∈ wsA, w.before #[Value.ref b] s = true := fun w h => hts0 w (wa_of h)
  have hown : s.vm.findClass RL = some m.cls := hown
  have hA : ∀ q : Nat, s.heap.size ≤ q → (fun q : Nat => s.heap.size ≤ q) q := fun _ h => h
  have hbA : ¬ (fun q : Nat => s.heap.size ≤ q) b := Nat.not_le.mpr hbl
  obtain ⟨r, c28, d9, hzE, hzM, hR1⟩ := sim_now hn hR (xs (x3 + (1 : Int32)).toNatClampNeg)
  refine lv_aload_n hx hb dL_law_361 rfl (lv_at hl 1 rfl) ?_
  refine lv_aload_n hx hb dL_law_362 rfl (lv_at hl 0 rfl) ?_
  refine lv_iload_n hx hb dL_law_363 rfl (lv_at hl 3 rfl) ?_
  refine lv_iconst (v := (1 : Int32)) hx hb dL_law_364 (by decide) ?_
  refine lv_iadd hx hb dL_law_365 ?_
  refine va_sld hx hb hX hbl hbA hS hi1 dL_law_366 ?_
  refine zwiV (q := (RX7, TX7, 10)) (As := [.int (xs (x3 + (1 : Int32)).toNatClampNeg)]) (rest := []) (r := r) (u := c28) (wn := zW_78 cy h0 (ups w0 28 c28) h1 w1) ⟨hx, hb, hml, hown, hts⟩ (kX7_now l dC dI cy h0 w0 (xs (x3 + (1 : Int32)).toNatClampNeg) H.size (r, c28) hzE) mw_277 mw_278 mw_279 mw_1 mw_280 hdX7_now rfl rfl ⟨Nat.le_of_ble_eq_true rfl, Nat.le_of_ble_eq_true rfl⟩ hP hK hG hS 0 rfl rfl hD hA [0, 1, 2, 3, 4, 5, 6, 7, 8, 9, 10, 11, 12, 13, 14, 15, 16, 17, 18, 19, 20, 21, 22, 23, 24, 25, 26, 27, 28] [29, 30, 31, 32, 33, 34, 35, 36, 37, 38, 39, 40, 41, 42] [14, 15, 16, 17, 18, 19, 20, 21, 22, 23, 24, 25, 26, 27, 28, 29, 30, 31, 32, 33, 34, 35, 36, 37, 38, 39, 40, 41, 42, 0, 1, 2, 3, 4, 5, 6, 7, 8, 9, 10, 11, 12, 13] rfl rfl rfl rfl (by decide) rfl rfl rfl hl.1 rfl (Nat.le_of_ble_eq_true rfl) dL_law_367 ⟨Nat.le_refl 43, Nat.le_refl 1370⟩ (fun H locs hP hD hS => ?_)
  refine lv_aload_n hx hb dL_law_370 rfl (lv_at hl 2 rfl) ?_
  refine lv_aload_n hx hb dL_law_371 rfl (lv_at hl 0 rfl) ?_
  refine lv_iload_n hx hb dL_law_372 rfl (lv_at hl 3 rfl) ?_
  refine lv_iconst (v := (1 : Int32)) hx hb dL_law_373 (by decide) ?_
  refine lv_iadd hx hb dL_law_374 ?_
  refine va_sld hx hb hX hbl hbA hS hi1 dL_law_375 ?_
  refine zwiV (q := (RX8, TX8, 37)) (As := [.int (xs (x3 + (1 : Int32)).toNatClampNeg)]) (rest := [.int r]) (r := r) (u := d9) (wn := zW_78 cy h0 (ups w0 28 c28) h1 (ups w1 9 d9)) ⟨hx, hb, hml, hown, hts⟩ (kX8_now l dC dI cy h1 w1 (xs (x3 + (1 : Int32)).toNatClampNeg) H.size (r, d9) hzM) mw_719 mw_720 mw_721 mw_9 mw_722 hdX8_now rfl rfl ⟨Nat.le_of_ble_eq_true rfl, Nat.le_of_ble_eq_true rfl⟩ hP hK hG hS 29 rfl rfl hD hA [29, 30, 31, 32, 33, 34, 35, 36, 37, 38, 39, 40, 41, 42] [0, 1, 2, 3, 4, 5, 6, 7, 8, 9, 10, 11, 12, 13, 14, 15, 16, 17, 18, 19, 20, 21, 22, 23, 24, 25, 26, 27, 28] [0, 1, 2, 3, 4, 5, 6, 7, 8, 9, 10, 11, 12, 13, 14, 15, 16, 17, 18, 19, 20, 21, 22, 23, 24, 25, 26, 27, 28, 29, 30, 31, 32, 33, 34, 35, 36, 37, 38, 39, 40, 41, 42] rfl rfl rfl rfl (by decide) rfl rfl rfl hl.1 rfl (Nat.le_of_ble_eq_true rfl) dL_law_376 ⟨Nat.le_refl 43, Nat.le_refl 1370⟩ (fun H locs hP hD hS => ?_)
  refine lv_icmp_eq (tgt := 899) hx hb dL_law_379 (by decide) (fun hc => ?_) (fun hc => ?_)
  · exact kk _ _ H locs ls hR1 hP hD hS hl
  · exact absurd rfl hc
set_option maxHeartbeats 4000000 in
set_option maxRecDepth 100000 in
theorem lc_8 {p : Program} {l : Launch} {e : Env} {s : State} {m : MethodId} {below : List Frame} {meth : Method} {c : Code} {dC : Nat → ClassId} {dI : Nat → Nat → Nat} {cy : ClassId} {b L : Nat} {xs : Nat → Int32} (C0 : lw_At p s m meth c b L xs) (hK : va_K (dC, dI) vwCl [(cy, .int)] s) (hG : GL (fun q : Nat => s.heap.size ≤ q) s) (x3 : Int32) (hi1 : vp_in (x3 + (1 : Int32)) L) (hi2 : vp_in (x3 + (2 : Int32)) L) (hi3 : vp_in (x3 + (3 : Int32)) L) (n : Nat) (h0 h1 : Nat → Nat) (w0 w1 : Nat → Nat → Int32) (hn : n < 1000) (hR : zR n w0 w1) (kk : ∀ (v0 v1 : Nat → Nat → Int32) (H : Heap) (locs : List Loc) (ls : Array Slot), zR (n + 1) v0 v1 → va_P (dC, dI) vwCl (zW_78 cy h0 v0 h1 v1) H → va_D (fun q : Nat => s.heap.size ≤ q) (zW_78 cy h0 v0 h1 v1) → va_S (fun q : Nat => s.heap.size ≤ q) s.heap H locs → lv_has ls 4 [(0, .ref b), (1, .ref (h0 0)), (2, .ref (h1 0)), (3, .int x3)] → W p l e room_1 s m #[Value.ref b] below meth c H locs 43 1370 (lw_Z below #[Value.ref b] s) (F0 m 899 ls [])) (H : Heap) (locs : List Loc) (ls : Array Slot) (hP : va_P (dC, dI) vwCl (zW_78 cy h0 w0 h1 w1) H) (hD : va_D (fun q : Nat => s.heap.size ≤ q) (zW_78 cy h0 w0 h1 w1)) (hS : va_S (fun q : Nat => s.heap.size ≤ q) s.heap H locs) (hl : lv_has ls 4 [(0, .ref b), (1, .ref (h0 0)), (2, .ref (h1 0)), (3, .int x3)]) : W p l e room_1 s m #[Value.ref b] below meth c H locs 43 1370 (lw_Z below #[Value.ref b] s) (F0 m 384 ls []) := by
  obtain ⟨hx, hb, hr, hml, hown, hts0, hX, hbl, hlocks, hgv⟩ := C0
  have hts : ∀ w ∈ wsA, w.before #[Value.ref b] s = true := fun w h => hts0 w (wa_of h)
  have hown : s.vm.findClass RL = some m.cls := hown
  have hA : ∀ q : Nat, s.heap.size ≤ q → (fun q : Nat => s.heap.size ≤ q) q := fun _ h => h
  have hbA : ¬ (fun q : Nat => s.heap.size ≤ q) b := Nat.not_le.mpr hbl
  obtain ⟨r, c12, c28, d0, d9, hzE, hzM, hR1⟩ := sim_run hn hR (xs (x3 + (1 : Int32)).toNatClampNeg)
  refine lv_aload_n hx hb dL_law_384 rfl (lv_at hl 1 rfl) ?_
  refine lv_aload_n hx hb dL_law_385 rfl (lv_at hl 0 rfl) ?_
  refine lv_iload_n hx hb dL_law_386 rfl (lv_at hl 3 rfl) ?_
  refine lv_iconst (v := (1 : Int32)) hx hb dL_law_387 (by decide) ?_
  refine lv_iadd hx hb dL_law_388 ?_
  refine va_sld hx hb hX hbl hbA hS hi1 dL_law_389 ?_
  refine zwiV (q := (RX7, TX7, 10)) (As := [.int (xs (x3 + (1 : Int32)).toNatClampNeg)]) (rest := []) (r := r) (u := (c12, c28)) (wn := zW_78 cy h0 (ups (ups w0 12 c12) 28 c28) h1 w1) ⟨hx, hb, hml, hown, hts⟩ (kX7_run l dC dI cy h0 w0 (xs (x3 + (1 : Int32)).toNatClampNeg) H.size (r, c12, c28) hzE) mw_296 mw_297 mw_298 mw_1 mw_299 hdX7_run rfl rfl ⟨Nat.le_of_ble_eq_true rfl, Nat.le_of_ble_eq_true rfl⟩ hP hK hG hS 0 rfl rfl hD hA [0, 1, 2, 3, 4, 5, 6, 7, 8, 9, 10, 11, 12, 13, 14, 15, 16, 17, 18, 19, 20, 21, 22, 23, 24, 25, 26, 27, 28] [29, 30, 31, 32, 33, 34, 35, 36, 37, 38, 39, 40, 41, 42] [14, 15, 16, 17, 18, 19, 20, 21, 22, 23, 24, 25, 26, 27, 28, 29, 30, 31, 32, 33, 34, 35, 36, 37, 38, 39, 40, 41, 42, 0, 1, 2, 3, 4, 5, 6, 7, 8, 9, 10, 11, 12, 13] rfl rfl rfl rfl (by decide) rfl rfl rfl hl.1 rfl (Nat.le_of_ble_eq_true rfl) dL_law_390 ⟨Nat.le_refl 43, Nat.le_refl 1370⟩ (fun H locs hP hD hS => ?_)
  refine lv_aload_n hx hb dL_law_393 rfl (lv_at hl 2 rfl) ?_
  refine lv_aload_n hx hb dL_law_394 rfl (lv_at hl 0 rfl) ?_
  refine lv_iload_n hx hb dL_law_395 rfl (lv_at hl 3 rfl) ?_
  refine lv_iconst (v := (1 : Int32)) hx hb dL_law_396 (by decide) ?_
  refine lv_iadd hx hb dL_law_397 ?_
  refine va_sld hx hb hX hbl hbA hS hi1 dL_law_398 ?_
  refine zwiV (q := (RX8, TX8, 37)) (As := [.int (xs (x3 + (1 : Int32)).toNatClampNeg)]) (rest := [.int r]) (r := r) (u := (d0, d9)) (wn := zW_78 cy h0 (ups (ups w0 12 c12) 28 c28) h1 (ups (ups w1 0 d0) 9 d9)) ⟨hx, hb, hml, hown, hts⟩ (kX8_run l dC dI cy h1 w1 (xs (x3 + (1 : Int32)).toNatClampNeg) H.size (r, d0, d9) hzM) mw_730 mw_731 mw_732 mw_9 mw_733 hdX8_run rfl rfl ⟨Nat.le_of_ble_eq_true rfl, Nat.le_of_ble_eq_true rfl⟩ hP hK hG hS 29 rfl rfl hD hA [29, 30, 31, 32, 33, 34, 35, 36, 37, 38, 39, 40, 41, 42] [0, 1, 2, 3, 4, 5, 6, 7, 8, 9, 10, 11, 12, 13, 14, 15, 16, 17, 18, 19, 20, 21, 22, 23, 24, 25, 26, 27, 28] [0, 1, 2, 3, 4, 5, 6, 7, 8, 9, 10, 11, 12, 13, 14, 15, 16, 17, 18, 19, 20, 21, 22, 23, 24, 25, 26, 27, 28, 29, 30, 31, 32, 33, 34, 35, 36, 37, 38, 39, 40, 41, 42] rfl rfl rfl rfl (by decide) rfl rfl rfl hl.1 rfl (Nat.le_of_ble_eq_true rfl) dL_law_399 ⟨Nat.le_refl 43, Nat.le_refl 1370⟩ (fun H locs hP hD hS => ?_)
  refine lv_icmp_eq (tgt := 899) hx hb dL_law_402 (by decide) (fun hc => ?_) (fun hc => ?_)
  · exact kk _ _ H locs ls hR1 hP hD hS hl
  · exact absurd rfl hc
set_option maxHeartbeats 4000000 in
set_option maxRecDepth 100000 in
theorem lc_9 {p : Program} {l : Launch} {e : Env} {s : State} {m : MethodId} {below : List Frame} {meth : Method} {c : Code} {dC : Nat → ClassId} {dI : Nat → Nat → Nat} {cy : ClassId} {b L : Nat} {xs : Nat → Int32} (C0 : lw_At p s m meth c b L xs) (hK : va_K (dC, dI) vwCl [(cy, .int)] s) (hG : GL (fun q : Nat => s.heap.size ≤ q) s) (x3 : Int32) (hi1 : vp_in (x3 + (1 : Int32)) L) (hi2 : vp_in (x3 + (2 : Int32)) L) (hi3 : vp_in (x3 + (3 : Int32)) L) (n : Nat) (h0 h1 : Nat → Nat) (w0 w1 : Nat → Nat → Int32) (hn : n < 1000) (hR : zR n w0 w1) (kk : ∀ (v0 v1 : Nat → Nat → Int32) (H : Heap) (locs : List Loc) (ls : Array Slot), zR (n + 1) v0 v1 → va_P (dC, dI) vwCl (zW_78 cy h0 v0 h1 v1) H → va_D (fun q : Nat => s.heap.size ≤ q) (zW_78 cy h0 v0 h1 v1) → va_S (fun q : Nat => s.heap.size ≤ q) s.heap H locs → lv_has ls 4 [(0, .ref b), (1, .ref (h0 0)), (2, .ref (h1 0)), (3, .int x3)] → W p l e room_1 s m #[Value.ref b] below meth c H locs 43 1370 (lw_Z below #[Value.ref b] s) (F0 m 899 ls [])) (H : Heap) (locs : List Loc) (ls : Array Slot) (hP : va_P (dC, dI) vwCl (zW_78 cy h0 w0 h1 w1) H) (hD : va_D (fun q : Nat => s.heap.size ≤ q) (zW_78 cy h0 w0 h1 w1)) (hS : va_S (fun q : Nat => s.heap.size ≤ q) s.heap H locs) (hl : lv_has ls 4 [(0, .ref b), (1, .ref (h0 0)), (2, .ref (h1 0)), (3, .int x3)]) : W p l e room_1 s m #[Value.ref b] below meth c H locs 43 1370 (lw_Z below #[Value.ref b] s) (F0 m 407 ls []) := by
  obtain ⟨hx, hb, hr, hml, hown, hts0, hX, hbl, hlocks, hgv⟩ := C0
  have hts : ∀ w ∈ wsA, w.before #[Value.ref b] s = true := fun w h => hts0 w (wa_of h)
  have hown : s.vm.findClass RL = some m.cls := hown
  have hA : ∀ q : Nat, s.heap.size ≤ q → (fun q : Nat => s.heap.size ≤ q) q := fun _ h => h
  have hbA : ¬ (fun q : Nat => s.heap.size ≤ q) b := Nat.not_le.mpr hbl
  obtain ⟨r, c12, c28, d0, d9, hzE, hzM, hR1⟩ := sim_head hn hR (xs (x3 + (1 : Int32)).toNatClampNeg)
  refine lv_aload_n hx hb dL_law_407 rfl (lv_at hl 1 rfl) ?_
  refine lv_aload_n hx hb dL_law_408 rfl (lv_at hl 0 rfl) ?_
  refine lv_iload_n hx hb dL_law_409 rfl (lv_at hl 3 rfl) ?_
  refine lv_iconst (v := (1 : Int32)) hx hb dL_law_410 (by decide) ?_
  refine lv_iadd hx hb dL_law_411 ?_
  refine va_sld hx hb hX hbl hbA hS hi1 dL_law_412 ?_
  refine zwiV (q := (RX7, TX7, 10)) (As := [.int (xs (x3 + (1 : Int32)).toNatClampNeg)]) (rest := []) (r := r) (u := (c12, c28)) (wn := zW_78 cy h0 (ups (ups w0 12 c12) 28 c28) h1 w1) ⟨hx, hb, hml, hown, hts⟩ (kX7_head l dC dI cy h0 w0 (xs (x3 + (1 : Int32)).toNatClampNeg) H.size (r, c12, c28) hzE) mw_356 mw_357 mw_358 mw_1 mw_359 hdX7_head rfl rfl ⟨Nat.le_of_ble_eq_true rfl, Nat.le_of_ble_eq_true rfl⟩ hP hK hG hS 0 rfl rfl hD hA [0, 1, 2, 3, 4, 5, 6, 7, 8, 9, 10, 11, 12, 13, 14, 15, 16, 17, 18, 19, 20, 21, 22, 23, 24, 25, 26, 27, 28] [29, 30, 31, 32, 33, 34, 35, 36, 37, 38, 39, 40, 41, 42] [14, 15, 16, 17, 18, 19, 20, 21, 22, 23, 24, 25, 26, 27, 28, 29, 30, 31, 32, 33, 34, 35, 36, 37, 38, 39, 40, 41, 42, 0, 1, 2, 3, 4, 5, 6, 7, 8, 9, 10, 11, 12, 13] rfl rfl rfl rfl (by decide) rfl rfl rfl hl.1 rfl (Nat.le_of_ble_eq_true rfl) dL_law_413 ⟨Nat.le_refl 43, Nat.le_refl 1370⟩ (fun H locs hP hD hS => ?_)
  refine lv_aload_n hx hb dL_law_416 rfl (lv_at hl 2 rfl) ?_
  refine lv_aload_n hx hb dL_law_417 rfl (lv_at hl 0 rfl) ?_
  refine lv_iload_n hx hb dL_law_418 rfl (lv_at hl 3 rfl) ?_
  refine lv_iconst (v := (1 : Int32)) hx hb dL_law_419 (by decide) ?_
  refine lv_iadd hx hb dL_law_420 ?_
  refine va_sld hx hb hX hbl hbA hS hi1 dL_law_421 ?_
  refine zwiV (q := (RX8, TX8, 37)) (As := [.int (xs (x3 + (1 : Int32)).toNatClampNeg)]) (rest := [.int r]) (r := r) (u := (d0, d9)) (wn := zW_78 cy h0 (ups (ups w0 12 c12) 28 c28) h1 (ups (ups w1 0 d0) 9 d9)) ⟨hx, hb, hml, hown, hts⟩ (kX8_head l dC dI cy h1 w1 (xs (x3 + (1 : Int32)).toNatClampNeg) H.size (r, d0, d9) hzM) mw_753 mw_754 mw_755 mw_9 mw_756 hdX8_head rfl rfl ⟨Nat.le_of_ble_eq_true rfl, Nat.le_of_ble_eq_true rfl⟩ hP hK hG hS 29 rfl rfl hD hA [29, 30, 31, 32, 33, 34, 35, 36, 37, 38, 39, 40, 41, 42] [0, 1, 2, 3, 4, 5, 6, 7, 8, 9, 10, 11, 12, 13, 14, 15, 16, 17, 18, 19, 20, 21, 22, 23, 24, 25, 26, 27, 28] [0, 1, 2, 3, 4, 5, 6, 7, 8, 9, 10, 11, 12, 13, 14, 15, 16, 17, 18, 19, 20, 21, 22, 23, 24, 25, 26, 27, 28, 29, 30, 31, 32, 33, 34, 35, 36, 37, 38, 39, 40, 41, 42] rfl rfl rfl rfl (by decide) rfl rfl rfl hl.1 rfl (Nat.le_of_ble_eq_true rfl) dL_law_422 ⟨Nat.le_refl 43, Nat.le_refl 1370⟩ (fun H locs hP hD hS => ?_)
  refine lv_icmp_eq (tgt := 899) hx hb dL_law_425 (by decide) (fun hc => ?_) (fun hc => ?_)
  · exact kk _ _ H locs ls hR1 hP hD hS hl
  · exact absurd rfl hc
set_option maxHeartbeats 4000000 in
set_option maxRecDepth 100000 in
theorem lc_10 {p : Program} {l : Launch} {e : Env} {s : State} {m : MethodId} {below : List Frame} {meth : Method} {c : Code} {dC : Nat → ClassId} {dI : Nat → Nat → Nat} {cy : ClassId} {b L : Nat} {xs : Nat → Int32} (C0 : lw_At p s m meth c b L xs) (hK : va_K (dC, dI) vwCl [(cy, .int)] s) (hG : GL (fun q : Nat => s.heap.size ≤ q) s) (x3 : Int32) (hi1 : vp_in (x3 + (1 : Int32)) L) (hi2 : vp_in (x3 + (2 : Int32)) L) (hi3 : vp_in (x3 + (3 : Int32)) L) (n : Nat) (h0 h1 : Nat → Nat) (w0 w1 : Nat → Nat → Int32) (hn : n < 1000) (hR : zR n w0 w1) (kk : ∀ (v0 v1 : Nat → Nat → Int32) (H : Heap) (locs : List Loc) (ls : Array Slot), zR (n + 1) v0 v1 → va_P (dC, dI) vwCl (zW_78 cy h0 v0 h1 v1) H → va_D (fun q : Nat => s.heap.size ≤ q) (zW_78 cy h0 v0 h1 v1) → va_S (fun q : Nat => s.heap.size ≤ q) s.heap H locs → lv_has ls 4 [(0, .ref b), (1, .ref (h0 0)), (2, .ref (h1 0)), (3, .int x3)] → W p l e room_1 s m #[Value.ref b] below meth c H locs 43 1370 (lw_Z below #[Value.ref b] s) (F0 m 899 ls [])) (H : Heap) (locs : List Loc) (ls : Array Slot) (hP : va_P (dC, dI) vwCl (zW_78 cy h0 w0 h1 w1) H) (hD : va_D (fun q : Nat => s.heap.size ≤ q) (zW_78 cy h0 w0 h1 w1)) (hS : va_S (fun q : Nat => s.heap.size ≤ q) s.heap H locs) (hl : lv_has ls 4 [(0, .ref b), (1, .ref (h0 0)), (2, .ref (h1 0)), (3, .int x3)]) : W p l e room_1 s m #[Value.ref b] below meth c H locs 43 1370 (lw_Z below #[Value.ref b] s) (F0 m 430 ls []) := by
  obtain ⟨hx, hb, hr, hml, hown, hts0, hX, hbl, hlocks, hgv⟩ := C0
  have hts : ∀ w ∈ wsA, w.before #[Value.ref b] s = true := fun w h => hts0 w (wa_of h)
  have hown : s.vm.findClass RL = some m.cls := hown
  have hA : ∀ q : Nat, s.heap.size ≤ q → (fun q : Nat => s.heap.size ≤ q) q := fun _ h => h
  have hbA : ¬ (fun q : Nat => s.heap.size ≤ q) b := Nat.not_le.mpr hbl
  obtain ⟨r, c12, c28, d0, d9, hzE, hzM, hR1⟩ := sim_wear hn hR (xs (x3 + (1 : Int32)).toNatClampNeg)
  refine lv_aload_n hx hb dL_law_430 rfl (lv_at hl 1 rfl) ?_
  refine lv_aload_n hx hb dL_law_431 rfl (lv_at hl 0 rfl) ?_
  refine lv_iload_n hx hb dL_law_432 rfl (lv_at hl 3 rfl) ?_
  refine lv_iconst (v := (1 : Int32)) hx hb dL_law_433 (by decide) ?_
  refine lv_iadd hx hb dL_law_434 ?_
  refine va_sld hx hb hX hbl hbA hS hi1 dL_law_435 ?_
  refine zwiV (q := (RX7, TX7, 10)) (As := [.int (xs (x3 + (1 : Int32)).toNatClampNeg)]) (rest := []) (r := r) (u := (c12, c28)) (wn := zW_78 cy h0 (ups (ups w0 12 c12) 28 c28) h1 w1) ⟨hx, hb, hml, hown, hts⟩ (kX7_wear l dC dI cy h0 w0 (xs (x3 + (1 : Int32)).toNatClampNeg) H.size (r, c12, c28) hzE) mw_376 mw_377 mw_378 mw_1 mw_379 hdX7_wear rfl rfl ⟨Nat.le_of_ble_eq_true rfl, Nat.le_of_ble_eq_true rfl⟩ hP hK hG hS 0 rfl rfl hD hA [0, 1, 2, 3, 4, 5, 6, 7, 8, 9, 10, 11, 12, 13, 14, 15, 16, 17, 18, 19, 20, 21, 22, 23, 24, 25, 26, 27, 28] [29, 30, 31, 32, 33, 34, 35, 36, 37, 38, 39, 40, 41, 42] [14, 15, 16, 17, 18, 19, 20, 21, 22, 23, 24, 25, 26, 27, 28, 29, 30, 31, 32, 33, 34, 35, 36, 37, 38, 39, 40, 41, 42, 0, 1, 2, 3, 4, 5, 6, 7, 8, 9, 10, 11, 12, 13] rfl rfl rfl rfl (by decide) rfl rfl rfl hl.1 rfl (Nat.le_of_ble_eq_true rfl) dL_law_436 ⟨Nat.le_refl 43, Nat.le_refl 1370⟩ (fun H locs hP hD hS => ?_)
  refine lv_aload_n hx hb dL_law_439 rfl (lv_at hl 2 rfl) ?_
  refine lv_aload_n hx hb dL_law_440 rfl (lv_at hl 0 rfl) ?_
  refine lv_iload_n hx hb dL_law_441 rfl (lv_at hl 3 rfl) ?_
  refine lv_iconst (v := (1 : Int32)) hx hb dL_law_442 (by decide) ?_
  refine lv_iadd hx hb dL_law_443 ?_
  refine va_sld hx hb hX hbl hbA hS hi1 dL_law_444 ?_
  refine zwiV (q := (RX8, TX8, 37)) (As := [.int (xs (x3 + (1 : Int32)).toNatClampNeg)]) (rest := [.int r]) (r := r) (u := (d0, d9)) (wn := zW_78 cy h0 (ups (ups w0 12 c12) 28 c28) h1 (ups (ups w1 0 d0) 9 d9)) ⟨hx, hb, hml, hown, hts⟩ (kX8_wear l dC dI cy h1 w1 (xs (x3 + (1 : Int32)).toNatClampNeg) H.size (r, d0, d9) hzM) mw_763 mw_764 mw_765 mw_9 mw_766 hdX8_wear rfl rfl ⟨Nat.le_of_ble_eq_true rfl, Nat.le_of_ble_eq_true rfl⟩ hP hK hG hS 29 rfl rfl hD hA [29, 30, 31, 32, 33, 34, 35, 36, 37, 38, 39, 40, 41, 42] [0, 1, 2, 3, 4, 5, 6, 7, 8, 9, 10, 11, 12, 13, 14, 15, 16, 17, 18, 19, 20, 21, 22, 23, 24, 25, 26, 27, 28] [0, 1, 2, 3, 4, 5, 6, 7, 8, 9, 10, 11, 12, 13, 14, 15, 16, 17, 18, 19, 20, 21, 22, 23, 24, 25, 26, 27, 28, 29, 30, 31, 32, 33, 34, 35, 36, 37, 38, 39, 40, 41, 42] rfl rfl rfl rfl (by decide) rfl rfl rfl hl.1 rfl (Nat.le_of_ble_eq_true rfl) dL_law_445 ⟨Nat.le_refl 43, Nat.le_refl 1370⟩ (fun H locs hP hD hS => ?_)
  refine lv_icmp_eq (tgt := 899) hx hb dL_law_448 (by decide) (fun hc => ?_) (fun hc => ?_)
  · exact kk _ _ H locs ls hR1 hP hD hS hl
  · exact absurd rfl hc
set_option maxHeartbeats 4000000 in
set_option maxRecDepth 100000 in
theorem lc_11 {p : Program} {l : Launch} {e : Env} {s : State} {m : MethodId} {below : List Frame} {meth : Method} {c : Code} {dC : Nat → ClassId} {dI : Nat → Nat → Nat} {cy : ClassId} {b L : Nat} {xs : Nat → Int32} (C0 : lw_At p s m meth c b L xs) (hK : va_K (dC, dI) vwCl [(cy, .int)] s) (hG : GL (fun q : Nat => s.heap.size ≤ q) s) (x3 : Int32) (hi1 : vp_in (x3 + (1 : Int32)) L) (hi2 : vp_in (x3 + (2 : Int32)) L) (hi3 : vp_in (x3 + (3 : Int32)) L) (n : Nat) (h0 h1 : Nat → Nat) (w0 w1 : Nat → Nat → Int32) (hn : n < 1000) (hR : zR n w0 w1) (kk : ∀ (v0 v1 : Nat → Nat → Int32) (H : Heap) (locs : List Loc) (ls : Array Slot), zR (n + 1) v0 v1 → va_P (dC, dI) vwCl (zW_78 cy h0 v0 h1 v1) H → va_D (fun q : Nat => s.heap.size ≤ q) (zW_78 cy h0 v0 h1 v1) → va_S (fun q : Nat => s.heap.size ≤ q) s.heap H locs → lv_has ls 4 [(0, .ref b), (1, .ref (h0 0)), (2, .ref (h1 0)), (3, .int x3)] → W p l e room_1 s m #[Value.ref b] below meth c H locs 43 1370 (lw_Z below #[Value.ref b] s) (F0 m 899 ls [])) (H : Heap) (locs : List Loc) (ls : Array Slot) (hP : va_P (dC, dI) vwCl (zW_78 cy h0 w0 h1 w1) H) (hD : va_D (fun q : Nat => s.heap.size ≤ q) (zW_78 cy h0 w0 h1 w1)) (hS : va_S (fun q : Nat => s.heap.size ≤ q) s.heap H locs) (hl : lv_has ls 4 [(0, .ref b), (1, .ref (h0 0)), (2, .ref (h1 0)), (3, .int x3)]) : W p l e room_1 s m #[Value.ref b] below meth c H locs 43 1370 (lw_Z below #[Value.ref b] s) (F0 m 453 ls []) := by
  obtain ⟨hx, hb, hr, hml, hown, hts0, hX, hbl, hlocks, hgv⟩ := C0
  have hts : ∀ w ∈ wsA, w.before #[Value.ref b] s = true := fun w h => hts0 w (wa_of h)
  have hown : s.vm.findClass RL = some m.cls := hown
  have hA : ∀ q : Nat, s.heap.size ≤ q → (fun q : Nat => s.heap.size ≤ q) q := fun _ h => h
  have hbA : ¬ (fun q : Nat => s.heap.size ≤ q) b := Nat.not_le.mpr hbl
  obtain ⟨r, c12, c28, d0, d9, hzE, hzM, hR1⟩ := sim_haul hn hR (xs (x3 + (1 : Int32)).toNatClampNeg)
  refine lv_aload_n hx hb dL_law_453 rfl (lv_at hl 1 rfl) ?_
  refine lv_aload_n hx hb dL_law_454 rfl (lv_at hl 0 rfl) ?_
  refine lv_iload_n hx hb dL_law_455 rfl (lv_at hl 3 rfl) ?_
  refine lv_iconst (v := (1 : Int32)) hx hb dL_law_456 (by decide) ?_
  refine lv_iadd hx hb dL_law_457 ?_
  refine va_sld hx hb hX hbl hbA hS hi1 dL_law_458 ?_
  refine zwiV (q := (RX7, TX7, 10)) (As := [.int (xs (x3 + (1 : Int32)).toNatClampNeg)]) (rest := []) (r := r) (u := (c12, c28)) (wn := zW_78 cy h0 (ups (ups w0 12 c12) 28 c28) h1 w1) ⟨hx, hb, hml, hown, hts⟩ (kX7_haul l dC dI cy h0 w0 (xs (x3 + (1 : Int32)).toNatClampNeg) H.size (r, c12, c28) hzE) mw_384 mw_385 mw_386 mw_1 mw_387 hdX7_haul rfl rfl ⟨Nat.le_of_ble_eq_true rfl, Nat.le_of_ble_eq_true rfl⟩ hP hK hG hS 0 rfl rfl hD hA [0, 1, 2, 3, 4, 5, 6, 7, 8, 9, 10, 11, 12, 13, 14, 15, 16, 17, 18, 19, 20, 21, 22, 23, 24, 25, 26, 27, 28] [29, 30, 31, 32, 33, 34, 35, 36, 37, 38, 39, 40, 41, 42] [14, 15, 16, 17, 18, 19, 20, 21, 22, 23, 24, 25, 26, 27, 28, 29, 30, 31, 32, 33, 34, 35, 36, 37, 38, 39, 40, 41, 42, 0, 1, 2, 3, 4, 5, 6, 7, 8, 9, 10, 11, 12, 13] rfl rfl rfl rfl (by decide) rfl rfl rfl hl.1 rfl (Nat.le_of_ble_eq_true rfl) dL_law_459 ⟨Nat.le_refl 43, Nat.le_refl 1370⟩ (fun H locs hP hD hS => ?_)
  refine lv_aload_n hx hb dL_law_462 rfl (lv_at hl 2 rfl) ?_
  refine lv_aload_n hx hb dL_law_463 rfl (lv_at hl 0 rfl) ?_
  refine lv_iload_n hx hb dL_law_464 rfl (lv_at hl 3 rfl) ?_
  refine lv_iconst (v := (1 : Int32)) hx hb dL_law_465 (by decide) ?_
  refine lv_iadd hx hb dL_law_466 ?_
  refine va_sld hx hb hX hbl hbA hS hi1 dL_law_467 ?_
  refine zwiV (q := (RX8, TX8, 37)) (As := [.int (xs (x3 + (1 : Int32)).toNatClampNeg)]) (rest := [.int r]) (r := r) (u := (d0, d9)) (wn := zW_78 cy h0 (ups (ups w0 12 c12) 28 c28) h1 (ups (ups w1 0 d0) 9 d9)) ⟨hx, hb, hml, hown, hts⟩ (kX8_haul l dC dI cy h1 w1 (xs (x3 + (1 : Int32)).toNatClampNeg) H.size (r, d0, d9) hzM) mw_770 mw_771 mw_772 mw_9 mw_773 hdX8_haul rfl rfl ⟨Nat.le_of_ble_eq_true rfl, Nat.le_of_ble_eq_true rfl⟩ hP hK hG hS 29 rfl rfl hD hA [29, 30, 31, 32, 33, 34, 35, 36, 37, 38, 39, 40, 41, 42] [0, 1, 2, 3, 4, 5, 6, 7, 8, 9, 10, 11, 12, 13, 14, 15, 16, 17, 18, 19, 20, 21, 22, 23, 24, 25, 26, 27, 28] [0, 1, 2, 3, 4, 5, 6, 7, 8, 9, 10, 11, 12, 13, 14, 15, 16, 17, 18, 19, 20, 21, 22, 23, 24, 25, 26, 27, 28, 29, 30, 31, 32, 33, 34, 35, 36, 37, 38, 39, 40, 41, 42] rfl rfl rfl rfl (by decide) rfl rfl rfl hl.1 rfl (Nat.le_of_ble_eq_true rfl) dL_law_468 ⟨Nat.le_refl 43, Nat.le_refl 1370⟩ (fun H locs hP hD hS => ?_)
  refine lv_icmp_eq (tgt := 899) hx hb dL_law_471 (by decide) (fun hc => ?_) (fun hc => ?_)
  · exact kk _ _ H locs ls hR1 hP hD hS hl
  · exact absurd rfl hc
set_option maxHeartbeats 4000000 in
set_option maxRecDepth 100000 in
theorem lc_12 {p : Program} {l : Launch} {e : Env} {s : State} {m : MethodId} {below : List Frame} {meth : Method} {c : Code} {dC : Nat → ClassId} {dI : Nat → Nat → Nat} {cy : ClassId} {b L : Nat} {xs : Nat → Int32} (C0 : lw_At p s m meth c b L xs) (hK : va_K (dC, dI) vwCl [(cy, .int)] s) (hG : GL (fun q : Nat => s.heap.size ≤ q) s) (x3 : Int32) (hi1 : vp_in (x3 + (1 : Int32)) L) (hi2 : vp_in (x3 + (2 : Int32)) L) (hi3 : vp_in (x3 + (3 : Int32)) L) (n : Nat) (h0 h1 : Nat → Nat) (w0 w1 : Nat → Nat → Int32) (hn : n < 1000) (hR : zR n w0 w1) (kk : ∀ (v0 v1 : Nat → Nat → Int32) (H : Heap) (locs : List Loc) (ls : Array Slot), zR (n + 1) v0 v1 → va_P (dC, dI) vwCl (zW_78 cy h0 v0 h1 v1) H → va_D (fun q : Nat => s.heap.size ≤ q) (zW_78 cy h0 v0 h1 v1) → va_S (fun q : Nat => s.heap.size ≤ q) s.heap H locs → lv_has ls 4 [(0, .ref b), (1, .ref (h0 0)), (2, .ref (h1 0)), (3, .int x3)] → W p l e room_1 s m #[Value.ref b] below meth c H locs 43 1370 (lw_Z below #[Value.ref b] s) (F0 m 899 ls [])) (H : Heap) (locs : List Loc) (ls : Array Slot) (hP : va_P (dC, dI) vwCl (zW_78 cy h0 w0 h1 w1) H) (hD : va_D (fun q : Nat => s.heap.size ≤ q) (zW_78 cy h0 w0 h1 w1)) (hS : va_S (fun q : Nat => s.heap.size ≤ q) s.heap H locs) (hl : lv_has ls 4 [(0, .ref b), (1, .ref (h0 0)), (2, .ref (h1 0)), (3, .int x3)]) : W p l e room_1 s m #[Value.ref b] below meth c H locs 43 1370 (lw_Z below #[Value.ref b] s) (F0 m 476 ls []) := by
  obtain ⟨hx, hb, hr, hml, hown, hts0, hX, hbl, hlocks, hgv⟩ := C0
  have hts : ∀ w ∈ wsA, w.before #[Value.ref b] s = true := fun w h => hts0 w (wa_of h)
  have hown : s.vm.findClass RL = some m.cls := hown
  have hA : ∀ q : Nat, s.heap.size ≤ q → (fun q : Nat => s.heap.size ≤ q) q := fun _ h => h
  have hbA : ¬ (fun q : Nat => s.heap.size ≤ q) b := Nat.not_le.mpr hbl
  obtain ⟨r, c12, c28, d0, d9, hzE, hzM, hR1⟩ := sim_sail hn hR (xs (x3 + (1 : Int32)).toNatClampNeg)
  refine lv_aload_n hx hb dL_law_476 rfl (lv_at hl 1 rfl) ?_
  refine lv_aload_n hx hb dL_law_477 rfl (lv_at hl 0 rfl) ?_
  refine lv_iload_n hx hb dL_law_478 rfl (lv_at hl 3 rfl) ?_
  refine lv_iconst (v := (1 : Int32)) hx hb dL_law_479 (by decide) ?_
  refine lv_iadd hx hb dL_law_480 ?_
  refine va_sld hx hb hX hbl hbA hS hi1 dL_law_481 ?_
  refine zwiV (q := (RX7, TX7, 10)) (As := [.int (xs (x3 + (1 : Int32)).toNatClampNeg)]) (rest := []) (r := r) (u := (c12, c28)) (wn := zW_78 cy h0 (ups (ups w0 12 c12) 28 c28) h1 w1) ⟨hx, hb, hml, hown, hts⟩ (kX7_sail l dC dI cy h0 w0 (xs (x3 + (1 : Int32)).toNatClampNeg) H.size (r, c12, c28) hzE) mw_392 mw_393 mw_394 mw_1 mw_395 hdX7_sail rfl rfl ⟨Nat.le_of_ble_eq_true rfl, Nat.le_of_ble_eq_true rfl⟩ hP hK hG hS 0 rfl rfl hD hA [0, 1, 2, 3, 4, 5, 6, 7, 8, 9, 10, 11, 12, 13, 14, 15, 16, 17, 18, 19, 20, 21, 22, 23, 24, 25, 26, 27, 28] [29, 30, 31, 32, 33, 34, 35, 36, 37, 38, 39, 40, 41, 42] [14, 15, 16, 17, 18, 19, 20, 21, 22, 23, 24, 25, 26, 27, 28, 29, 30, 31, 32, 33, 34, 35, 36, 37, 38, 39, 40, 41, 42, 0, 1, 2, 3, 4, 5, 6, 7, 8, 9, 10, 11, 12, 13] rfl rfl rfl rfl (by decide) rfl rfl rfl hl.1 rfl (Nat.le_of_ble_eq_true rfl) dL_law_482 ⟨Nat.le_refl 43, Nat.le_refl 1370⟩ (fun H locs hP hD hS => ?_)
  refine lv_aload_n hx hb dL_law_485 rfl (lv_at hl 2 rfl) ?_
  refine lv_aload_n hx hb dL_law_486 rfl (lv_at hl 0 rfl) ?_
  refine lv_iload_n hx hb dL_law_487 rfl (lv_at hl 3 rfl) ?_
  refine lv_iconst (v := (1 : Int32)) hx hb dL_law_488 (by decide) ?_
  refine lv_iadd hx hb dL_law_489 ?_
  refine va_sld hx hb hX hbl hbA hS hi1 dL_law_490 ?_
  refine zwiV (q := (RX8, TX8, 37)) (As := [.int (xs (x3 + (1 : Int32)).toNatClampNeg)]) (rest := [.int r]) (r := r) (u := (d0, d9)) (wn := zW_78 cy h0 (ups (ups w0 12 c12) 28 c28) h1 (ups (ups w1 0 d0) 9 d9)) ⟨hx, hb, hml, hown, hts⟩ (kX8_sail l dC dI cy h1 w1 (xs (x3 + (1 : Int32)).toNatClampNeg) H.size (r, d0, d9) hzM) mw_774 mw_775 mw_776 mw_9 mw_777 hdX8_sail rfl rfl ⟨Nat.le_of_ble_eq_true rfl, Nat.le_of_ble_eq_true rfl⟩ hP hK hG hS 29 rfl rfl hD hA [29, 30, 31, 32, 33, 34, 35, 36, 37, 38, 39, 40, 41, 42] [0, 1, 2, 3, 4, 5, 6, 7, 8, 9, 10, 11, 12, 13, 14, 15, 16, 17, 18, 19, 20, 21, 22, 23, 24, 25, 26, 27, 28] [0, 1, 2, 3, 4, 5, 6, 7, 8, 9, 10, 11, 12, 13, 14, 15, 16, 17, 18, 19, 20, 21, 22, 23, 24, 25, 26, 27, 28, 29, 30, 31, 32, 33, 34, 35, 36, 37, 38, 39, 40, 41, 42] rfl rfl rfl rfl (by decide) rfl rfl rfl hl.1 rfl (Nat.le_of_ble_eq_true rfl) dL_law_491 ⟨Nat.le_refl 43, Nat.le_refl 1370⟩ (fun H locs hP hD hS => ?_)
  refine lv_icmp_eq (tgt := 899) hx hb dL_law_494 (by decide) (fun hc => ?_) (fun hc => ?_)
  · exact kk _ _ H locs ls hR1 hP hD hS hl
  · exact absurd rfl hc
set_option maxHeartbeats 4000000 in
set_option maxRecDepth 100000 in
theorem lc_13 {p : Program} {l : Launch} {e : Env} {s : State} {m : MethodId} {below : List Frame} {meth : Method} {c : Code} {dC : Nat → ClassId} {dI : Nat → Nat → Nat} {cy : ClassId} {b L : Nat} {xs : Nat → Int32} (C0 : lw_At p s m meth c b L xs) (hK : va_K (dC, dI) vwCl [(cy, .int)] s) (hG : GL (fun q : Nat => s.heap.size ≤ q) s) (x3 : Int32) (hi1 : vp_in (x3 + (1 : Int32)) L) (hi2 : vp_in (x3 + (2 : Int32)) L) (hi3 : vp_in (x3 + (3 : Int32)) L) (n : Nat) (h0 h1 : Nat → Nat) (w0 w1 : Nat → Nat → Int32) (hn : n < 1000) (hR : zR n w0 w1) (kk : ∀ (v0 v1 : Nat → Nat → Int32) (H : Heap) (locs : List Loc) (ls : Array Slot), zR (n + 1) v0 v1 → va_P (dC, dI) vwCl (zW_78 cy h0 v0 h1 v1) H → va_D (fun q : Nat => s.heap.size ≤ q) (zW_78 cy h0 v0 h1 v1) → va_S (fun q : Nat => s.heap.size ≤ q) s.heap H locs → lv_has ls 4 [(0, .ref b), (1, .ref (h0 0)), (2, .ref (h1 0)), (3, .int x3)] → W p l e room_1 s m #[Value.ref b] below meth c H locs 43 1370 (lw_Z below #[Value.ref b] s) (F0 m 899 ls [])) (H : Heap) (locs : List Loc) (ls : Array Slot) (hP : va_P (dC, dI) vwCl (zW_78 cy h0 w0 h1 w1) H) (hD : va_D (fun q : Nat => s.heap.size ≤ q) (zW_78 cy h0 w0 h1 w1)) (hS : va_S (fun q : Nat => s.heap.size ≤ q) s.heap H locs) (hl : lv_has ls 4 [(0, .ref b), (1, .ref (h0 0)), (2, .ref (h1 0)), (3, .int x3)]) : W p l e room_1 s m #[Value.ref b] below meth c H locs 43 1370 (lw_Z below #[Value.ref b] s) (F0 m 499 ls []) := by
  obtain ⟨hx, hb, hr, hml, hown, hts0, hX, hbl, hlocks, hgv⟩ := C0
  have hts : ∀ w ∈ wsA, w.before #[Value.ref b] s = true := fun w h => hts0 w (wa_of h)
  have hown : s.vm.findClass RL = some m.cls := hown
  have hA : ∀ q : Nat, s.heap.size ≤ q → (fun q : Nat => s.heap.size ≤ q) q := fun _ h => h
  have hbA : ¬ (fun q : Nat => s.heap.size ≤ q) b := Nat.not_le.mpr hbl
  obtain ⟨r, c12, c28, d0, d9, hzE, hzM, hR1⟩ := sim_anchor hn hR
  refine lv_aload_n hx hb dL_law_499 rfl (lv_at hl 1 rfl) ?_
  refine zwiV (q := (RX7, TX7, 10)) (As := []) (rest := []) (r := r) (u := (c12, c28)) (wn := zW_78 cy h0 (ups (ups w0 12 c12) 28 c28) h1 w1) ⟨hx, hb, hml, hown, hts⟩ (kX7_anchor l dC dI cy h0 w0 H.size (r, c12, c28) hzE) mw_397 mw_398 mw_399 mw_1 mw_400 hdX7_anchor rfl rfl ⟨Nat.le_of_ble_eq_true rfl, Nat.le_of_ble_eq_true rfl⟩ hP hK hG hS 0 rfl rfl hD hA [0, 1, 2, 3, 4, 5, 6, 7, 8, 9, 10, 11, 12, 13, 14, 15, 16, 17, 18, 19, 20, 21, 22, 23, 24, 25, 26, 27, 28] [29, 30, 31, 32, 33, 34, 35, 36, 37, 38, 39, 40, 41, 42] [14, 15, 16, 17, 18, 19, 20, 21, 22, 23, 24, 25, 26, 27, 28, 29, 30, 31, 32, 33, 34, 35, 36, 37, 38, 39, 40, 41, 42, 0, 1, 2, 3, 4, 5, 6, 7, 8, 9, 10, 11, 12, 13] rfl rfl rfl rfl (by decide) rfl rfl rfl hl.1 rfl (Nat.le_of_ble_eq_true rfl) dL_law_500 ⟨Nat.le_refl 43, Nat.le_refl 1370⟩ (fun H locs hP hD hS => ?_)
  refine lv_aload_n hx hb dL_law_503 rfl (lv_at hl 2 rfl) ?_
  refine zwiV (q := (RX8, TX8, 37)) (As := []) (rest := [.int r]) (r := r) (u := (d0, d9)) (wn := zW_78 cy h0 (ups (ups w0 12 c12) 28 c28) h1 (ups (ups w1 0 d0) 9 d9)) ⟨hx, hb, hml, hown, hts⟩ (kX8_anchor l dC dI cy h1 w1 H.size (r, d0, d9) hzM) mw_778 mw_779 mw_780 mw_9 mw_781 hdX8_anchor rfl rfl ⟨Nat.le_of_ble_eq_true rfl, Nat.le_of_ble_eq_true rfl⟩ hP hK hG hS 29 rfl rfl hD hA [29, 30, 31, 32, 33, 34, 35, 36, 37, 38, 39, 40, 41, 42] [0, 1, 2, 3, 4, 5, 6, 7, 8, 9, 10, 11, 12, 13, 14, 15, 16, 17, 18, 19, 20, 21, 22, 23, 24, 25, 26, 27, 28] [0, 1, 2, 3, 4, 5, 6, 7, 8, 9, 10, 11, 12, 13, 14, 15, 16, 17, 18, 19, 20, 21, 22, 23, 24, 25, 26, 27, 28, 29, 30, 31, 32, 33, 34, 35, 36, 37, 38, 39, 40, 41, 42] rfl rfl rfl rfl (by decide) rfl rfl rfl hl.1 rfl (Nat.le_of_ble_eq_true rfl) dL_law_504 ⟨Nat.le_refl 43, Nat.le_refl 1370⟩ (fun H locs hP hD hS => ?_)
  refine lv_icmp_eq (tgt := 899) hx hb dL_law_507 (by decide) (fun hc => ?_) (fun hc => ?_)
  · exact kk _ _ H locs ls hR1 hP hD hS hl
  · exact absurd rfl hc
set_option maxHeartbeats 4000000 in
set_option maxRecDepth 100000 in
theorem lc_14 {p : Program} {l : Launch} {e : Env} {s : State} {m : MethodId} {below : List Frame} {meth : Method} {c : Code} {dC : Nat → ClassId} {dI : Nat → Nat → Nat} {cy : ClassId} {b L : Nat} {xs : Nat → Int32} (C0 : lw_At p s m meth c b L xs) (hK : va_K (dC, dI) vwCl [(cy, .int)] s) (hG : GL (fun q : Nat => s.heap.size ≤ q) s) (x3 : Int32) (hi1 : vp_in (x3 + (1 : Int32)) L) (hi2 : vp_in (x3 + (2 : Int32)) L) (hi3 : vp_in (x3 + (3 : Int32)) L) (n : Nat) (h0 h1 : Nat → Nat) (w0 w1 : Nat → Nat → Int32) (hn : n < 1000) (hR : zR n w0 w1) (kk : ∀ (v0 v1 : Nat → Nat → Int32) (H : Heap) (locs : List Loc) (ls : Array Slot), zR (n + 1) v0 v1 → va_P (dC, dI) vwCl (zW_78 cy h0 v0 h1 v1) H → va_D (fun q : Nat => s.heap.size ≤ q) (zW_78 cy h0 v0 h1 v1) → va_S (fun q : Nat => s.heap.size ≤ q) s.heap H locs → lv_has ls 4 [(0, .ref b), (1, .ref (h0 0)), (2, .ref (h1 0)), (3, .int x3)] → W p l e room_1 s m #[Value.ref b] below meth c H locs 43 1370 (lw_Z below #[Value.ref b] s) (F0 m 899 ls [])) (H : Heap) (locs : List Loc) (ls : Array Slot) (hP : va_P (dC, dI) vwCl (zW_78 cy h0 w0 h1 w1) H) (hD : va_D (fun q : Nat => s.heap.size ≤ q) (zW_78 cy h0 w0 h1 w1)) (hS : va_S (fun q : Nat => s.heap.size ≤ q) s.heap H locs) (hl : lv_has ls 4 [(0, .ref b), (1, .ref (h0 0)), (2, .ref (h1 0)), (3, .int x3)]) : W p l e room_1 s m #[Value.ref b] below meth c H locs 43 1370 (lw_Z below #[Value.ref b] s) (F0 m 512 ls []) := by
  obtain ⟨hx, hb, hr, hml, hown, hts0, hX, hbl, hlocks, hgv⟩ := C0
  have hts : ∀ w ∈ wsA, w.before #[Value.ref b] s = true := fun w h => hts0 w (wa_of h)
  have hown : s.vm.findClass RL = some m.cls := hown
  have hA : ∀ q : Nat, s.heap.size ≤ q → (fun q : Nat => s.heap.size ≤ q) q := fun _ h => h
  have hbA : ¬ (fun q : Nat => s.heap.size ≤ q) b := Nat.not_le.mpr hbl
  obtain ⟨r, c12, c28, d0, d9, hzE, hzM, hR1⟩ := sim_cut hn hR
  refine lv_aload_n hx hb dL_law_512 rfl (lv_at hl 1 rfl) ?_
  refine zwiV (q := (RX7, TX7, 10)) (As := []) (rest := []) (r := r) (u := (c12, c28)) (wn := zW_78 cy h0 (ups (ups w0 12 c12) 28 c28) h1 w1) ⟨hx, hb, hml, hown, hts⟩ (kX7_cut l dC dI cy h0 w0 H.size (r, c12, c28) hzE) mw_405 mw_406 mw_407 mw_1 mw_408 hdX7_cut rfl rfl ⟨Nat.le_of_ble_eq_true rfl, Nat.le_of_ble_eq_true rfl⟩ hP hK hG hS 0 rfl rfl hD hA [0, 1, 2, 3, 4, 5, 6, 7, 8, 9, 10, 11, 12, 13, 14, 15, 16, 17, 18, 19, 20, 21, 22, 23, 24, 25, 26, 27, 28] [29, 30, 31, 32, 33, 34, 35, 36, 37, 38, 39, 40, 41, 42] [14, 15, 16, 17, 18, 19, 20, 21, 22, 23, 24, 25, 26, 27, 28, 29, 30, 31, 32, 33, 34, 35, 36, 37, 38, 39, 40, 41, 42, 0, 1, 2, 3, 4, 5, 6, 7, 8, 9, 10, 11, 12, 13] rfl rfl rfl rfl (by decide) rfl rfl rfl hl.1 rfl (Nat.le_of_ble_eq_true rfl) dL_law_513 ⟨Nat.le_refl 43, Nat.le_refl 1370⟩ (fun H locs hP hD hS => ?_)
  refine lv_aload_n hx hb dL_law_516 rfl (lv_at hl 2 rfl) ?_
  refine zwiV (q := (RX8, TX8, 37)) (As := []) (rest := [.int r]) (r := r) (u := (d0, d9)) (wn := zW_78 cy h0 (ups (ups w0 12 c12) 28 c28) h1 (ups (ups w1 0 d0) 9 d9)) ⟨hx, hb, hml, hown, hts⟩ (kX8_cut l dC dI cy h1 w1 H.size (r, d0, d9) hzM) mw_785 mw_786 mw_787 mw_9 mw_788 hdX8_cut rfl rfl ⟨Nat.le_of_ble_eq_true rfl, Nat.le_of_ble_eq_true rfl⟩ hP hK hG hS 29 rfl rfl hD hA [29, 30, 31, 32, 33, 34, 35, 36, 37, 38, 39, 40, 41, 42] [0, 1, 2, 3, 4, 5, 6, 7, 8, 9, 10, 11, 12, 13, 14, 15, 16, 17, 18, 19, 20, 21, 22, 23, 24, 25, 26, 27, 28] [0, 1, 2, 3, 4, 5, 6, 7, 8, 9, 10, 11, 12, 13, 14, 15, 16, 17, 18, 19, 20, 21, 22, 23, 24, 25, 26, 27, 28, 29, 30, 31, 32, 33, 34, 35, 36, 37, 38, 39, 40, 41, 42] rfl rfl rfl rfl (by decide) rfl rfl rfl hl.1 rfl (Nat.le_of_ble_eq_true rfl) dL_law_517 ⟨Nat.le_refl 43, Nat.le_refl 1370⟩ (fun H locs hP hD hS => ?_)
  refine lv_icmp_eq (tgt := 899) hx hb dL_law_520 (by decide) (fun hc => ?_) (fun hc => ?_)
  · exact kk _ _ H locs ls hR1 hP hD hS hl
  · exact absurd rfl hc
set_option maxHeartbeats 4000000 in
set_option maxRecDepth 100000 in
theorem lc_15 {p : Program} {l : Launch} {e : Env} {s : State} {m : MethodId} {below : List Frame} {meth : Method} {c : Code} {dC : Nat → ClassId} {dI : Nat → Nat → Nat} {cy : ClassId} {b L : Nat} {xs : Nat → Int32} (C0 : lw_At p s m meth c b L xs) (hK : va_K (dC, dI) vwCl [(cy, .int)] s) (hG : GL (fun q : Nat => s.heap.size ≤ q) s) (x3 : Int32) (hi1 : vp_in (x3 + (1 : Int32)) L) (hi2 : vp_in (x3 + (2 : Int32)) L) (hi3 : vp_in (x3 + (3 : Int32)) L) (n : Nat) (h0 h1 : Nat → Nat) (w0 w1 : Nat → Nat → Int32) (hn : n < 1000) (hR : zR n w0 w1) (kk : ∀ (v0 v1 : Nat → Nat → Int32) (H : Heap) (locs : List Loc) (ls : Array Slot), zR (n + 1) v0 v1 → va_P (dC, dI) vwCl (zW_78 cy h0 v0 h1 v1) H → va_D (fun q : Nat => s.heap.size ≤ q) (zW_78 cy h0 v0 h1 v1) → va_S (fun q : Nat => s.heap.size ≤ q) s.heap H locs → lv_has ls 4 [(0, .ref b), (1, .ref (h0 0)), (2, .ref (h1 0)), (3, .int x3)] → W p l e room_1 s m #[Value.ref b] below meth c H locs 43 1370 (lw_Z below #[Value.ref b] s) (F0 m 899 ls [])) (H : Heap) (locs : List Loc) (ls : Array Slot) (hP : va_P (dC, dI) vwCl (zW_78 cy h0 w0 h1 w1) H) (hD : va_D (fun q : Nat => s.heap.size ≤ q) (zW_78 cy h0 w0 h1 w1)) (hS : va_S (fun q : Nat => s.heap.size ≤ q) s.heap H locs) (hl : lv_has ls 4 [(0, .ref b), (1, .ref (h0 0)), (2, .ref (h1 0)), (3, .int x3)]) : W p l e room_1 s m #[Value.ref b] below meth c H locs 43 1370 (lw_Z below #[Value.ref b] s) (F0 m 525 ls []) := by
  obtain ⟨hx, hb, hr, hml, hown, hts0, hX, hbl, hlocks, hgv⟩ := C0
  have hts : ∀ w ∈ wsA, w.before #[Value.ref b] s = true := fun w h => hts0 w (wa_of h)
  have hown : s.vm.findClass RL = some m.cls := hown
  have hA : ∀ q : Nat, s.heap.size ≤ q → (fun q : Nat => s.heap.size ≤ q) q := fun _ h => h
  have hbA : ¬ (fun q : Nat => s.heap.size ≤ q) b := Nat.not_le.mpr hbl
  obtain ⟨r, c12, c28, d0, d9, hzE, hzM, hR1⟩ := sim_axe hn hR
  refine lv_aload_n hx hb dL_law_525 rfl (lv_at hl 1 rfl) ?_
  refine zwiV (q := (RX7, TX7, 10)) (As := []) (rest := []) (r := r) (u := (c12, c28)) (wn := zW_78 cy h0 (ups (ups w0 12 c12) 28 c28) h1 w1) ⟨hx, hb, hml, hown, hts⟩ (kX7_axe l dC dI cy h0 w0 H.size (r, c12, c28) hzE) mw_409 mw_410 mw_411 mw_1 mw_412 hdX7_axe rfl rfl ⟨Nat.le_of_ble_eq_true rfl, Nat.le_of_ble_eq_true rfl⟩ hP hK hG hS 0 rfl rfl hD hA [0, 1, 2, 3, 4, 5, 6, 7, 8, 9, 10, 11, 12, 13, 14, 15, 16, 17, 18, 19, 20, 21, 22, 23, 24, 25, 26, 27, 28] [29, 30, 31, 32, 33, 34, 35, 36, 37, 38, 39, 40, 41, 42] [14, 15, 16, 17, 18, 19, 20, 21, 22, 23, 24, 25, 26, 27, 28, 29, 30, 31, 32, 33, 34, 35, 36, 37, 38, 39, 40, 41, 42, 0, 1, 2, 3, 4, 5, 6, 7, 8, 9, 10, 11, 12, 13] rfl rfl rfl rfl (by decide) rfl rfl rfl hl.1 rfl (Nat.le_of_ble_eq_true rfl) dL_law_526 ⟨Nat.le_refl 43, Nat.le_refl 1370⟩ (fun H locs hP hD hS => ?_)
  refine lv_aload_n hx hb dL_law_529 rfl (lv_at hl 2 rfl) ?_
  refine zwiV (q := (RX8, TX8, 37)) (As := []) (rest := [.int r]) (r := r) (u := (d0, d9)) (wn := zW_78 cy h0 (ups (ups w0 12 c12) 28 c28) h1 (ups (ups w1 0 d0) 9 d9)) ⟨hx, hb, hml, hown, hts⟩ (kX8_axe l dC dI cy h1 w1 H.size (r, d0, d9) hzM) mw_789 mw_790 mw_791 mw_9 mw_792 hdX8_axe rfl rfl ⟨Nat.le_of_ble_eq_true rfl, Nat.le_of_ble_eq_true rfl⟩ hP hK hG hS 29 rfl rfl hD hA [29, 30, 31, 32, 33, 34, 35, 36, 37, 38, 39, 40, 41, 42] [0, 1, 2, 3, 4, 5, 6, 7, 8, 9, 10, 11, 12, 13, 14, 15, 16, 17, 18, 19, 20, 21, 22, 23, 24, 25, 26, 27, 28] [0, 1, 2, 3, 4, 5, 6, 7, 8, 9, 10, 11, 12, 13, 14, 15, 16, 17, 18, 19, 20, 21, 22, 23, 24, 25, 26, 27, 28, 29, 30, 31, 32, 33, 34, 35, 36, 37, 38, 39, 40, 41, 42] rfl rfl rfl rfl (by decide) rfl rfl rfl hl.1 rfl (Nat.le_of_ble_eq_true rfl) dL_law_530 ⟨Nat.le_refl 43, Nat.le_refl 1370⟩ (fun H locs hP hD hS => ?_)
  refine lv_icmp_eq (tgt := 899) hx hb dL_law_533 (by decide) (fun hc => ?_) (fun hc => ?_)
  · exact kk _ _ H locs ls hR1 hP hD hS hl
  · exact absurd rfl hc
set_option maxHeartbeats 4000000 in
set_option maxRecDepth 100000 in
theorem lc_16 {p : Program} {l : Launch} {e : Env} {s : State} {m : MethodId} {below : List Frame} {meth : Method} {c : Code} {dC : Nat → ClassId} {dI : Nat → Nat → Nat} {cy : ClassId} {b L : Nat} {xs : Nat → Int32} (C0 : lw_At p s m meth c b L xs) (hK : va_K (dC, dI) vwCl [(cy, .int)] s) (hG : GL (fun q : Nat => s.heap.size ≤ q) s) (x3 : Int32) (hi1 : vp_in (x3 + (1 : Int32)) L) (hi2 : vp_in (x3 + (2 : Int32)) L) (hi3 : vp_in (x3 + (3 : Int32)) L) (n : Nat) (h0 h1 : Nat → Nat) (w0 w1 : Nat → Nat → Int32) (hn : n < 1000) (hR : zR n w0 w1) (kk : ∀ (v0 v1 : Nat → Nat → Int32) (H : Heap) (locs : List Loc) (ls : Array Slot), zR (n + 1) v0 v1 → va_P (dC, dI) vwCl (zW_78 cy h0 v0 h1 v1) H → va_D (fun q : Nat => s.heap.size ≤ q) (zW_78 cy h0 v0 h1 v1) → va_S (fun q : Nat => s.heap.size ≤ q) s.heap H locs → lv_has ls 4 [(0, .ref b), (1, .ref (h0 0)), (2, .ref (h1 0)), (3, .int x3)] → W p l e room_1 s m #[Value.ref b] below meth c H locs 43 1370 (lw_Z below #[Value.ref b] s) (F0 m 899 ls [])) (H : Heap) (locs : List Loc) (ls : Array Slot) (hP : va_P (dC, dI) vwCl (zW_78 cy h0 w0 h1 w1) H) (hD : va_D (fun q : Nat => s.heap.size ≤ q) (zW_78 cy h0 w0 h1 w1)) (hS : va_S (fun q : Nat => s.heap.size ≤ q) s.heap H locs) (hl : lv_has ls 4 [(0, .ref b), (1, .ref (h0 0)), (2, .ref (h1 0)), (3, .int x3)]) : W p l e room_1 s m #[Value.ref b] below meth c H locs 43 1370 (lw_Z below #[Value.ref b] s) (F0 m 538 ls []) := by
  obtain ⟨hx, hb, hr, hml, hown, hts0, hX, hbl, hlocks, hgv⟩ := C0
  have hts : ∀ w ∈ wsA, w.before #[Value.ref b] s = true := fun w h => hts0 w (wa_of h)
  have hown : s.vm.findClass RL = some m.cls := hown
  have hA : ∀ q : Nat, s.heap.size ≤ q → (fun q : Nat => s.heap.size ≤ q) q := fun _ h => h
  have hbA : ¬ (fun q : Nat => s.heap.size ≤ q) b := Nat.not_le.mpr hbl
  obtain ⟨r, c3, c28, d3, d9, hzE, hzM, hR1⟩ := sim_over hn hR
  refine lv_aload_n hx hb dL_law_538 rfl (lv_at hl 1 rfl) ?_
  refine zwiV (q := (RX7, TX7, 10)) (As := []) (rest := []) (r := r) (u := (c3, c28)) (wn := zW_78 cy h0 (ups (ups w0 3 c3) 28 c28) h1 w1) ⟨hx, hb, hml, hown, hts⟩ (kX7_over l dC dI cy h0 w0 H.size (r, c3, c28) hzE) mw_413 mw_414 mw_415 mw_1 mw_416 hdX7_over rfl rfl ⟨Nat.le_of_ble_eq_true rfl, Nat.le_of_ble_eq_true rfl⟩ hP hK hG hS 0 rfl rfl hD hA [0, 1, 2, 3, 4, 5, 6, 7, 8, 9, 10, 11, 12, 13, 14, 15, 16, 17, 18, 19, 20, 21, 22, 23, 24, 25, 26, 27, 28] [29, 30, 31, 32, 33, 34, 35, 36, 37, 38, 39, 40, 41, 42] [14, 15, 16, 17, 18, 19, 20, 21, 22, 23, 24, 25, 26, 27, 28, 29, 30, 31, 32, 33, 34, 35, 36, 37, 38, 39, 40, 41, 42, 0, 1, 2, 3, 4, 5, 6, 7, 8, 9, 10, 11, 12, 13] rfl rfl rfl rfl (by decide) rfl rfl rfl hl.1 rfl (Nat.le_of_ble_eq_true rfl) dL_law_539 ⟨Nat.le_refl 43, Nat.le_refl 1370⟩ (fun H locs hP hD hS => ?_)
  refine lv_aload_n hx hb dL_law_542 rfl (lv_at hl 2 rfl) ?_
  refine zwiV (q := (RX8, TX8, 37)) (As := []) (rest := [.int r]) (r := r) (u := (d3, d9)) (wn := zW_78 cy h0 (ups (ups w0 3 c3) 28 c28) h1 (ups (ups w1 3 d3) 9 d9)) ⟨hx, hb, hml, hown, hts⟩ (kX8_over l dC dI cy h1 w1 H.size (r, d3, d9) hzM) mw_793 mw_794 mw_795 mw_9 mw_796 hdX8_over rfl rfl ⟨Nat.le_of_ble_eq_true rfl, Nat.le_of_ble_eq_true rfl⟩ hP hK hG hS 29 rfl rfl hD hA [29, 30, 31, 32, 33, 34, 35, 36, 37, 38, 39, 40, 41, 42] [0, 1, 2, 3, 4, 5, 6, 7, 8, 9, 10, 11, 12, 13, 14, 15, 16, 17, 18, 19, 20, 21, 22, 23, 24, 25, 26, 27, 28] [0, 1, 2, 3, 4, 5, 6, 7, 8, 9, 10, 11, 12, 13, 14, 15, 16, 17, 18, 19, 20, 21, 22, 23, 24, 25, 26, 27, 28, 29, 30, 31, 32, 33, 34, 35, 36, 37, 38, 39, 40, 41, 42] rfl rfl rfl rfl (by decide) rfl rfl rfl hl.1 rfl (Nat.le_of_ble_eq_true rfl) dL_law_543 ⟨Nat.le_refl 43, Nat.le_refl 1370⟩ (fun H locs hP hD hS => ?_)
  refine lv_icmp_eq (tgt := 899) hx hb dL_law_546 (by decide) (fun hc => ?_) (fun hc => ?_)
  · exact kk _ _ H locs ls hR1 hP hD hS hl
  · exact absurd rfl hc
set_option maxHeartbeats 4000000 in
set_option maxRecDepth 100000 in
theorem lc_17 {p : Program} {l : Launch} {e : Env} {s : State} {m : MethodId} {below : List Frame} {meth : Method} {c : Code} {dC : Nat → ClassId} {dI : Nat → Nat → Nat} {cy : ClassId} {b L : Nat} {xs : Nat → Int32} (C0 : lw_At p s m meth c b L xs) (hK : va_K (dC, dI) vwCl [(cy, .int)] s) (hG : GL (fun q : Nat => s.heap.size ≤ q) s) (x3 : Int32) (hi1 : vp_in (x3 + (1 : Int32)) L) (hi2 : vp_in (x3 + (2 : Int32)) L) (hi3 : vp_in (x3 + (3 : Int32)) L) (n : Nat) (h0 h1 : Nat → Nat) (w0 w1 : Nat → Nat → Int32) (hn : n < 1000) (hR : zR n w0 w1) (kk : ∀ (v0 v1 : Nat → Nat → Int32) (H : Heap) (locs : List Loc) (ls : Array Slot), zR (n + 1) v0 v1 → va_P (dC, dI) vwCl (zW_78 cy h0 v0 h1 v1) H → va_D (fun q : Nat => s.heap.size ≤ q) (zW_78 cy h0 v0 h1 v1) → va_S (fun q : Nat => s.heap.size ≤ q) s.heap H locs → lv_has ls 4 [(0, .ref b), (1, .ref (h0 0)), (2, .ref (h1 0)), (3, .int x3)] → W p l e room_1 s m #[Value.ref b] below meth c H locs 43 1370 (lw_Z below #[Value.ref b] s) (F0 m 899 ls [])) (H : Heap) (locs : List Loc) (ls : Array Slot) (hP : va_P (dC, dI) vwCl (zW_78 cy h0 w0 h1 w1) H) (hD : va_D (fun q : Nat => s.heap.size ≤ q) (zW_78 cy h0 w0 h1 w1)) (hS : va_S (fun q : Nat => s.heap.size ≤ q) s.heap H locs) (hl : lv_has ls 4 [(0, .ref b), (1, .ref (h0 0)), (2, .ref (h1 0)), (3, .int x3)]) : W p l e room_1 s m #[Value.ref b] below meth c H locs 43 1370 (lw_Z below #[Value.ref b] s) (F0 m 551 ls []) := by
  obtain ⟨hx, hb, hr, hml, hown, hts0, hX, hbl, hlocks, hgv⟩ := C0
  have hts : ∀ w ∈ wsA, w.before #[Value.ref b] s = true := fun w h => hts0 w (wa_of h)
  have hown : s.vm.findClass RL = some m.cls := hown
  have hA : ∀ q : Nat, s.heap.size ≤ q → (fun q : Nat => s.heap.size ≤ q) q := fun _ h => h
  have hbA : ¬ (fun q : Nat => s.heap.size ≤ q) b := Nat.not_le.mpr hbl
  obtain ⟨r, c25, c28, d9, d12, d13, hzE, hzM, hR1⟩ := sim_still hn hR (xs (x3 + (1 : Int32)).toNatClampNeg)
  refine lv_aload_n hx hb dL_law_551 rfl (lv_at hl 1 rfl) ?_
  refine lv_aload_n hx hb dL_law_552 rfl (lv_at hl 0 rfl) ?_
  refine lv_iload_n hx hb dL_law_553 rfl (lv_at hl 3 rfl) ?_
  refine lv_iconst (v := (1 : Int32)) hx hb dL_law_554 (by decide) ?_
  refine lv_iadd hx hb dL_law_555 ?_
  refine va_sld hx hb hX hbl hbA hS hi1 dL_law_556 ?_
  refine zwiV (q := (RX7, TX7, 10)) (As := [.int (xs (x3 + (1 : Int32)).toNatClampNeg)]) (rest := []) (r := r) (u := (c25, c28)) (wn := zW_78 cy h0 (ups (ups w0 25 c25) 28 c28) h1 w1) ⟨hx, hb, hml, hown, hts⟩ (kX7_still l dC dI cy h0 w0 (xs (x3 + (1 : Int32)).toNatClampNeg) H.size (r, c25, c28) hzE) mw_417 mw_418 mw_419 mw_1 mw_420 hdX7_still rfl rfl ⟨Nat.le_of_ble_eq_true rfl, Nat.le_of_ble_eq_true rfl⟩ hP hK hG hS 0 rfl rfl hD hA [0, 1, 2, 3, 4, 5, 6, 7, 8, 9, 10, 11, 12, 13, 14, 15, 16, 17, 18, 19, 20, 21, 22, 23, 24, 25, 26, 27, 28] [29, 30, 31, 32, 33, 34, 35, 36, 37, 38, 39, 40, 41, 42] [14, 15, 16, 17, 18, 19, 20, 21, 22, 23, 24, 25, 26, 27, 28, 29, 30, 31, 32, 33, 34, 35, 36, 37, 38, 39, 40, 41, 42, 0, 1, 2, 3, 4, 5, 6, 7, 8, 9, 10, 11, 12, 13] rfl rfl rfl rfl (by decide) rfl rfl rfl hl.1 rfl (Nat.le_of_ble_eq_true rfl) dL_law_557 ⟨Nat.le_refl 43, Nat.le_refl 1370⟩ (fun H locs hP hD hS => ?_)
  refine lv_aload_n hx hb dL_law_560 rfl (lv_at hl 2 rfl) ?_
  refine lv_aload_n hx hb dL_law_561 rfl (lv_at hl 0 rfl) ?_
  refine lv_iload_n hx hb dL_law_562 rfl (lv_at hl 3 rfl) ?_
  refine lv_iconst (v := (1 : Int32)) hx hb dL_law_563 (by decide) ?_
  refine lv_iadd hx hb dL_law_564 ?_
  refine va_sld hx hb hX hbl hbA hS hi1 dL_law_565 ?_
  refine zwiV (q := (RX8, TX8, 37)) (As := [.int (xs (x3 + (1 : Int32)).toNatClampNeg)]) (rest := [.int r]) (r := r) (u := (d9, d12, d13)) (wn := zW_78 cy h0 (ups (ups w0 25 c25) 28 c28) h1 (ups (ups (ups w1 9 d9) 12 d12) 13 d13)) ⟨hx, hb, hml, hown, hts⟩ (kX8_still l dC dI cy h1 w1 (xs (x3 + (1 : Int32)).toNatClampNeg) H.size (r, d9, d12, d13) hzM) mw_797 mw_798 mw_799 mw_9 mw_800 hdX8_still rfl rfl ⟨Nat.le_of_ble_eq_true rfl, Nat.le_of_ble_eq_true rfl⟩ hP hK hG hS 29 rfl rfl hD hA [29, 30, 31, 32, 33, 34, 35, 36, 37, 38, 39, 40, 41, 42] [0, 1, 2, 3, 4, 5, 6, 7, 8, 9, 10, 11, 12, 13, 14, 15, 16, 17, 18, 19, 20, 21, 22, 23, 24, 25, 26, 27, 28] [0, 1, 2, 3, 4, 5, 6, 7, 8, 9, 10, 11, 12, 13, 14, 15, 16, 17, 18, 19, 20, 21, 22, 23, 24, 25, 26, 27, 28, 29, 30, 31, 32, 33, 34, 35, 36, 37, 38, 39, 40, 41, 42] rfl rfl rfl rfl (by decide) rfl rfl rfl hl.1 rfl (Nat.le_of_ble_eq_true rfl) dL_law_566 ⟨Nat.le_refl 43, Nat.le_refl 1370⟩ (fun H locs hP hD hS => ?_)
  refine lv_icmp_eq (tgt := 899) hx hb dL_law_569 (by decide) (fun hc => ?_) (fun hc => ?_)
  · exact kk _ _ H locs ls hR1 hP hD hS hl
  · exact absurd rfl hc
set_option maxHeartbeats 4000000 in
set_option maxRecDepth 100000 in
theorem lc_18 {p : Program} {l : Launch} {e : Env} {s : State} {m : MethodId} {below : List Frame} {meth : Method} {c : Code} {dC : Nat → ClassId} {dI : Nat → Nat → Nat} {cy : ClassId} {b L : Nat} {xs : Nat → Int32} (C0 : lw_At p s m meth c b L xs) (hK : va_K (dC, dI) vwCl [(cy, .int)] s) (hG : GL (fun q : Nat => s.heap.size ≤ q) s) (x3 : Int32) (hi1 : vp_in (x3 + (1 : Int32)) L) (hi2 : vp_in (x3 + (2 : Int32)) L) (hi3 : vp_in (x3 + (3 : Int32)) L) (n : Nat) (h0 h1 : Nat → Nat) (w0 w1 : Nat → Nat → Int32) (hn : n < 1000) (hR : zR n w0 w1) (kk : ∀ (v0 v1 : Nat → Nat → Int32) (H : Heap) (locs : List Loc) (ls : Array Slot), zR (n + 1) v0 v1 → va_P (dC, dI) vwCl (zW_78 cy h0 v0 h1 v1) H → va_D (fun q : Nat => s.heap.size ≤ q) (zW_78 cy h0 v0 h1 v1) → va_S (fun q : Nat => s.heap.size ≤ q) s.heap H locs → lv_has ls 4 [(0, .ref b), (1, .ref (h0 0)), (2, .ref (h1 0)), (3, .int x3)] → W p l e room_1 s m #[Value.ref b] below meth c H locs 43 1370 (lw_Z below #[Value.ref b] s) (F0 m 899 ls [])) (H : Heap) (locs : List Loc) (ls : Array Slot) (hP : va_P (dC, dI) vwCl (zW_78 cy h0 w0 h1 w1) H) (hD : va_D (fun q : Nat => s.heap.size ≤ q) (zW_78 cy h0 w0 h1 w1)) (hS : va_S (fun q : Nat => s.heap.size ≤ q) s.heap H locs) (hl : lv_has ls 4 [(0, .ref b), (1, .ref (h0 0)), (2, .ref (h1 0)), (3, .int x3)]) : W p l e room_1 s m #[Value.ref b] below meth c H locs 43 1370 (lw_Z below #[Value.ref b] s) (F0 m 574 ls []) := by
  obtain ⟨hx, hb, hr, hml, hown, hts0, hX, hbl, hlocks, hgv⟩ := C0
  have hts : ∀ w ∈ wsA, w.before #[Value.ref b] s = true := fun w h => hts0 w (wa_of h)
  have hown : s.vm.findClass RL = some m.cls := hown
  have hA : ∀ q : Nat, s.heap.size ≤ q → (fun q : Nat => s.heap.size ≤ q) q := fun _ h => h
  have hbA : ¬ (fun q : Nat => s.heap.size ≤ q) b := Nat.not_le.mpr hbl
  obtain ⟨r, c25, d12, d13, hzE, hzM, hR1⟩ := sim_clears hn hR
  refine lv_aload_n hx hb dL_law_574 rfl (lv_at hl 1 rfl) ?_
  refine zwiV (q := (RX7, TX7, 10)) (As := []) (rest := []) (r := r) (u := c25) (wn := zW_78 cy h0 (ups w0 25 c25) h1 w1) ⟨hx, hb, hml, hown, hts⟩ (kX7_clears l dC dI cy h0 w0 H.size (r, c25) hzE) mw_440 mw_441 mw_442 mw_1 mw_443 hdX7_clears rfl rfl ⟨Nat.le_of_ble_eq_true rfl, Nat.le_of_ble_eq_true rfl⟩ hP hK hG hS 0 rfl rfl hD hA [0, 1, 2, 3, 4, 5, 6, 7, 8, 9, 10, 11, 12, 13, 14, 15, 16, 17, 18, 19, 20, 21, 22, 23, 24, 25, 26, 27, 28] [29, 30, 31, 32, 33, 34, 35, 36, 37, 38, 39, 40, 41, 42] [14, 15, 16, 17, 18, 19, 20, 21, 22, 23, 24, 25, 26, 27, 28, 29, 30, 31, 32, 33, 34, 35, 36, 37, 38, 39, 40, 41, 42, 0, 1, 2, 3, 4, 5, 6, 7, 8, 9, 10, 11, 12, 13] rfl rfl rfl rfl (by decide) rfl rfl rfl hl.1 rfl (Nat.le_of_ble_eq_true rfl) dL_law_575 ⟨Nat.le_refl 43, Nat.le_refl 1370⟩ (fun H locs hP hD hS => ?_)
  refine lv_aload_n hx hb dL_law_578 rfl (lv_at hl 2 rfl) ?_
  refine zwiV (q := (RX8, TX8, 37)) (As := []) (rest := [.int r]) (r := r) (u := (d12, d13)) (wn := zW_78 cy h0 (ups w0 25 c25) h1 (ups (ups w1 12 d12) 13 d13)) ⟨hx, hb, hml, hown, hts⟩ (kX8_clears l dC dI cy h1 w1 H.size (r, d12, d13) hzM) mw_804 mw_805 mw_806 mw_9 mw_807 hdX8_clears rfl rfl ⟨Nat.le_of_ble_eq_true rfl, Nat.le_of_ble_eq_true rfl⟩ hP hK hG hS 29 rfl rfl hD hA [29, 30, 31, 32, 33, 34, 35, 36, 37, 38, 39, 40, 41, 42] [0, 1, 2, 3, 4, 5, 6, 7, 8, 9, 10, 11, 12, 13, 14, 15, 16, 17, 18, 19, 20, 21, 22, 23, 24, 25, 26, 27, 28] [0, 1, 2, 3, 4, 5, 6, 7, 8, 9, 10, 11, 12, 13, 14, 15, 16, 17, 18, 19, 20, 21, 22, 23, 24, 25, 26, 27, 28, 29, 30, 31, 32, 33, 34, 35, 36, 37, 38, 39, 40, 41, 42] rfl rfl rfl rfl (by decide) rfl rfl rfl hl.1 rfl (Nat.le_of_ble_eq_true rfl) dL_law_579 ⟨Nat.le_refl 43, Nat.le_refl 1370⟩ (fun H locs hP hD hS => ?_)
  refine lv_icmp_eq (tgt := 899) hx hb dL_law_582 (by decide) (fun hc => ?_) (fun hc => ?_)
  · exact kk _ _ H locs ls hR1 hP hD hS hl
  · exact absurd rfl hc
set_option maxHeartbeats 4000000 in
set_option maxRecDepth 100000 in
theorem lc_19 {p : Program} {l : Launch} {e : Env} {s : State} {m : MethodId} {below : List Frame} {meth : Method} {c : Code} {dC : Nat → ClassId} {dI : Nat → Nat → Nat} {cy : ClassId} {b L : Nat} {xs : Nat → Int32} (C0 : lw_At p s m meth c b L xs) (hK : va_K (dC, dI) vwCl [(cy, .int)] s) (hG : GL (fun q : Nat => s.heap.size ≤ q) s) (x3 : Int32) (hi1 : vp_in (x3 + (1 : Int32)) L) (hi2 : vp_in (x3 + (2 : Int32)) L) (hi3 : vp_in (x3 + (3 : Int32)) L) (n : Nat) (h0 h1 : Nat → Nat) (w0 w1 : Nat → Nat → Int32) (hn : n < 1000) (hR : zR n w0 w1) (kk : ∀ (v0 v1 : Nat → Nat → Int32) (H : Heap) (locs : List Loc) (ls : Array Slot), zR (n + 1) v0 v1 → va_P (dC, dI) vwCl (zW_78 cy h0 v0 h1 v1) H → va_D (fun q : Nat => s.heap.size ≤ q) (zW_78 cy h0 v0 h1 v1) → va_S (fun q : Nat => s.heap.size ≤ q) s.heap H locs → lv_has ls 4 [(0, .ref b), (1, .ref (h0 0)), (2, .ref (h1 0)), (3, .int x3)] → W p l e room_1 s m #[Value.ref b] below meth c H locs 43 1370 (lw_Z below #[Value.ref b] s) (F0 m 899 ls [])) (H : Heap) (locs : List Loc) (ls : Array Slot) (hP : va_P (dC, dI) vwCl (zW_78 cy h0 w0 h1 w1) H) (hD : va_D (fun q : Nat => s.heap.size ≤ q) (zW_78 cy h0 w0 h1 w1)) (hS : va_S (fun q : Nat => s.heap.size ≤ q) s.heap H locs) (hl : lv_has ls 4 [(0, .ref b), (1, .ref (h0 0)), (2, .ref (h1 0)), (3, .int x3)]) : W p l e room_1 s m #[Value.ref b] below meth c H locs 43 1370 (lw_Z below #[Value.ref b] s) (F0 m 587 ls []) := by
  obtain ⟨hx, hb, hr, hml, hown, hts0, hX, hbl, hlocks, hgv⟩ := C0
  have hts : ∀ w ∈ wsA, w.before #[Value.ref b] s = true := fun w h => hts0 w (wa_of h)
  have hown : s.vm.findClass RL = some m.cls := hown
  have hA : ∀ q : Nat, s.heap.size ≤ q → (fun q : Nat => s.heap.size ≤ q) q := fun _ h => h
  have hbA : ¬ (fun q : Nat => s.heap.size ≤ q) b := Nat.not_le.mpr hbl
  obtain ⟨r, c13, c28, d0, d3, d9, d11, hzE, hzM, hR1⟩ := sim_line hn hR
  refine lv_aload_n hx hb dL_law_587 rfl (lv_at hl 1 rfl) ?_
  refine zwiV (q := (RX7, TX7, 10)) (As := []) (rest := []) (r := r) (u := (c13, c28)) (wn := zW_78 cy h0 (ups (ups w0 13 c13) 28 c28) h1 w1) ⟨hx, hb, hml, hown, hts⟩ (kX7_line l dC dI cy h0 w0 H.size (r, c13, c28) hzE) mw_444 mw_445 mw_446 mw_1 mw_447 hdX7_line rfl rfl ⟨Nat.le_of_ble_eq_true rfl, Nat.le_of_ble_eq_true rfl⟩ hP hK hG hS 0 rfl rfl hD hA [0, 1, 2, 3, 4, 5, 6, 7, 8, 9, 10, 11, 12, 13, 14, 15, 16, 17, 18, 19, 20, 21, 22, 23, 24, 25, 26, 27, 28] [29, 30, 31, 32, 33, 34, 35, 36, 37, 38, 39, 40, 41, 42] [14, 15, 16, 17, 18, 19, 20, 21, 22, 23, 24, 25, 26, 27, 28, 29, 30, 31, 32, 33, 34, 35, 36, 37, 38, 39, 40, 41, 42, 0, 1, 2, 3, 4, 5, 6, 7, 8, 9, 10, 11, 12, 13] rfl rfl rfl rfl (by decide) rfl rfl rfl hl.1 rfl (Nat.le_of_ble_eq_true rfl) dL_law_588 ⟨Nat.le_refl 43, Nat.le_refl 1370⟩ (fun H locs hP hD hS => ?_)
  refine lv_aload_n hx hb dL_law_591 rfl (lv_at hl 2 rfl) ?_
  refine zwiV (q := (RX8, TX8, 37)) (As := []) (rest := [.int r]) (r := r) (u := (d0, d3, d9, d11)) (wn := zW_78 cy h0 (ups (ups w0 13 c13) 28 c28) h1 (ups (ups (ups (ups w1 0 d0) 3 d3) 9 d9) 11 d11)) ⟨hx, hb, hml, hown, hts⟩ (kX8_line l dC dI cy h1 w1 H.size (r, d0, d3, d9, d11) hzM) mw_808 mw_809 mw_810 mw_9 mw_811 hdX8_line rfl rfl ⟨Nat.le_of_ble_eq_true rfl, Nat.le_of_ble_eq_true rfl⟩ hP hK hG hS 29 rfl rfl hD hA [29, 30, 31, 32, 33, 34, 35, 36, 37, 38, 39, 40, 41, 42] [0, 1, 2, 3, 4, 5, 6, 7, 8, 9, 10, 11, 12, 13, 14, 15, 16, 17, 18, 19, 20, 21, 22, 23, 24, 25, 26, 27, 28] [0, 1, 2, 3, 4, 5, 6, 7, 8, 9, 10, 11, 12, 13, 14, 15, 16, 17, 18, 19, 20, 21, 22, 23, 24, 25, 26, 27, 28, 29, 30, 31, 32, 33, 34, 35, 36, 37, 38, 39, 40, 41, 42] rfl rfl rfl rfl (by decide) rfl rfl rfl hl.1 rfl (Nat.le_of_ble_eq_true rfl) dL_law_592 ⟨Nat.le_refl 43, Nat.le_refl 1370⟩ (fun H locs hP hD hS => ?_)
  refine lv_icmp_eq (tgt := 899) hx hb dL_law_595 (by decide) (fun hc => ?_) (fun hc => ?_)
  · exact kk _ _ H locs ls hR1 hP hD hS hl
  · exact absurd rfl hc
set_option maxHeartbeats 4000000 in
set_option maxRecDepth 100000 in
theorem lc_20 {p : Program} {l : Launch} {e : Env} {s : State} {m : MethodId} {below : List Frame} {meth : Method} {c : Code} {dC : Nat → ClassId} {dI : Nat → Nat → Nat} {cy : ClassId} {b L : Nat} {xs : Nat → Int32} (C0 : lw_At p s m meth c b L xs) (hK : va_K (dC, dI) vwCl [(cy, .int)] s) (hG : GL (fun q : Nat => s.heap.size ≤ q) s) (x3 : Int32) (hi1 : vp_in (x3 + (1 : Int32)) L) (hi2 : vp_in (x3 + (2 : Int32)) L) (hi3 : vp_in (x3 + (3 : Int32)) L) (n : Nat) (h0 h1 : Nat → Nat) (w0 w1 : Nat → Nat → Int32) (hn : n < 1000) (hR : zR n w0 w1) (kk : ∀ (v0 v1 : Nat → Nat → Int32) (H : Heap) (locs : List Loc) (ls : Array Slot), zR (n + 1) v0 v1 → va_P (dC, dI) vwCl (zW_78 cy h0 v0 h1 v1) H → va_D (fun q : Nat => s.heap.size ≤ q) (zW_78 cy h0 v0 h1 v1) → va_S (fun q : Nat => s.heap.size ≤ q) s.heap H locs → lv_has ls 4 [(0, .ref b), (1, .ref (h0 0)), (2, .ref (h1 0)), (3, .int x3)] → W p l e room_1 s m #[Value.ref b] below meth c H locs 43 1370 (lw_Z below #[Value.ref b] s) (F0 m 899 ls [])) (H : Heap) (locs : List Loc) (ls : Array Slot) (hP : va_P (dC, dI) vwCl (zW_78 cy h0 w0 h1 w1) H) (hD : va_D (fun q : Nat => s.heap.size ≤ q) (zW_78 cy h0 w0 h1 w1)) (hS : va_S (fun q : Nat => s.heap.size ≤ q) s.heap H locs) (hl : lv_has ls 4 [(0, .ref b), (1, .ref (h0 0)), (2, .ref (h1 0)), (3, .int x3)]) : W p l e room_1 s m #[Value.ref b] below meth c H locs 43 1370 (lw_Z below #[Value.ref b] s) (F0 m 600 ls []) := by
  obtain ⟨hx, hb, hr, hml, hown, hts0, hX, hbl, hlocks, hgv⟩ := C0
  have hts : ∀ w ∈ wsA, w.before #[Value.ref b] s = true := fun w h => hts0 w (wa_of h)
  have hown : s.vm.findClass RL = some m.cls := hown
  have hA : ∀ q : Nat, s.heap.size ≤ q → (fun q : Nat => s.heap.size ≤ q) q := fun _ h => h
  have hbA : ¬ (fun q : Nat => s.heap.size ≤ q) b := Nat.not_le.mpr hbl
  obtain ⟨r, c13, c28, d0, d3, d9, d11, hzE, hzM, hR1⟩ := sim_lighter hn hR
  refine lv_aload_n hx hb dL_law_600 rfl (lv_at hl 1 rfl) ?_
  refine zwiV (q := (RX7, TX7, 10)) (As := []) (rest := []) (r := r) (u := (c13, c28)) (wn := zW_78 cy h0 (ups (ups w0 13 c13) 28 c28) h1 w1) ⟨hx, hb, hml, hown, hts⟩ (kX7_lighter l dC dI cy h0 w0 H.size (r, c13, c28) hzE) mw_452 mw_453 mw_454 mw_1 mw_455 hdX7_lighter rfl rfl ⟨Nat.le_of_ble_eq_true rfl, Nat.le_of_ble_eq_true rfl⟩ hP hK hG hS 0 rfl rfl hD hA [0, 1, 2, 3, 4, 5, 6, 7, 8, 9, 10, 11, 12, 13, 14, 15, 16, 17, 18, 19, 20, 21, 22, 23, 24, 25, 26, 27, 28] [29, 30, 31, 32, 33, 34, 35, 36, 37, 38, 39, 40, 41, 42] [14, 15, 16, 17, 18, 19, 20, 21, 22, 23, 24, 25, 26, 27, 28, 29, 30, 31, 32, 33, 34, 35, 36, 37, 38, 39, 40, 41, 42, 0, 1, 2, 3, 4, 5, 6, 7, 8, 9, 10, 11, 12, 13] rfl rfl rfl rfl (by decide) rfl rfl rfl hl.1 rfl (Nat.le_of_ble_eq_true rfl) dL_law_601 ⟨Nat.le_refl 43, Nat.le_refl 1370⟩ (fun H locs hP hD hS => ?_)
  refine lv_aload_n hx hb dL_law_604 rfl (lv_at hl 2 rfl) ?_
  refine zwiV (q := (RX8, TX8, 37)) (As := []) (rest := [.int r]) (r := r) (u := (d0, d3, d9, d11)) (wn := zW_78 cy h0 (ups (ups w0 13 c13) 28 c28) h1 (ups (ups (ups (ups w1 0 d0) 3 d3) 9 d9) 11 d11)) ⟨hx, hb, hml, hown, hts⟩ (kX8_lighter l dC dI cy h1 w1 H.size (r, d0, d3, d9, d11) hzM) mw_818 mw_819 mw_820 mw_9 mw_821 hdX8_lighter rfl rfl ⟨Nat.le_of_ble_eq_true rfl, Nat.le_of_ble_eq_true rfl⟩ hP hK hG hS 29 rfl rfl hD hA [29, 30, 31, 32, 33, 34, 35, 36, 37, 38, 39, 40, 41, 42] [0, 1, 2, 3, 4, 5, 6, 7, 8, 9, 10, 11, 12, 13, 14, 15, 16, 17, 18, 19, 20, 21, 22, 23, 24, 25, 26, 27, 28] [0, 1, 2, 3, 4, 5, 6, 7, 8, 9, 10, 11, 12, 13, 14, 15, 16, 17, 18, 19, 20, 21, 22, 23, 24, 25, 26, 27, 28, 29, 30, 31, 32, 33, 34, 35, 36, 37, 38, 39, 40, 41, 42] rfl rfl rfl rfl (by decide) rfl rfl rfl hl.1 rfl (Nat.le_of_ble_eq_true rfl) dL_law_605 ⟨Nat.le_refl 43, Nat.le_refl 1370⟩ (fun H locs hP hD hS => ?_)
  refine lv_icmp_eq (tgt := 899) hx hb dL_law_608 (by decide) (fun hc => ?_) (fun hc => ?_)
  · exact kk _ _ H locs ls hR1 hP hD hS hl
  · exact absurd rfl hc
set_option maxHeartbeats 4000000 in
set_option maxRecDepth 100000 in
theorem lc_21 {p : Program} {l : Launch} {e : Env} {s : State} {m : MethodId} {below : List Frame} {meth : Method} {c : Code} {dC : Nat → ClassId} {dI : Nat → Nat → Nat} {cy : ClassId} {b L : Nat} {xs : Nat → Int32} (C0 : lw_At p s m meth c b L xs) (hK : va_K (dC, dI) vwCl [(cy, .int)] s) (hG : GL (fun q : Nat => s.heap.size ≤ q) s) (x3 : Int32) (hi1 : vp_in (x3 + (1 : Int32)) L) (hi2 : vp_in (x3 + (2 : Int32)) L) (hi3 : vp_in (x3 + (3 : Int32)) L) (n : Nat) (h0 h1 : Nat → Nat) (w0 w1 : Nat → Nat → Int32) (hn : n < 1000) (hR : zR n w0 w1) (kk : ∀ (v0 v1 : Nat → Nat → Int32) (H : Heap) (locs : List Loc) (ls : Array Slot), zR (n + 1) v0 v1 → va_P (dC, dI) vwCl (zW_78 cy h0 v0 h1 v1) H → va_D (fun q : Nat => s.heap.size ≤ q) (zW_78 cy h0 v0 h1 v1) → va_S (fun q : Nat => s.heap.size ≤ q) s.heap H locs → lv_has ls 4 [(0, .ref b), (1, .ref (h0 0)), (2, .ref (h1 0)), (3, .int x3)] → W p l e room_1 s m #[Value.ref b] below meth c H locs 43 1370 (lw_Z below #[Value.ref b] s) (F0 m 899 ls [])) (H : Heap) (locs : List Loc) (ls : Array Slot) (hP : va_P (dC, dI) vwCl (zW_78 cy h0 w0 h1 w1) H) (hD : va_D (fun q : Nat => s.heap.size ≤ q) (zW_78 cy h0 w0 h1 w1)) (hS : va_S (fun q : Nat => s.heap.size ≤ q) s.heap H locs) (hl : lv_has ls 4 [(0, .ref b), (1, .ref (h0 0)), (2, .ref (h1 0)), (3, .int x3)]) : W p l e room_1 s m #[Value.ref b] below meth c H locs 43 1370 (lw_Z below #[Value.ref b] s) (F0 m 613 ls []) := by
  obtain ⟨hx, hb, hr, hml, hown, hts0, hX, hbl, hlocks, hgv⟩ := C0
  have hts : ∀ w ∈ wsA, w.before #[Value.ref b] s = true := fun w h => hts0 w (wa_of h)
  have hown : s.vm.findClass RL = some m.cls := hown
  have hA : ∀ q : Nat, s.heap.size ≤ q → (fun q : Nat => s.heap.size ≤ q) q := fun _ h => h
  have hbA : ¬ (fun q : Nat => s.heap.size ≤ q) b := Nat.not_le.mpr hbl
  obtain ⟨r, c28, d9, hzE, hzM, hR1⟩ := sim_holds hn hR (xs (x3 + (1 : Int32)).toNatClampNeg) (xs (x3 + (2 : Int32)).toNatClampNeg) (xs (x3 + (3 : Int32)).toNatClampNeg)
  refine lv_aload_n hx hb dL_law_613 rfl (lv_at hl 1 rfl) ?_
  refine lv_aload_n hx hb dL_law_614 rfl (lv_at hl 0 rfl) ?_
  refine lv_iload_n hx hb dL_law_615 rfl (lv_at hl 3 rfl) ?_
  refine lv_iconst (v := (1 : Int32)) hx hb dL_law_616 (by decide) ?_
  refine lv_iadd hx hb dL_law_617 ?_
  refine va_sld hx hb hX hbl hbA hS hi1 dL_law_618 ?_
  refine lv_aload_n hx hb dL_law_619 rfl (lv_at hl 0 rfl) ?_
  refine lv_iload_n hx hb dL_law_620 rfl (lv_at hl 3 rfl) ?_
  refine lv_iconst (v := (2 : Int32)) hx hb dL_law_621 (by decide) ?_
  refine lv_iadd hx hb dL_law_622 ?_
  refine va_sld hx hb hX hbl hbA hS hi2 dL_law_623 ?_
  refine lv_aload_n hx hb dL_law_624 rfl (lv_at hl 0 rfl) ?_
  refine lv_iload_n hx hb dL_law_625 rfl (lv_at hl 3 rfl) ?_
  refine lv_iconst (v := (3 : Int32)) hx hb dL_law_626 (by decide) ?_
  refine lv_iadd hx hb dL_law_627 ?_
  refine va_sld hx hb hX hbl hbA hS hi3 dL_law_628 ?_
  refine zwiV (q := (RX7, TX7, 10)) (As := [.int (xs (x3 + (1 : Int32)).toNatClampNeg), .int (xs (x3 + (2 : Int32)).toNatClampNeg), .int (xs (x3 + (3 : Int32)).toNatClampNeg)]) (rest := []) (r := r) (u := c28) (wn := zW_78 cy h0 (ups w0 28 c28) h1 w1) ⟨hx, hb, hml, hown, hts⟩ (kX7_holds l dC dI cy h0 w0 (xs (x3 + (1 : Int32)).toNatClampNeg) (xs (x3 + (2 : Int32)).toNatClampNeg) (xs (x3 + (3 : Int32)).toNatClampNeg) H.size (r, c28) hzE) mw_461 mw_462 mw_463 mw_1 mw_464 hdX7_holds rfl rfl ⟨Nat.le_of_ble_eq_true rfl, Nat.le_of_ble_eq_true rfl⟩ hP hK hG hS 0 rfl rfl hD hA [0, 1, 2, 3, 4, 5, 6, 7, 8, 9, 10, 11, 12, 13, 14, 15, 16, 17, 18, 19, 20, 21, 22, 23, 24, 25, 26, 27, 28] [29, 30, 31, 32, 33, 34, 35, 36, 37, 38, 39, 40, 41, 42] [14, 15, 16, 17, 18, 19, 20, 21, 22, 23, 24, 25, 26, 27, 28, 29, 30, 31, 32, 33, 34, 35, 36, 37, 38, 39, 40, 41, 42, 0, 1, 2, 3, 4, 5, 6, 7, 8, 9, 10, 11, 12, 13] rfl rfl rfl rfl (by decide) rfl rfl rfl hl.1 rfl (Nat.le_of_ble_eq_true rfl) dL_law_629 ⟨Nat.le_refl 43, Nat.le_refl 1370⟩ (fun H locs hP hD hS => ?_)
  refine lv_aload_n hx hb dL_law_632 rfl (lv_at hl 2 rfl) ?_
  refine lv_aload_n hx hb dL_law_633 rfl (lv_at hl 0 rfl) ?_
  refine lv_iload_n hx hb dL_law_634 rfl (lv_at hl 3 rfl) ?_
  refine lv_iconst (v := (1 : Int32)) hx hb dL_law_635 (by decide) ?_
  refine lv_iadd hx hb dL_law_636 ?_
  refine va_sld hx hb hX hbl hbA hS hi1 dL_law_637 ?_
  refine lv_aload_n hx hb dL_law_638 rfl (lv_at hl 0 rfl) ?_
  refine lv_iload_n hx hb dL_law_639 rfl (lv_at hl 3 rfl) ?_
  refine lv_iconst (v := (2 : Int32)) hx hb dL_law_640 (by decide) ?_
  refine lv_iadd hx hb dL_law_641 ?_
  refine va_sld hx hb hX hbl hbA hS hi2 dL_law_642 ?_
  refine lv_aload_n hx hb dL_law_643 rfl (lv_at hl 0 rfl) ?_
  refine lv_iload_n hx hb dL_law_644 rfl (lv_at hl 3 rfl) ?_
  refine lv_iconst (v := (3 : Int32)) hx hb dL_law_645 (by decide) ?_
  refine lv_iadd hx hb dL_law_646 ?_
  refine va_sld hx hb hX hbl hbA hS hi3 dL_law_647 ?_
  refine zwiV (q := (RX8, TX8, 37)) (As := [.int (xs (x3 + (1 : Int32)).toNatClampNeg), .int (xs (x3 + (2 : Int32)).toNatClampNeg), .int (xs (x3 + (3 : Int32)).toNatClampNeg)]) (rest := [.int r]) (r := r) (u := d9) (wn := zW_78 cy h0 (ups w0 28 c28) h1 (ups w1 9 d9)) ⟨hx, hb, hml, hown, hts⟩ (kX8_holds l dC dI cy h1 w1 (xs (x3 + (1 : Int32)).toNatClampNeg) (xs (x3 + (2 : Int32)).toNatClampNeg) (xs (x3 + (3 : Int32)).toNatClampNeg) H.size (r, d9) hzM) mw_826 mw_827 mw_828 mw_9 mw_829 hdX8_holds rfl rfl ⟨Nat.le_of_ble_eq_true rfl, Nat.le_of_ble_eq_true rfl⟩ hP hK hG hS 29 rfl rfl hD hA [29, 30, 31, 32, 33, 34, 35, 36, 37, 38, 39, 40, 41, 42] [0, 1, 2, 3, 4, 5, 6, 7, 8, 9, 10, 11, 12, 13, 14, 15, 16, 17, 18, 19, 20, 21, 22, 23, 24, 25, 26, 27, 28] [0, 1, 2, 3, 4, 5, 6, 7, 8, 9, 10, 11, 12, 13, 14, 15, 16, 17, 18, 19, 20, 21, 22, 23, 24, 25, 26, 27, 28, 29, 30, 31, 32, 33, 34, 35, 36, 37, 38, 39, 40, 41, 42] rfl rfl rfl rfl (by decide) rfl rfl rfl hl.1 rfl (Nat.le_of_ble_eq_true rfl) dL_law_648 ⟨Nat.le_refl 43, Nat.le_refl 1370⟩ (fun H locs hP hD hS => ?_)
  refine lv_icmp_eq (tgt := 899) hx hb dL_law_651 (by decide) (fun hc => ?_) (fun hc => ?_)
  · exact kk _ _ H locs ls hR1 hP hD hS hl
  · exact absurd rfl hc
set_option maxHeartbeats 4000000 in
set_option maxRecDepth 100000 in
theorem lc_22 {p : Program} {l : Launch} {e : Env} {s : State} {m : MethodId} {below : List Frame} {meth : Method} {c : Code} {dC : Nat → ClassId} {dI : Nat → Nat → Nat} {cy : ClassId} {b L : Nat} {xs : Nat → Int32} (C0 : lw_At p s m meth c b L xs) (hK : va_K (dC, dI) vwCl [(cy, .int)] s) (hG : GL (fun q : Nat => s.heap.size ≤ q) s) (x3 : Int32) (hi1 : vp_in (x3 + (1 : Int32)) L) (hi2 : vp_in (x3 + (2 : Int32)) L) (hi3 : vp_in (x3 + (3 : Int32)) L) (n : Nat) (h0 h1 : Nat → Nat) (w0 w1 : Nat → Nat → Int32) (hn : n < 1000) (hR : zR n w0 w1) (kk : ∀ (v0 v1 : Nat → Nat → Int32) (H : Heap) (locs : List Loc) (ls : Array Slot), zR (n + 1) v0 v1 → va_P (dC, dI) vwCl (zW_78 cy h0 v0 h1 v1) H → va_D (fun q : Nat => s.heap.size ≤ q) (zW_78 cy h0 v0 h1 v1) → va_S (fun q : Nat => s.heap.size ≤ q) s.heap H locs → lv_has ls 4 [(0, .ref b), (1, .ref (h0 0)), (2, .ref (h1 0)), (3, .int x3)] → W p l e room_1 s m #[Value.ref b] below meth c H locs 43 1370 (lw_Z below #[Value.ref b] s) (F0 m 899 ls [])) (H : Heap) (locs : List Loc) (ls : Array Slot) (hP : va_P (dC, dI) vwCl (zW_78 cy h0 w0 h1 w1) H) (hD : va_D (fun q : Nat => s.heap.size ≤ q) (zW_78 cy h0 w0 h1 w1)) (hS : va_S (fun q : Nat => s.heap.size ≤ q) s.heap H locs) (hl : lv_has ls 4 [(0, .ref b), (1, .ref (h0 0)), (2, .ref (h1 0)), (3, .int x3)]) : W p l e room_1 s m #[Value.ref b] below meth c H locs 43 1370 (lw_Z below #[Value.ref b] s) (F0 m 656 ls []) := by
  obtain ⟨hx, hb, hr, hml, hown, hts0, hX, hbl, hlocks, hgv⟩ := C0
  have hts : ∀ w ∈ wsA, w.before #[Value.ref b] s = true := fun w h => hts0 w (wa_of h)
  have hown : s.vm.findClass RL = some m.cls := hown
  have hA : ∀ q : Nat, s.heap.size ≤ q → (fun q : Nat => s.heap.size ≤ q) q := fun _ h => h
  have hbA : ¬ (fun q : Nat => s.heap.size ≤ q) b := Nat.not_le.mpr hbl
  obtain ⟨r, hzE, hzM, hR1⟩ := sim_beachBest hn hR
  refine lv_aload_n hx hb dL_law_656 rfl (lv_at hl 1 rfl) ?_
  refine zroV (q := (RX7, TX7, 10)) (As := []) (rest := []) (r := r) ⟨hx, hb, hml, hown, hts⟩ (kX7_beachBest l dC dI cy h0 w0 r hzE) mw_468 mw_469 mw_470 mw_1 mw_471 hdX7_beachBest rfl rfl ⟨Nat.le_of_ble_eq_true rfl, Nat.le_of_ble_eq_true rfl⟩ hP hK hG hS 0 rfl rfl [0, 1, 2, 3, 4, 5, 6, 7, 8, 9, 10, 11, 12, 13, 14, 15, 16, 17, 18, 19, 20, 21, 22, 23, 24, 25, 26, 27, 28] rfl rfl hl.1 rfl (Nat.le_of_ble_eq_true rfl) dL_law_657 ⟨Nat.le_refl 43, Nat.le_refl 1370⟩ ?_
  refine lv_aload_n hx hb dL_law_660 rfl (lv_at hl 2 rfl) ?_
  refine zroV (q := (RX8, TX8, 37)) (As := []) (rest := [.int r]) (r := r) ⟨hx, hb, hml, hown, hts⟩ (kX8_beachBest l dC dI cy h1 w1 r hzM) mw_830 mw_831 mw_832 mw_9 mw_833 hdX8_beachBest rfl rfl ⟨Nat.le_of_ble_eq_true rfl, Nat.le_of_ble_eq_true rfl⟩ hP hK hG hS 29 rfl rfl [29, 30, 31, 32, 33, 34, 35, 36, 37, 38, 39, 40, 41, 42] rfl rfl hl.1 rfl (Nat.le_of_ble_eq_true rfl) dL_law_661 ⟨Nat.le_refl 43, Nat.le_refl 1370⟩ ?_
  refine lv_icmp_eq (tgt := 899) hx hb dL_law_664 (by decide) (fun hc => ?_) (fun hc => ?_)
  · exact kk _ _ H locs ls hR1 hP hD hS hl
  · exact absurd rfl hc
set_option maxHeartbeats 4000000 in
set_option maxRecDepth 100000 in
theorem lc_23 {p : Program} {l : Launch} {e : Env} {s : State} {m : MethodId} {below : List Frame} {meth : Method} {c : Code} {dC : Nat → ClassId} {dI : Nat → Nat → Nat} {cy : ClassId} {b L : Nat} {xs : Nat → Int32} (C0 : lw_At p s m meth c b L xs) (hK : va_K (dC, dI) vwCl [(cy, .int)] s) (hG : GL (fun q : Nat => s.heap.size ≤ q) s) (x3 : Int32) (hi1 : vp_in (x3 + (1 : Int32)) L) (hi2 : vp_in (x3 + (2 : Int32)) L) (hi3 : vp_in (x3 + (3 : Int32)) L) (n : Nat) (h0 h1 : Nat → Nat) (w0 w1 : Nat → Nat → Int32) (hn : n < 1000) (hR : zR n w0 w1) (kk : ∀ (v0 v1 : Nat → Nat → Int32) (H : Heap) (locs : List Loc) (ls : Array Slot), zR (n + 1) v0 v1 → va_P (dC, dI) vwCl (zW_78 cy h0 v0 h1 v1) H → va_D (fun q : Nat => s.heap.size ≤ q) (zW_78 cy h0 v0 h1 v1) → va_S (fun q : Nat => s.heap.size ≤ q) s.heap H locs → lv_has ls 4 [(0, .ref b), (1, .ref (h0 0)), (2, .ref (h1 0)), (3, .int x3)] → W p l e room_1 s m #[Value.ref b] below meth c H locs 43 1370 (lw_Z below #[Value.ref b] s) (F0 m 899 ls [])) (H : Heap) (locs : List Loc) (ls : Array Slot) (hP : va_P (dC, dI) vwCl (zW_78 cy h0 w0 h1 w1) H) (hD : va_D (fun q : Nat => s.heap.size ≤ q) (zW_78 cy h0 w0 h1 w1)) (hS : va_S (fun q : Nat => s.heap.size ≤ q) s.heap H locs) (hl : lv_has ls 4 [(0, .ref b), (1, .ref (h0 0)), (2, .ref (h1 0)), (3, .int x3)]) : W p l e room_1 s m #[Value.ref b] below meth c H locs 43 1370 (lw_Z below #[Value.ref b] s) (F0 m 669 ls []) := by
  obtain ⟨hx, hb, hr, hml, hown, hts0, hX, hbl, hlocks, hgv⟩ := C0
  have hts : ∀ w ∈ wsA, w.before #[Value.ref b] s = true := fun w h => hts0 w (wa_of h)
  have hown : s.vm.findClass RL = some m.cls := hown
  have hA : ∀ q : Nat, s.heap.size ≤ q → (fun q : Nat => s.heap.size ≤ q) q := fun _ h => h
  have hbA : ¬ (fun q : Nat => s.heap.size ≤ q) b := Nat.not_le.mpr hbl
  obtain ⟨r, c13, c28, d0, d3, d9, d11, hzE, hzM, hR1⟩ := sim_plan hn hR (xs (x3 + (1 : Int32)).toNatClampNeg) (xs (x3 + (2 : Int32)).toNatClampNeg)
  refine lv_aload_n hx hb dL_law_669 rfl (lv_at hl 1 rfl) ?_
  refine lv_aload_n hx hb dL_law_670 rfl (lv_at hl 0 rfl) ?_
  refine lv_iload_n hx hb dL_law_671 rfl (lv_at hl 3 rfl) ?_
  refine lv_iconst (v := (1 : Int32)) hx hb dL_law_672 (by decide) ?_
  refine lv_iadd hx hb dL_law_673 ?_
  refine va_sld hx hb hX hbl hbA hS hi1 dL_law_674 ?_
  refine lv_aload_n hx hb dL_law_675 rfl (lv_at hl 0 rfl) ?_
  refine lv_iload_n hx hb dL_law_676 rfl (lv_at hl 3 rfl) ?_
  refine lv_iconst (v := (2 : Int32)) hx hb dL_law_677 (by decide) ?_
  refine lv_iadd hx hb dL_law_678 ?_
  refine va_sld hx hb hX hbl hbA hS hi2 dL_law_679 ?_
  refine zwiV (q := (RX7, TX7, 10)) (As := [.int (xs (x3 + (1 : Int32)).toNatClampNeg), .int (xs (x3 + (2 : Int32)).toNatClampNeg)]) (rest := []) (r := r) (u := (c13, c28)) (wn := zW_78 cy h0 (ups (ups w0 13 c13) 28 c28) h1 w1) ⟨hx, hb, hml, hown, hts⟩ (kX7_plan l dC dI cy h0 w0 (xs (x3 + (1 : Int32)).toNatClampNeg) (xs (x3 + (2 : Int32)).toNatClampNeg) H.size (r, c13, c28) hzE) mw_481 mw_482 mw_483 mw_1 mw_484 hdX7_plan rfl rfl ⟨Nat.le_of_ble_eq_true rfl, Nat.le_of_ble_eq_true rfl⟩ hP hK hG hS 0 rfl rfl hD hA [0, 1, 2, 3, 4, 5, 6, 7, 8, 9, 10, 11, 12, 13, 14, 15, 16, 17, 18, 19, 20, 21, 22, 23, 24, 25, 26, 27, 28] [29, 30, 31, 32, 33, 34, 35, 36, 37, 38, 39, 40, 41, 42] [14, 15, 16, 17, 18, 19, 20, 21, 22, 23, 24, 25, 26, 27, 28, 29, 30, 31, 32, 33, 34, 35, 36, 37, 38, 39, 40, 41, 42, 0, 1, 2, 3, 4, 5, 6, 7, 8, 9, 10, 11, 12, 13] rfl rfl rfl rfl (by decide) rfl rfl rfl hl.1 rfl (Nat.le_of_ble_eq_true rfl) dL_law_680 ⟨Nat.le_refl 43, Nat.le_refl 1370⟩ (fun H locs hP hD hS => ?_)
  refine lv_aload_n hx hb dL_law_683 rfl (lv_at hl 2 rfl) ?_
  refine lv_aload_n hx hb dL_law_684 rfl (lv_at hl 0 rfl) ?_
  refine lv_iload_n hx hb dL_law_685 rfl (lv_at hl 3 rfl) ?_
  refine lv_iconst (v := (1 : Int32)) hx hb dL_law_686 (by decide) ?_
  refine lv_iadd hx hb dL_law_687 ?_
  refine va_sld hx hb hX hbl hbA hS hi1 dL_law_688 ?_
  refine lv_aload_n hx hb dL_law_689 rfl (lv_at hl 0 rfl) ?_
  refine lv_iload_n hx hb dL_law_690 rfl (lv_at hl 3 rfl) ?_
  refine lv_iconst (v := (2 : Int32)) hx hb dL_law_691 (by decide) ?_
  refine lv_iadd hx hb dL_law_692 ?_
  refine va_sld hx hb hX hbl hbA hS hi2 dL_law_693 ?_
  refine zwiV (q := (RX8, TX8, 37)) (As := [.int (xs (x3 + (1 : Int32)).toNatClampNeg), .int (xs (x3 + (2 : Int32)).toNatClampNeg)]) (rest := [.int r]) (r := r) (u := (d0, d3, d9, d11)) (wn := zW_78 cy h0 (ups (ups w0 13 c13) 28 c28) h1 (ups (ups (ups (ups w1 0 d0) 3 d3) 9 d9) 11 d11)) ⟨hx, hb, hml, hown, hts⟩ (kX8_plan l dC dI cy h1 w1 (xs (x3 + (1 : Int32)).toNatClampNeg) (xs (x3 + (2 : Int32)).toNatClampNeg) H.size (r, d0, d3, d9, d11) hzM) mw_834 mw_835 mw_836 mw_9 mw_837 hdX8_plan rfl rfl ⟨Nat.le_of_ble_eq_true rfl, Nat.le_of_ble_eq_true rfl⟩ hP hK hG hS 29 rfl rfl hD hA [29, 30, 31, 32, 33, 34, 35, 36, 37, 38, 39, 40, 41, 42] [0, 1, 2, 3, 4, 5, 6, 7, 8, 9, 10, 11, 12, 13, 14, 15, 16, 17, 18, 19, 20, 21, 22, 23, 24, 25, 26, 27, 28] [0, 1, 2, 3, 4, 5, 6, 7, 8, 9, 10, 11, 12, 13, 14, 15, 16, 17, 18, 19, 20, 21, 22, 23, 24, 25, 26, 27, 28, 29, 30, 31, 32, 33, 34, 35, 36, 37, 38, 39, 40, 41, 42] rfl rfl rfl rfl (by decide) rfl rfl rfl hl.1 rfl (Nat.le_of_ble_eq_true rfl) dL_law_694 ⟨Nat.le_refl 43, Nat.le_refl 1370⟩ (fun H locs hP hD hS => ?_)
  refine lv_icmp_eq (tgt := 899) hx hb dL_law_697 (by decide) (fun hc => ?_) (fun hc => ?_)
  · exact kk _ _ H locs ls hR1 hP hD hS hl
  · exact absurd rfl hc
set_option maxHeartbeats 4000000 in
set_option maxRecDepth 100000 in
theorem lc_24 {p : Program} {l : Launch} {e : Env} {s : State} {m : MethodId} {below : List Frame} {meth : Method} {c : Code} {dC : Nat → ClassId} {dI : Nat → Nat → Nat} {cy : ClassId} {b L : Nat} {xs : Nat → Int32} (C0 : lw_At p s m meth c b L xs) (hK : va_K (dC, dI) vwCl [(cy, .int)] s) (hG : GL (fun q : Nat => s.heap.size ≤ q) s) (x3 : Int32) (hi1 : vp_in (x3 + (1 : Int32)) L) (hi2 : vp_in (x3 + (2 : Int32)) L) (hi3 : vp_in (x3 + (3 : Int32)) L) (n : Nat) (h0 h1 : Nat → Nat) (w0 w1 : Nat → Nat → Int32) (hn : n < 1000) (hR : zR n w0 w1) (kk : ∀ (v0 v1 : Nat → Nat → Int32) (H : Heap) (locs : List Loc) (ls : Array Slot), zR (n + 1) v0 v1 → va_P (dC, dI) vwCl (zW_78 cy h0 v0 h1 v1) H → va_D (fun q : Nat => s.heap.size ≤ q) (zW_78 cy h0 v0 h1 v1) → va_S (fun q : Nat => s.heap.size ≤ q) s.heap H locs → lv_has ls 4 [(0, .ref b), (1, .ref (h0 0)), (2, .ref (h1 0)), (3, .int x3)] → W p l e room_1 s m #[Value.ref b] below meth c H locs 43 1370 (lw_Z below #[Value.ref b] s) (F0 m 899 ls [])) (H : Heap) (locs : List Loc) (ls : Array Slot) (hP : va_P (dC, dI) vwCl (zW_78 cy h0 w0 h1 w1) H) (hD : va_D (fun q : Nat => s.heap.size ≤ q) (zW_78 cy h0 w0 h1 w1)) (hS : va_S (fun q : Nat => s.heap.size ≤ q) s.heap H locs) (hl : lv_has ls 4 [(0, .ref b), (1, .ref (h0 0)), (2, .ref (h1 0)), (3, .int x3)]) : W p l e room_1 s m #[Value.ref b] below meth c H locs 43 1370 (lw_Z below #[Value.ref b] s) (F0 m 702 ls []) := by
  obtain ⟨hx, hb, hr, hml, hown, hts0, hX, hbl, hlocks, hgv⟩ := C0
  have hts : ∀ w ∈ wsA, w.before #[Value.ref b] s = true := fun w h => hts0 w (wa_of h)
  have hown : s.vm.findClass RL = some m.cls := hown
  have hA : ∀ q : Nat, s.heap.size ≤ q → (fun q : Nat => s.heap.size ≤ q) q := fun _ h => h
  have hbA : ¬ (fun q : Nat => s.heap.size ≤ q) b := Nat.not_le.mpr hbl
  obtain ⟨r, c13, c28, d0, d3, d9, d11, hzE, hzM, hR1⟩ := sim_stood hn hR (xs (x3 + (1 : Int32)).toNatClampNeg) (xs (x3 + (2 : Int32)).toNatClampNeg)
  refine lv_aload_n hx hb dL_law_702 rfl (lv_at hl 1 rfl) ?_
  refine lv_aload_n hx hb dL_law_703 rfl (lv_at hl 0 rfl) ?_
  refine lv_iload_n hx hb dL_law_704 rfl (lv_at hl 3 rfl) ?_
  refine lv_iconst (v := (1 : Int32)) hx hb dL_law_705 (by decide) ?_
  refine lv_iadd hx hb dL_law_706 ?_
  refine va_sld hx hb hX hbl hbA hS hi1 dL_law_707 ?_
  refine lv_aload_n hx hb dL_law_708 rfl (lv_at hl 0 rfl) ?_
  refine lv_iload_n hx hb dL_law_709 rfl (lv_at hl 3 rfl) ?_
  refine lv_iconst (v := (2 : Int32)) hx hb dL_law_710 (by decide) ?_
  refine lv_iadd hx hb dL_law_711 ?_
  refine va_sld hx hb hX hbl hbA hS hi2 dL_law_712 ?_
  refine zwiV (q := (RX7, TX7, 10)) (As := [.int (xs (x3 + (1 : Int32)).toNatClampNeg), .int (xs (x3 + (2 : Int32)).toNatClampNeg)]) (rest := []) (r := r) (u := (c13, c28)) (wn := zW_78 cy h0 (ups (ups w0 13 c13) 28 c28) h1 w1) ⟨hx, hb, hml, hown, hts⟩ (kX7_stood l dC dI cy h0 w0 (xs (x3 + (1 : Int32)).toNatClampNeg) (xs (x3 + (2 : Int32)).toNatClampNeg) H.size (r, c13, c28) hzE) mw_504 mw_505 mw_506 mw_1 mw_507 hdX7_stood rfl rfl ⟨Nat.le_of_ble_eq_true rfl, Nat.le_of_ble_eq_true rfl⟩ hP hK hG hS 0 rfl rfl hD hA [0, 1, 2, 3, 4, 5, 6, 7, 8, 9, 10, 11, 12, 13, 14, 15, 16, 17, 18, 19, 20, 21, 22, 23, 24, 25, 26, 27, 28] [29, 30, 31, 32, 33, 34, 35, 36, 37, 38, 39, 40, 41, 42] [14, 15, 16, 17, 18, 19, 20, 21, 22, 23, 24, 25, 26, 27, 28, 29, 30, 31, 32, 33, 34, 35, 36, 37, 38, 39, 40, 41, 42, 0, 1, 2, 3, 4, 5, 6, 7, 8, 9, 10, 11, 12, 13] rfl rfl rfl rfl (by decide) rfl rfl rfl hl.1 rfl (Nat.le_of_ble_eq_true rfl) dL_law_713 ⟨Nat.le_refl 43, Nat.le_refl 1370⟩ (fun H locs hP hD hS => ?_)
  refine lv_aload_n hx hb dL_law_716 rfl (lv_at hl 2 rfl) ?_
  refine lv_aload_n hx hb dL_law_717 rfl (lv_at hl 0 rfl) ?_
  refine lv_iload_n hx hb dL_law_718 rfl (lv_at hl 3 rfl) ?_
  refine lv_iconst (v := (1 : Int32)) hx hb dL_law_719 (by decide) ?_
  refine lv_iadd hx hb dL_law_720 ?_
  refine va_sld hx hb hX hbl hbA hS hi1 dL_law_721 ?_
  refine lv_aload_n hx hb dL_law_722 rfl (lv_at hl 0 rfl) ?_
  refine lv_iload_n hx hb dL_law_723 rfl (lv_at hl 3 rfl) ?_
  refine lv_iconst (v := (2 : Int32)) hx hb dL_law_724 (by decide) ?_
  refine lv_iadd hx hb dL_law_725 ?_
  refine va_sld hx hb hX hbl hbA hS hi2 dL_law_726 ?_
  refine zwiV (q := (RX8, TX8, 37)) (As := [.int (xs (x3 + (1 : Int32)).toNatClampNeg), .int (xs (x3 + (2 : Int32)).toNatClampNeg)]) (rest := [.int r]) (r := r) (u := (d0, d3, d9, d11)) (wn := zW_78 cy h0 (ups (ups w0 13 c13) 28 c28) h1 (ups (ups (ups (ups w1 0 d0) 3 d3) 9 d9) 11 d11)) ⟨hx, hb, hml, hown, hts⟩ (kX8_stood l dC dI cy h1 w1 (xs (x3 + (1 : Int32)).toNatClampNeg) (xs (x3 + (2 : Int32)).toNatClampNeg) H.size (r, d0, d3, d9, d11) hzM) mw_841 mw_842 mw_843 mw_9 mw_844 hdX8_stood rfl rfl ⟨Nat.le_of_ble_eq_true rfl, Nat.le_of_ble_eq_true rfl⟩ hP hK hG hS 29 rfl rfl hD hA [29, 30, 31, 32, 33, 34, 35, 36, 37, 38, 39, 40, 41, 42] [0, 1, 2, 3, 4, 5, 6, 7, 8, 9, 10, 11, 12, 13, 14, 15, 16, 17, 18, 19, 20, 21, 22, 23, 24, 25, 26, 27, 28] [0, 1, 2, 3, 4, 5, 6, 7, 8, 9, 10, 11, 12, 13, 14, 15, 16, 17, 18, 19, 20, 21, 22, 23, 24, 25, 26, 27, 28, 29, 30, 31, 32, 33, 34, 35, 36, 37, 38, 39, 40, 41, 42] rfl rfl rfl rfl (by decide) rfl rfl rfl hl.1 rfl (Nat.le_of_ble_eq_true rfl) dL_law_727 ⟨Nat.le_refl 43, Nat.le_refl 1370⟩ (fun H locs hP hD hS => ?_)
  refine lv_icmp_eq (tgt := 899) hx hb dL_law_730 (by decide) (fun hc => ?_) (fun hc => ?_)
  · exact kk _ _ H locs ls hR1 hP hD hS hl
  · exact absurd rfl hc
set_option maxHeartbeats 4000000 in
set_option maxRecDepth 100000 in
theorem lc_25 {p : Program} {l : Launch} {e : Env} {s : State} {m : MethodId} {below : List Frame} {meth : Method} {c : Code} {dC : Nat → ClassId} {dI : Nat → Nat → Nat} {cy : ClassId} {b L : Nat} {xs : Nat → Int32} (C0 : lw_At p s m meth c b L xs) (hK : va_K (dC, dI) vwCl [(cy, .int)] s) (hG : GL (fun q : Nat => s.heap.size ≤ q) s) (x3 : Int32) (hi1 : vp_in (x3 + (1 : Int32)) L) (hi2 : vp_in (x3 + (2 : Int32)) L) (hi3 : vp_in (x3 + (3 : Int32)) L) (n : Nat) (h0 h1 : Nat → Nat) (w0 w1 : Nat → Nat → Int32) (hn : n < 1000) (hR : zR n w0 w1) (kk : ∀ (v0 v1 : Nat → Nat → Int32) (H : Heap) (locs : List Loc) (ls : Array Slot), zR (n + 1) v0 v1 → va_P (dC, dI) vwCl (zW_78 cy h0 v0 h1 v1) H → va_D (fun q : Nat => s.heap.size ≤ q) (zW_78 cy h0 v0 h1 v1) → va_S (fun q : Nat => s.heap.size ≤ q) s.heap H locs → lv_has ls 4 [(0, .ref b), (1, .ref (h0 0)), (2, .ref (h1 0)), (3, .int x3)] → W p l e room_1 s m #[Value.ref b] below meth c H locs 43 1370 (lw_Z below #[Value.ref b] s) (F0 m 899 ls [])) (H : Heap) (locs : List Loc) (ls : Array Slot) (hP : va_P (dC, dI) vwCl (zW_78 cy h0 w0 h1 w1) H) (hD : va_D (fun q : Nat => s.heap.size ≤ q) (zW_78 cy h0 w0 h1 w1)) (hS : va_S (fun q : Nat => s.heap.size ≤ q) s.heap H locs) (hl : lv_has ls 4 [(0, .ref b), (1, .ref (h0 0)), (2, .ref (h1 0)), (3, .int x3)]) : W p l e room_1 s m #[Value.ref b] below meth c H locs 43 1370 (lw_Z below #[Value.ref b] s) (F0 m 735 ls []) := by
  obtain ⟨hx, hb, hr, hml, hown, hts0, hX, hbl, hlocks, hgv⟩ := C0
  have hts : ∀ w ∈ wsA, w.before #[Value.ref b] s = true := fun w h => hts0 w (wa_of h)
  have hown : s.vm.findClass RL = some m.cls := hown
  have hA : ∀ q : Nat, s.heap.size ≤ q → (fun q : Nat => s.heap.size ≤ q) q := fun _ h => h
  have hbA : ¬ (fun q : Nat => s.heap.size ≤ q) b := Nat.not_le.mpr hbl
  obtain ⟨r, c13, c28, d0, d3, d9, d11, hzE, hzM, hR1⟩ := sim_worth hn hR (xs (x3 + (1 : Int32)).toNatClampNeg) (xs (x3 + (2 : Int32)).toNatClampNeg)
  refine lv_aload_n hx hb dL_law_735 rfl (lv_at hl 1 rfl) ?_
  refine lv_aload_n hx hb dL_law_736 rfl (lv_at hl 0 rfl) ?_
  refine lv_iload_n hx hb dL_law_737 rfl (lv_at hl 3 rfl) ?_
  refine lv_iconst (v := (1 : Int32)) hx hb dL_law_738 (by decide) ?_
  refine lv_iadd hx hb dL_law_739 ?_
  refine va_sld hx hb hX hbl hbA hS hi1 dL_law_740 ?_
  refine lv_aload_n hx hb dL_law_741 rfl (lv_at hl 0 rfl) ?_
  refine lv_iload_n hx hb dL_law_742 rfl (lv_at hl 3 rfl) ?_
  refine lv_iconst (v := (2 : Int32)) hx hb dL_law_743 (by decide) ?_
  refine lv_iadd hx hb dL_law_744 ?_
  refine va_sld hx hb hX hbl hbA hS hi2 dL_law_745 ?_
  refine zwiV (q := (RX7, TX7, 10)) (As := [.int (xs (x3 + (1 : Int32)).toNatClampNeg), .int (xs (x3 + (2 : Int32)).toNatClampNeg)]) (rest := []) (r := r) (u := (c13, c28)) (wn := zW_78 cy h0 (ups (ups w0 13 c13) 28 c28) h1 w1) ⟨hx, hb, hml, hown, hts⟩ (kX7_worth l dC dI cy h0 w0 (xs (x3 + (1 : Int32)).toNatClampNeg) (xs (x3 + (2 : Int32)).toNatClampNeg) H.size (r, c13, c28) hzE) mw_508 mw_509 mw_510 mw_1 mw_511 hdX7_worth rfl rfl ⟨Nat.le_of_ble_eq_true rfl, Nat.le_of_ble_eq_true rfl⟩ hP hK hG hS 0 rfl rfl hD hA [0, 1, 2, 3, 4, 5, 6, 7, 8, 9, 10, 11, 12, 13, 14, 15, 16, 17, 18, 19, 20, 21, 22, 23, 24, 25, 26, 27, 28] [29, 30, 31, 32, 33, 34, 35, 36, 37, 38, 39, 40, 41, 42] [14, 15, 16, 17, 18, 19, 20, 21, 22, 23, 24, 25, 26, 27, 28, 29, 30, 31, 32, 33, 34, 35, 36, 37, 38, 39, 40, 41, 42, 0, 1, 2, 3, 4, 5, 6, 7, 8, 9, 10, 11, 12, 13] rfl rfl rfl rfl (by decide) rfl rfl rfl hl.1 rfl (Nat.le_of_ble_eq_true rfl) dL_law_746 ⟨Nat.le_refl 43, Nat.le_refl 1370⟩ (fun H locs hP hD hS => ?_)
  refine lv_aload_n hx hb dL_law_749 rfl (lv_at hl 2 rfl) ?_
  refine lv_aload_n hx hb dL_law_750 rfl (lv_at hl 0 rfl) ?_
  refine lv_iload_n hx hb dL_law_751 rfl (lv_at hl 3 rfl) ?_
  refine lv_iconst (v := (1 : Int32)) hx hb dL_law_752 (by decide) ?_
  refine lv_iadd hx hb dL_law_753 ?_
  refine va_sld hx hb hX hbl hbA hS hi1 dL_law_754 ?_
  refine lv_aload_n hx hb dL_law_755 rfl (lv_at hl 0 rfl) ?_
  refine lv_iload_n hx hb dL_law_756 rfl (lv_at hl 3 rfl) ?_
  refine lv_iconst (v := (2 : Int32)) hx hb dL_law_757 (by decide) ?_
  refine lv_iadd hx hb dL_law_758 ?_
  refine va_sld hx hb hX hbl hbA hS hi2 dL_law_759 ?_
  refine zwiV (q := (RX8, TX8, 37)) (As := [.int (xs (x3 + (1 : Int32)).toNatClampNeg), .int (xs (x3 + (2 : Int32)).toNatClampNeg)]) (rest := [.int r]) (r := r) (u := (d0, d3, d9, d11)) (wn := zW_78 cy h0 (ups (ups w0 13 c13) 28 c28) h1 (ups (ups (ups (ups w1 0 d0) 3 d3) 9 d9) 11 d11)) ⟨hx, hb, hml, hown, hts⟩ (kX8_worth l dC dI cy h1 w1 (xs (x3 + (1 : Int32)).toNatClampNeg) (xs (x3 + (2 : Int32)).toNatClampNeg) H.size (r, d0, d3, d9, d11) hzM) mw_845 mw_846 mw_847 mw_9 mw_848 hdX8_worth rfl rfl ⟨Nat.le_of_ble_eq_true rfl, Nat.le_of_ble_eq_true rfl⟩ hP hK hG hS 29 rfl rfl hD hA [29, 30, 31, 32, 33, 34, 35, 36, 37, 38, 39, 40, 41, 42] [0, 1, 2, 3, 4, 5, 6, 7, 8, 9, 10, 11, 12, 13, 14, 15, 16, 17, 18, 19, 20, 21, 22, 23, 24, 25, 26, 27, 28] [0, 1, 2, 3, 4, 5, 6, 7, 8, 9, 10, 11, 12, 13, 14, 15, 16, 17, 18, 19, 20, 21, 22, 23, 24, 25, 26, 27, 28, 29, 30, 31, 32, 33, 34, 35, 36, 37, 38, 39, 40, 41, 42] rfl rfl rfl rfl (by decide) rfl rfl rfl hl.1 rfl (Nat.le_of_ble_eq_true rfl) dL_law_760 ⟨Nat.le_refl 43, Nat.le_refl 1370⟩ (fun H locs hP hD hS => ?_)
  refine lv_icmp_eq (tgt := 899) hx hb dL_law_763 (by decide) (fun hc => ?_) (fun hc => ?_)
  · exact kk _ _ H locs ls hR1 hP hD hS hl
  · exact absurd rfl hc
set_option maxHeartbeats 4000000 in
set_option maxRecDepth 100000 in
theorem lc_26 {p : Program} {l : Launch} {e : Env} {s : State} {m : MethodId} {below : List Frame} {meth : Method} {c : Code} {dC : Nat → ClassId} {dI : Nat → Nat → Nat} {cy : ClassId} {b L : Nat} {xs : Nat → Int32} (C0 : lw_At p s m meth c b L xs) (hK : va_K (dC, dI) vwCl [(cy, .int)] s) (hG : GL (fun q : Nat => s.heap.size ≤ q) s) (x3 : Int32) (hi1 : vp_in (x3 + (1 : Int32)) L) (hi2 : vp_in (x3 + (2 : Int32)) L) (hi3 : vp_in (x3 + (3 : Int32)) L) (n : Nat) (h0 h1 : Nat → Nat) (w0 w1 : Nat → Nat → Int32) (hn : n < 1000) (hR : zR n w0 w1) (kk : ∀ (v0 v1 : Nat → Nat → Int32) (H : Heap) (locs : List Loc) (ls : Array Slot), zR (n + 1) v0 v1 → va_P (dC, dI) vwCl (zW_78 cy h0 v0 h1 v1) H → va_D (fun q : Nat => s.heap.size ≤ q) (zW_78 cy h0 v0 h1 v1) → va_S (fun q : Nat => s.heap.size ≤ q) s.heap H locs → lv_has ls 4 [(0, .ref b), (1, .ref (h0 0)), (2, .ref (h1 0)), (3, .int x3)] → W p l e room_1 s m #[Value.ref b] below meth c H locs 43 1370 (lw_Z below #[Value.ref b] s) (F0 m 899 ls [])) (H : Heap) (locs : List Loc) (ls : Array Slot) (hP : va_P (dC, dI) vwCl (zW_78 cy h0 w0 h1 w1) H) (hD : va_D (fun q : Nat => s.heap.size ≤ q) (zW_78 cy h0 w0 h1 w1)) (hS : va_S (fun q : Nat => s.heap.size ≤ q) s.heap H locs) (hl : lv_has ls 4 [(0, .ref b), (1, .ref (h0 0)), (2, .ref (h1 0)), (3, .int x3)]) : W p l e room_1 s m #[Value.ref b] below meth c H locs 43 1370 (lw_Z below #[Value.ref b] s) (F0 m 768 ls []) := by
  obtain ⟨hx, hb, hr, hml, hown, hts0, hX, hbl, hlocks, hgv⟩ := C0
  have hts : ∀ w ∈ wsA, w.before #[Value.ref b] s = true := fun w h => hts0 w (wa_of h)
  have hown : s.vm.findClass RL = some m.cls := hown
  have hA : ∀ q : Nat, s.heap.size ≤ q → (fun q : Nat => s.heap.size ≤ q) q := fun _ h => h
  have hbA : ¬ (fun q : Nat => s.heap.size ≤ q) b := Nat.not_le.mpr hbl
  obtain ⟨r, hzE, hzM, hR1⟩ := sim_light hn hR
  refine lv_aload_n hx hb dL_law_768 rfl (lv_at hl 1 rfl) ?_
  refine zroV (q := (RX7, TX7, 10)) (As := []) (rest := []) (r := r) ⟨hx, hb, hml, hown, hts⟩ (kX7_light l dC dI cy h0 w0 r hzE) mw_512 mw_513 mw_514 mw_1 mw_515 hdX7_light rfl rfl ⟨Nat.le_of_ble_eq_true rfl, Nat.le_of_ble_eq_true rfl⟩ hP hK hG hS 0 rfl rfl [0, 1, 2, 3, 4, 5, 6, 7, 8, 9, 10, 11, 12, 13, 14, 15, 16, 17, 18, 19, 20, 21, 22, 23, 24, 25, 26, 27, 28] rfl rfl hl.1 rfl (Nat.le_of_ble_eq_true rfl) dL_law_769 ⟨Nat.le_refl 43, Nat.le_refl 1370⟩ ?_
  refine lv_aload_n hx hb dL_law_772 rfl (lv_at hl 2 rfl) ?_
  refine zroV (q := (RX8, TX8, 37)) (As := []) (rest := [.int r]) (r := r) ⟨hx, hb, hml, hown, hts⟩ (kX8_light l dC dI cy h1 w1 r hzM) mw_849 mw_850 mw_851 mw_9 mw_852 hdX8_light rfl rfl ⟨Nat.le_of_ble_eq_true rfl, Nat.le_of_ble_eq_true rfl⟩ hP hK hG hS 29 rfl rfl [29, 30, 31, 32, 33, 34, 35, 36, 37, 38, 39, 40, 41, 42] rfl rfl hl.1 rfl (Nat.le_of_ble_eq_true rfl) dL_law_773 ⟨Nat.le_refl 43, Nat.le_refl 1370⟩ ?_
  refine lv_icmp_eq (tgt := 899) hx hb dL_law_776 (by decide) (fun hc => ?_) (fun hc => ?_)
  · exact kk _ _ H locs ls hR1 hP hD hS hl
  · exact absurd rfl hc
set_option maxHeartbeats 4000000 in
set_option maxRecDepth 100000 in
theorem lc_27 {p : Program} {l : Launch} {e : Env} {s : State} {m : MethodId} {below : List Frame} {meth : Method} {c : Code} {dC : Nat → ClassId} {dI : Nat → Nat → Nat} {cy : ClassId} {b L : Nat} {xs : Nat → Int32} (C0 : lw_At p s m meth c b L xs) (hK : va_K (dC, dI) vwCl [(cy, .int)] s) (hG : GL (fun q : Nat => s.heap.size ≤ q) s) (x3 : Int32) (hi1 : vp_in (x3 + (1 : Int32)) L) (hi2 : vp_in (x3 + (2 : Int32)) L) (hi3 : vp_in (x3 + (3 : Int32)) L) (n : Nat) (h0 h1 : Nat → Nat) (w0 w1 : Nat → Nat → Int32) (hn : n < 1000) (hR : zR n w0 w1) (kk : ∀ (v0 v1 : Nat → Nat → Int32) (H : Heap) (locs : List Loc) (ls : Array Slot), zR (n + 1) v0 v1 → va_P (dC, dI) vwCl (zW_78 cy h0 v0 h1 v1) H → va_D (fun q : Nat => s.heap.size ≤ q) (zW_78 cy h0 v0 h1 v1) → va_S (fun q : Nat => s.heap.size ≤ q) s.heap H locs → lv_has ls 4 [(0, .ref b), (1, .ref (h0 0)), (2, .ref (h1 0)), (3, .int x3)] → W p l e room_1 s m #[Value.ref b] below meth c H locs 43 1370 (lw_Z below #[Value.ref b] s) (F0 m 899 ls [])) (H : Heap) (locs : List Loc) (ls : Array Slot) (hP : va_P (dC, dI) vwCl (zW_78 cy h0 w0 h1 w1) H) (hD : va_D (fun q : Nat => s.heap.size ≤ q) (zW_78 cy h0 w0 h1 w1)) (hS : va_S (fun q : Nat => s.heap.size ≤ q) s.heap H locs) (hl : lv_has ls 4 [(0, .ref b), (1, .ref (h0 0)), (2, .ref (h1 0)), (3, .int x3)]) : W p l e room_1 s m #[Value.ref b] below meth c H locs 43 1370 (lw_Z below #[Value.ref b] s) (F0 m 781 ls []) := by
  obtain ⟨hx, hb, hr, hml, hown, hts0, hX, hbl, hlocks, hgv⟩ := C0
  have hts : ∀ w ∈ wsA, w.before #[Value.ref b] s = true := fun w h => hts0 w (wa_of h)
  have hown : s.vm.findClass RL = some m.cls := hown
  have hA : ∀ q : Nat, s.heap.size ≤ q → (fun q : Nat => s.heap.size ≤ q) q := fun _ h => h
  have hbA : ¬ (fun q : Nat => s.heap.size ≤ q) b := Nat.not_le.mpr hbl
  obtain ⟨r, c13, c28, d0, d3, d9, d11, hzE, hzM, hR1⟩ := sim_night hn hR (xs (x3 + (1 : Int32)).toNatClampNeg) (xs (x3 + (2 : Int32)).toNatClampNeg)
  refine lv_aload_n hx hb dL_law_781 rfl (lv_at hl 1 rfl) ?_
  refine lv_aload_n hx hb dL_law_782 rfl (lv_at hl 0 rfl) ?_
  refine lv_iload_n hx hb dL_law_783 rfl (lv_at hl 3 rfl) ?_
  refine lv_iconst (v := (1 : Int32)) hx hb dL_law_784 (by decide) ?_
  refine lv_iadd hx hb dL_law_785 ?_
  refine va_sld hx hb hX hbl hbA hS hi1 dL_law_786 ?_
  refine lv_aload_n hx hb dL_law_787 rfl (lv_at hl 0 rfl) ?_
  refine lv_iload_n hx hb dL_law_788 rfl (lv_at hl 3 rfl) ?_
  refine lv_iconst (v := (2 : Int32)) hx hb dL_law_789 (by decide) ?_
  refine lv_iadd hx hb dL_law_790 ?_
  refine va_sld hx hb hX hbl hbA hS hi2 dL_law_791 ?_
  refine zwiV (q := (RX7, TX7, 10)) (As := [.int (xs (x3 + (1 : Int32)).toNatClampNeg), .int (xs (x3 + (2 : Int32)).toNatClampNeg)]) (rest := []) (r := r) (u := (c13, c28)) (wn := zW_78 cy h0 (ups (ups w0 13 c13) 28 c28) h1 w1) ⟨hx, hb, hml, hown, hts⟩ (kX7_night l dC dI cy h0 w0 (xs (x3 + (1 : Int32)).toNatClampNeg) (xs (x3 + (2 : Int32)).toNatClampNeg) H.size (r, c13, c28) hzE) mw_524 mw_525 mw_526 mw_1 mw_527 hdX7_night rfl rfl ⟨Nat.le_of_ble_eq_true rfl, Nat.le_of_ble_eq_true rfl⟩ hP hK hG hS 0 rfl rfl hD hA [0, 1, 2, 3, 4, 5, 6, 7, 8, 9, 10, 11, 12, 13, 14, 15, 16, 17, 18, 19, 20, 21, 22, 23, 24, 25, 26, 27, 28] [29, 30, 31, 32, 33, 34, 35, 36, 37, 38, 39, 40, 41, 42] [14, 15, 16, 17, 18, 19, 20, 21, 22, 23, 24, 25, 26, 27, 28, 29, 30, 31, 32, 33, 34, 35, 36, 37, 38, 39, 40, 41, 42, 0, 1, 2, 3, 4, 5, 6, 7, 8, 9, 10, 11, 12, 13] rfl rfl rfl rfl (by decide) rfl rfl rfl hl.1 rfl (Nat.le_of_ble_eq_true rfl) dL_law_792 ⟨Nat.le_refl 43, Nat.le_refl 1370⟩ (fun H locs hP hD hS => ?_)
  refine lv_aload_n hx hb dL_law_795 rfl (lv_at hl 2 rfl) ?_
  refine lv_aload_n hx hb dL_law_796 rfl (lv_at hl 0 rfl) ?_
  refine lv_iload_n hx hb dL_law_797 rfl (lv_at hl 3 rfl) ?_
  refine lv_iconst (v := (1 : Int32)) hx hb dL_law_798 (by decide) ?_
  refine lv_iadd hx hb dL_law_799 ?_
  refine va_sld hx hb hX hbl hbA hS hi1 dL_law_800 ?_
  refine lv_aload_n hx hb dL_law_801 rfl (lv_at hl 0 rfl) ?_
  refine lv_iload_n hx hb dL_law_802 rfl (lv_at hl 3 rfl) ?_
  refine lv_iconst (v := (2 : Int32)) hx hb dL_law_803 (by decide) ?_
  refine lv_iadd hx hb dL_law_804 ?_
  refine va_sld hx hb hX hbl hbA hS hi2 dL_law_805 ?_
  refine zwiV (q := (RX8, TX8, 37)) (As := [.int (xs (x3 + (1 : Int32)).toNatClampNeg), .int (xs (x3 + (2 : Int32)).toNatClampNeg)]) (rest := [.int r]) (r := r) (u := (d0, d3, d9, d11)) (wn := zW_78 cy h0 (ups (ups w0 13 c13) 28 c28) h1 (ups (ups (ups (ups w1 0 d0) 3 d3) 9 d9) 11 d11)) ⟨hx, hb, hml, hown, hts⟩ (kX8_night l dC dI cy h1 w1 (xs (x3 + (1 : Int32)).toNatClampNeg) (xs (x3 + (2 : Int32)).toNatClampNeg) H.size (r, d0, d3, d9, d11) hzM) mw_853 mw_854 mw_855 mw_9 mw_856 hdX8_night rfl rfl ⟨Nat.le_of_ble_eq_true rfl, Nat.le_of_ble_eq_true rfl⟩ hP hK hG hS 29 rfl rfl hD hA [29, 30, 31, 32, 33, 34, 35, 36, 37, 38, 39, 40, 41, 42] [0, 1, 2, 3, 4, 5, 6, 7, 8, 9, 10, 11, 12, 13, 14, 15, 16, 17, 18, 19, 20, 21, 22, 23, 24, 25, 26, 27, 28] [0, 1, 2, 3, 4, 5, 6, 7, 8, 9, 10, 11, 12, 13, 14, 15, 16, 17, 18, 19, 20, 21, 22, 23, 24, 25, 26, 27, 28, 29, 30, 31, 32, 33, 34, 35, 36, 37, 38, 39, 40, 41, 42] rfl rfl rfl rfl (by decide) rfl rfl rfl hl.1 rfl (Nat.le_of_ble_eq_true rfl) dL_law_806 ⟨Nat.le_refl 43, Nat.le_refl 1370⟩ (fun H locs hP hD hS => ?_)
  refine lv_icmp_eq (tgt := 899) hx hb dL_law_809 (by decide) (fun hc => ?_) (fun hc => ?_)
  · exact kk _ _ H locs ls hR1 hP hD hS hl
  · exact absurd rfl hc
set_option maxHeartbeats 4000000 in
set_option maxRecDepth 100000 in
theorem lc_28 {p : Program} {l : Launch} {e : Env} {s : State} {m : MethodId} {below : List Frame} {meth : Method} {c : Code} {dC : Nat → ClassId} {dI : Nat → Nat → Nat} {cy : ClassId} {b L : Nat} {xs : Nat → Int32} (C0 : lw_At p s m meth c b L xs) (hK : va_K (dC, dI) vwCl [(cy, .int)] s) (hG : GL (fun q : Nat => s.heap.size ≤ q) s) (x3 : Int32) (hi1 : vp_in (x3 + (1 : Int32)) L) (hi2 : vp_in (x3 + (2 : Int32)) L) (hi3 : vp_in (x3 + (3 : Int32)) L) (n : Nat) (h0 h1 : Nat → Nat) (w0 w1 : Nat → Nat → Int32) (hn : n < 1000) (hR : zR n w0 w1) (kk : ∀ (v0 v1 : Nat → Nat → Int32) (H : Heap) (locs : List Loc) (ls : Array Slot), zR (n + 1) v0 v1 → va_P (dC, dI) vwCl (zW_78 cy h0 v0 h1 v1) H → va_D (fun q : Nat => s.heap.size ≤ q) (zW_78 cy h0 v0 h1 v1) → va_S (fun q : Nat => s.heap.size ≤ q) s.heap H locs → lv_has ls 4 [(0, .ref b), (1, .ref (h0 0)), (2, .ref (h1 0)), (3, .int x3)] → W p l e room_1 s m #[Value.ref b] below meth c H locs 43 1370 (lw_Z below #[Value.ref b] s) (F0 m 899 ls [])) (H : Heap) (locs : List Loc) (ls : Array Slot) (hP : va_P (dC, dI) vwCl (zW_78 cy h0 w0 h1 w1) H) (hD : va_D (fun q : Nat => s.heap.size ≤ q) (zW_78 cy h0 w0 h1 w1)) (hS : va_S (fun q : Nat => s.heap.size ≤ q) s.heap H locs) (hl : lv_has ls 4 [(0, .ref b), (1, .ref (h0 0)), (2, .ref (h1 0)), (3, .int x3)]) : W p l e room_1 s m #[Value.ref b] below meth c H locs 43 1370 (lw_Z below #[Value.ref b] s) (F0 m 814 ls []) := by
  obtain ⟨hx, hb, hr, hml, hown, hts0, hX, hbl, hlocks, hgv⟩ := C0
  have hts : ∀ w ∈ wsA, w.before #[Value.ref b] s = true := fun w h => hts0 w (wa_of h)
  have hown : s.vm.findClass RL = some m.cls := hown
  have hA : ∀ q : Nat, s.heap.size ≤ q → (fun q : Nat => s.heap.size ≤ q) q := fun _ h => h
  have hbA : ¬ (fun q : Nat => s.heap.size ≤ q) b := Nat.not_le.mpr hbl
  obtain ⟨r, c26, c27, c28, d0, d8, d9, hzE, hzM, hR1⟩ := sim_log hn hR (xs (x3 + (1 : Int32)).toNatClampNeg)
  refine lv_aload_n hx hb dL_law_814 rfl (lv_at hl 1 rfl) ?_
  refine lv_aload_n hx hb dL_law_815 rfl (lv_at hl 0 rfl) ?_
  refine lv_iload_n hx hb dL_law_816 rfl (lv_at hl 3 rfl) ?_
  refine lv_iconst (v := (1 : Int32)) hx hb dL_law_817 (by decide) ?_
  refine lv_iadd hx hb dL_law_818 ?_
  refine va_sld hx hb hX hbl hbA hS hi1 dL_law_819 ?_
  refine zwiV (q := (RX7, TX7, 10)) (As := [.int (xs (x3 + (1 : Int32)).toNatClampNeg)]) (rest := []) (r := r) (u := (c26, c27, c28)) (wn := zW_78 cy h0 (ups (ups (ups w0 26 c26) 27 c27) 28 c28) h1 w1) ⟨hx, hb, hml, hown, hts⟩ (kX7_log l dC dI cy h0 w0 (xs (x3 + (1 : Int32)).toNatClampNeg) H.size (r, c26, c27, c28) hzE) mw_537 mw_538 mw_539 mw_1 mw_540 hdX7_log rfl rfl ⟨Nat.le_of_ble_eq_true rfl, Nat.le_of_ble_eq_true rfl⟩ hP hK hG hS 0 rfl rfl hD hA [0, 1, 2, 3, 4, 5, 6, 7, 8, 9, 10, 11, 12, 13, 14, 15, 16, 17, 18, 19, 20, 21, 22, 23, 24, 25, 26, 27, 28] [29, 30, 31, 32, 33, 34, 35, 36, 37, 38, 39, 40, 41, 42] [14, 15, 16, 17, 18, 19, 20, 21, 22, 23, 24, 25, 26, 27, 28, 29, 30, 31, 32, 33, 34, 35, 36, 37, 38, 39, 40, 41, 42, 0, 1, 2, 3, 4, 5, 6, 7, 8, 9, 10, 11, 12, 13] rfl rfl rfl rfl (by decide) rfl rfl rfl hl.1 rfl (Nat.le_of_ble_eq_true rfl) dL_law_820 ⟨Nat.le_refl 43, Nat.le_refl 1370⟩ (fun H locs hP hD hS => ?_)
  refine lv_aload_n hx hb dL_law_823 rfl (lv_at hl 2 rfl) ?_
  refine lv_aload_n hx hb dL_law_824 rfl (lv_at hl 0 rfl) ?_
  refine lv_iload_n hx hb dL_law_825 rfl (lv_at hl 3 rfl) ?_
  refine lv_iconst (v := (1 : Int32)) hx hb dL_law_826 (by decide) ?_
  refine lv_iadd hx hb dL_law_827 ?_
  refine va_sld hx hb hX hbl hbA hS hi1 dL_law_828 ?_
  refine zwiV (q := (RX8, TX8, 37)) (As := [.int (xs (x3 + (1 : Int32)).toNatClampNeg)]) (rest := [.int r]) (r := r) (u := (d0, d8, d9)) (wn := zW_78 cy h0 (ups (ups (ups w0 26 c26) 27 c27) 28 c28) h1 (ups (ups (ups w1 0 d0) 8 d8) 9 d9)) ⟨hx, hb, hml, hown, hts⟩ (kX8_log l dC dI cy h1 w1 (xs (x3 + (1 : Int32)).toNatClampNeg) H.size (r, d0, d8, d9) hzM) mw_863 mw_864 mw_865 mw_9 mw_866 hdX8_log rfl rfl ⟨Nat.le_of_ble_eq_true rfl, Nat.le_of_ble_eq_true rfl⟩ hP hK hG hS 29 rfl rfl hD hA [29, 30, 31, 32, 33, 34, 35, 36, 37, 38, 39, 40, 41, 42] [0, 1, 2, 3, 4, 5, 6, 7, 8, 9, 10, 11, 12, 13, 14, 15, 16, 17, 18, 19, 20, 21, 22, 23, 24, 25, 26, 27, 28] [0, 1, 2, 3, 4, 5, 6, 7, 8, 9, 10, 11, 12, 13, 14, 15, 16, 17, 18, 19, 20, 21, 22, 23, 24, 25, 26, 27, 28, 29, 30, 31, 32, 33, 34, 35, 36, 37, 38, 39, 40, 41, 42] rfl rfl rfl rfl (by decide) rfl rfl rfl hl.1 rfl (Nat.le_of_ble_eq_true rfl) dL_law_829 ⟨Nat.le_refl 43, Nat.le_refl 1370⟩ (fun H locs hP hD hS => ?_)
  refine lv_icmp_eq (tgt := 899) hx hb dL_law_832 (by decide) (fun hc => ?_) (fun hc => ?_)
  · exact kk _ _ H locs ls hR1 hP hD hS hl
  · exact absurd rfl hc
set_option maxHeartbeats 4000000 in
set_option maxRecDepth 100000 in
theorem lc_29 {p : Program} {l : Launch} {e : Env} {s : State} {m : MethodId} {below : List Frame} {meth : Method} {c : Code} {dC : Nat → ClassId} {dI : Nat → Nat → Nat} {cy : ClassId} {b L : Nat} {xs : Nat → Int32} (C0 : lw_At p s m meth c b L xs) (hK : va_K (dC, dI) vwCl [(cy, .int)] s) (hG : GL (fun q : Nat => s.heap.size ≤ q) s) (x3 : Int32) (hi1 : vp_in (x3 + (1 : Int32)) L) (hi2 : vp_in (x3 + (2 : Int32)) L) (hi3 : vp_in (x3 + (3 : Int32)) L) (n : Nat) (h0 h1 : Nat → Nat) (w0 w1 : Nat → Nat → Int32) (hn : n < 1000) (hR : zR n w0 w1) (kk : ∀ (v0 v1 : Nat → Nat → Int32) (H : Heap) (locs : List Loc) (ls : Array Slot), zR (n + 1) v0 v1 → va_P (dC, dI) vwCl (zW_78 cy h0 v0 h1 v1) H → va_D (fun q : Nat => s.heap.size ≤ q) (zW_78 cy h0 v0 h1 v1) → va_S (fun q : Nat => s.heap.size ≤ q) s.heap H locs → lv_has ls 4 [(0, .ref b), (1, .ref (h0 0)), (2, .ref (h1 0)), (3, .int x3)] → W p l e room_1 s m #[Value.ref b] below meth c H locs 43 1370 (lw_Z below #[Value.ref b] s) (F0 m 899 ls [])) (H : Heap) (locs : List Loc) (ls : Array Slot) (hP : va_P (dC, dI) vwCl (zW_78 cy h0 w0 h1 w1) H) (hD : va_D (fun q : Nat => s.heap.size ≤ q) (zW_78 cy h0 w0 h1 w1)) (hS : va_S (fun q : Nat => s.heap.size ≤ q) s.heap H locs) (hl : lv_has ls 4 [(0, .ref b), (1, .ref (h0 0)), (2, .ref (h1 0)), (3, .int x3)]) : W p l e room_1 s m #[Value.ref b] below meth c H locs 43 1370 (lw_Z below #[Value.ref b] s) (F0 m 837 ls []) := by
  obtain ⟨hx, hb, hr, hml, hown, hts0, hX, hbl, hlocks, hgv⟩ := C0
  have hts : ∀ w ∈ wsA, w.before #[Value.ref b] s = true := fun w h => hts0 w (wa_of h)
  have hown : s.vm.findClass RL = some m.cls := hown
  have hA : ∀ q : Nat, s.heap.size ≤ q → (fun q : Nat => s.heap.size ≤ q) q := fun _ h => h
  have hbA : ¬ (fun q : Nat => s.heap.size ≤ q) b := Nat.not_le.mpr hbl
  obtain ⟨r, c13, c26, c28, d0, d3, d9, d11, hzE, hzM, hR1⟩ := sim_judge hn hR
  refine lv_aload_n hx hb dL_law_837 rfl (lv_at hl 1 rfl) ?_
  refine zwiV (q := (RX7, TX7, 10)) (As := []) (rest := []) (r := r) (u := (c13, c26, c28)) (wn := zW_78 cy h0 (ups (ups (ups w0 13 c13) 26 c26) 28 c28) h1 w1) ⟨hx, hb, hml, hown, hts⟩ (kX7_judge l dC dI cy h0 w0 H.size (r, c13, c26, c28) hzE) mw_549 mw_550 mw_551 mw_1 mw_552 hdX7_judge rfl rfl ⟨Nat.le_of_ble_eq_true rfl, Nat.le_of_ble_eq_true rfl⟩ hP hK hG hS 0 rfl rfl hD hA [0, 1, 2, 3, 4, 5, 6, 7, 8, 9, 10, 11, 12, 13, 14, 15, 16, 17, 18, 19, 20, 21, 22, 23, 24, 25, 26, 27, 28] [29, 30, 31, 32, 33, 34, 35, 36, 37, 38, 39, 40, 41, 42] [14, 15, 16, 17, 18, 19, 20, 21, 22, 23, 24, 25, 26, 27, 28, 29, 30, 31, 32, 33, 34, 35, 36, 37, 38, 39, 40, 41, 42, 0, 1, 2, 3, 4, 5, 6, 7, 8, 9, 10, 11, 12, 13] rfl rfl rfl rfl (by decide) rfl rfl rfl hl.1 rfl (Nat.le_of_ble_eq_true rfl) dL_law_838 ⟨Nat.le_refl 43, Nat.le_refl 1370⟩ (fun H locs hP hD hS => ?_)
  refine lv_aload_n hx hb dL_law_841 rfl (lv_at hl 2 rfl) ?_
  refine zwiV (q := (RX8, TX8, 37)) (As := []) (rest := [.int r]) (r := r) (u := (d0, d3, d9, d11)) (wn := zW_78 cy h0 (ups (ups (ups w0 13 c13) 26 c26) 28 c28) h1 (ups (ups (ups (ups w1 0 d0) 3 d3) 9 d9) 11 d11)) ⟨hx, hb, hml, hown, hts⟩ (kX8_judge l dC dI cy h1 w1 H.size (r, d0, d3, d9, d11) hzM) mw_867 mw_868 mw_869 mw_9 mw_870 hdX8_judge rfl rfl ⟨Nat.le_of_ble_eq_true rfl, Nat.le_of_ble_eq_true rfl⟩ hP hK hG hS 29 rfl rfl hD hA [29, 30, 31, 32, 33, 34, 35, 36, 37, 38, 39, 40, 41, 42] [0, 1, 2, 3, 4, 5, 6, 7, 8, 9, 10, 11, 12, 13, 14, 15, 16, 17, 18, 19, 20, 21, 22, 23, 24, 25, 26, 27, 28] [0, 1, 2, 3, 4, 5, 6, 7, 8, 9, 10, 11, 12, 13, 14, 15, 16, 17, 18, 19, 20, 21, 22, 23, 24, 25, 26, 27, 28, 29, 30, 31, 32, 33, 34, 35, 36, 37, 38, 39, 40, 41, 42] rfl rfl rfl rfl (by decide) rfl rfl rfl hl.1 rfl (Nat.le_of_ble_eq_true rfl) dL_law_842 ⟨Nat.le_refl 43, Nat.le_refl 1370⟩ (fun H locs hP hD hS => ?_)
  refine lv_icmp_eq (tgt := 899) hx hb dL_law_845 (by decide) (fun hc => ?_) (fun hc => ?_)
  · exact kk _ _ H locs ls hR1 hP hD hS hl
  · exact absurd rfl hc
set_option maxHeartbeats 4000000 in
set_option maxRecDepth 100000 in
theorem lc_30 {p : Program} {l : Launch} {e : Env} {s : State} {m : MethodId} {below : List Frame} {meth : Method} {c : Code} {dC : Nat → ClassId} {dI : Nat → Nat → Nat} {cy : ClassId} {b L : Nat} {xs : Nat → Int32} (C0 : lw_At p s m meth c b L xs) (hK : va_K (dC, dI) vwCl [(cy, .int)] s) (hG : GL (fun q : Nat => s.heap.size ≤ q) s) (x3 : Int32) (hi1 : vp_in (x3 + (1 : Int32)) L) (hi2 : vp_in (x3 + (2 : Int32)) L) (hi3 : vp_in (x3 + (3 : Int32)) L) (n : Nat) (h0 h1 : Nat → Nat) (w0 w1 : Nat → Nat → Int32) (hn : n < 1000) (hR : zR n w0 w1) (kk : ∀ (v0 v1 : Nat → Nat → Int32) (H : Heap) (locs : List Loc) (ls : Array Slot), zR (n + 1) v0 v1 → va_P (dC, dI) vwCl (zW_78 cy h0 v0 h1 v1) H → va_D (fun q : Nat => s.heap.size ≤ q) (zW_78 cy h0 v0 h1 v1) → va_S (fun q : Nat => s.heap.size ≤ q) s.heap H locs → lv_has ls 4 [(0, .ref b), (1, .ref (h0 0)), (2, .ref (h1 0)), (3, .int x3)] → W p l e room_1 s m #[Value.ref b] below meth c H locs 43 1370 (lw_Z below #[Value.ref b] s) (F0 m 899 ls [])) (H : Heap) (locs : List Loc) (ls : Array Slot) (hP : va_P (dC, dI) vwCl (zW_78 cy h0 w0 h1 w1) H) (hD : va_D (fun q : Nat => s.heap.size ≤ q) (zW_78 cy h0 w0 h1 w1)) (hS : va_S (fun q : Nat => s.heap.size ≤ q) s.heap H locs) (hl : lv_has ls 4 [(0, .ref b), (1, .ref (h0 0)), (2, .ref (h1 0)), (3, .int x3)]) : W p l e room_1 s m #[Value.ref b] below meth c H locs 43 1370 (lw_Z below #[Value.ref b] s) (F0 m 850 ls []) := by
  obtain ⟨hx, hb, hr, hml, hown, hts0, hX, hbl, hlocks, hgv⟩ := C0
  have hts : ∀ w ∈ wsA, w.before #[Value.ref b] s = true := fun w h => hts0 w (wa_of h)
  have hown : s.vm.findClass RL = some m.cls := hown
  have hA : ∀ q : Nat, s.heap.size ≤ q → (fun q : Nat => s.heap.size ≤ q) q := fun _ h => h
  have hbA : ¬ (fun q : Nat => s.heap.size ≤ q) b := Nat.not_le.mpr hbl
  obtain ⟨r, c0, c14, c15, c16, c17, c18, c19, c20, c21, c22, c23, d0, d10, d11, hzE, hzM, hR1⟩ := sim_image hn hR
  refine lv_aload_n hx hb dL_law_850 rfl (lv_at hl 1 rfl) ?_
  refine zwiV (q := (RX7, TX7, 10)) (As := []) (rest := []) (r := r) (u := (c0, c14, c15, c16, c17, c18, c19, c20, c21, c22, c23)) (wn := zW_78 cy h0 (ups (ups (ups (ups (ups (ups (ups (ups (ups (ups (ups w0 0 c0) 14 c14) 15 c15) 16 c16) 17 c17) 18 c18) 19 c19) 20 c20) 21 c21) 22 c22) 23 c23) h1 w1) ⟨hx, hb, hml, hown, hts⟩ (kX7_image l dC dI cy h0 w0 H.size (r, c0, c14, c15, c16, c17, c18, c19, c20, c21, c22, c23) hzE) mw_558 mw_559 mw_560 mw_1 mw_561 hdX7_image rfl rfl ⟨Nat.le_of_ble_eq_true rfl, Nat.le_of_ble_eq_true rfl⟩ hP hK hG hS 0 rfl rfl hD hA [0, 1, 2, 3, 4, 5, 6, 7, 8, 9, 10, 11, 12, 13, 14, 15, 16, 17, 18, 19, 20, 21, 22, 23, 24, 25, 26, 27, 28] [29, 30, 31, 32, 33, 34, 35, 36, 37, 38, 39, 40, 41, 42] [14, 15, 16, 17, 18, 19, 20, 21, 22, 23, 24, 25, 26, 27, 28, 29, 30, 31, 32, 33, 34, 35, 36, 37, 38, 39, 40, 41, 42, 0, 1, 2, 3, 4, 5, 6, 7, 8, 9, 10, 11, 12, 13] rfl rfl rfl rfl (by decide) rfl rfl rfl hl.1 rfl (Nat.le_of_ble_eq_true rfl) dL_law_851 ⟨Nat.le_refl 43, Nat.le_refl 1370⟩ (fun H locs hP hD hS => ?_)
  refine lv_aload_n hx hb dL_law_854 rfl (lv_at hl 2 rfl) ?_
  refine zwiV (q := (RX8, TX8, 37)) (As := []) (rest := [.int r]) (r := r) (u := (d0, d10, d11)) (wn := zW_78 cy h0 (ups (ups (ups (ups (ups (ups (ups (ups (ups (ups (ups w0 0 c0) 14 c14) 15 c15) 16 c16) 17 c17) 18 c18) 19 c19) 20 c20) 21 c21) 22 c22) 23 c23) h1 (ups (ups (ups w1 0 d0) 10 d10) 11 d11)) ⟨hx, hb, hml, hown, hts⟩ (kX8_image l dC dI cy h1 w1 H.size (r, d0, d10, d11) hzM) mw_871 mw_872 mw_873 mw_9 mw_874 hdX8_image rfl rfl ⟨Nat.le_of_ble_eq_true rfl, Nat.le_of_ble_eq_true rfl⟩ hP hK hG hS 29 rfl rfl hD hA [29, 30, 31, 32, 33, 34, 35, 36, 37, 38, 39, 40, 41, 42] [0, 1, 2, 3, 4, 5, 6, 7, 8, 9, 10, 11, 12, 13, 14, 15, 16, 17, 18, 19, 20, 21, 22, 23, 24, 25, 26, 27, 28] [0, 1, 2, 3, 4, 5, 6, 7, 8, 9, 10, 11, 12, 13, 14, 15, 16, 17, 18, 19, 20, 21, 22, 23, 24, 25, 26, 27, 28, 29, 30, 31, 32, 33, 34, 35, 36, 37, 38, 39, 40, 41, 42] rfl rfl rfl rfl (by decide) rfl rfl rfl hl.1 rfl (Nat.le_of_ble_eq_true rfl) dL_law_855 ⟨Nat.le_refl 43, Nat.le_refl 1370⟩ (fun H locs hP hD hS => ?_)
  refine lv_icmp_eq (tgt := 899) hx hb dL_law_858 (by decide) (fun hc => ?_) (fun hc => ?_)
  · exact kk _ _ H locs ls hR1 hP hD hS hl
  · exact absurd rfl hc
set_option maxHeartbeats 4000000 in
set_option maxRecDepth 100000 in
theorem lc_31 {p : Program} {l : Launch} {e : Env} {s : State} {m : MethodId} {below : List Frame} {meth : Method} {c : Code} {dC : Nat → ClassId} {dI : Nat → Nat → Nat} {cy : ClassId} {b L : Nat} {xs : Nat → Int32} (C0 : lw_At p s m meth c b L xs) (hK : va_K (dC, dI) vwCl [(cy, .int)] s) (hG : GL (fun q : Nat => s.heap.size ≤ q) s) (x3 : Int32) (hi1 : vp_in (x3 + (1 : Int32)) L) (hi2 : vp_in (x3 + (2 : Int32)) L) (hi3 : vp_in (x3 + (3 : Int32)) L) (n : Nat) (h0 h1 : Nat → Nat) (w0 w1 : Nat → Nat → Int32) (hn : n < 1000) (hR : zR n w0 w1) (kk : ∀ (v0 v1 : Nat → Nat → Int32) (H : Heap) (locs : List Loc) (ls : Array Slot), zR (n + 1) v0 v1 → va_P (dC, dI) vwCl (zW_78 cy h0 v0 h1 v1) H → va_D (fun q : Nat => s.heap.size ≤ q) (zW_78 cy h0 v0 h1 v1) → va_S (fun q : Nat => s.heap.size ≤ q) s.heap H locs → lv_has ls 4 [(0, .ref b), (1, .ref (h0 0)), (2, .ref (h1 0)), (3, .int x3)] → W p l e room_1 s m #[Value.ref b] below meth c H locs 43 1370 (lw_Z below #[Value.ref b] s) (F0 m 899 ls [])) (H : Heap) (locs : List Loc) (ls : Array Slot) (hP : va_P (dC, dI) vwCl (zW_78 cy h0 w0 h1 w1) H) (hD : va_D (fun q : Nat => s.heap.size ≤ q) (zW_78 cy h0 w0 h1 w1)) (hS : va_S (fun q : Nat => s.heap.size ≤ q) s.heap H locs) (hl : lv_has ls 4 [(0, .ref b), (1, .ref (h0 0)), (2, .ref (h1 0)), (3, .int x3)]) : W p l e room_1 s m #[Value.ref b] below meth c H locs 43 1370 (lw_Z below #[Value.ref b] s) (F0 m 863 ls []) := by
  obtain ⟨hx, hb, hr, hml, hown, hts0, hX, hbl, hlocks, hgv⟩ := C0
  have hts : ∀ w ∈ wsA, w.before #[Value.ref b] s = true := fun w h => hts0 w (wa_of h)
  have hown : s.vm.findClass RL = some m.cls := hown
  have hA : ∀ q : Nat, s.heap.size ≤ q → (fun q : Nat => s.heap.size ≤ q) q := fun _ h => h
  have hbA : ¬ (fun q : Nat => s.heap.size ≤ q) b := Nat.not_le.mpr hbl
  obtain ⟨r, c3, c4, c5, c6, c7, c8, c9, c10, c11, c12, c28, d0, d1, d3, d4, d5, d6, d7, d9, d11, hzE, hzM, hR1⟩ := sim_on hn hR
  refine lv_aload_n hx hb dL_law_863 rfl (lv_at hl 1 rfl) ?_
  refine zwiV (q := (RX7, TX7, 10)) (As := []) (rest := []) (r := r) (u := (c3, c4, c5, c6, c7, c8, c9, c10, c11, c12, c28)) (wn := zW_78 cy h0 (ups (ups (ups (ups (ups (ups (ups (ups (ups (ups (ups w0 3 c3) 4 c4) 5 c5) 6 c6) 7 c7) 8 c8) 9 c9) 10 c10) 11 c11) 12 c12) 28 c28) h1 w1) ⟨hx, hb, hml, hown, hts⟩ (kX7_on l dC dI cy h0 w0 H.size (r, c3, c4, c5, c6, c7, c8, c9, c10, c11, c12, c28) hzE) mw_576 mw_577 mw_578 mw_1 mw_579 hdX7_on rfl rfl ⟨Nat.le_of_ble_eq_true rfl, Nat.le_of_ble_eq_true rfl⟩ hP hK hG hS 0 rfl rfl hD hA [0, 1, 2, 3, 4, 5, 6, 7, 8, 9, 10, 11, 12, 13, 14, 15, 16, 17, 18, 19, 20, 21, 22, 23, 24, 25, 26, 27, 28] [29, 30, 31, 32, 33, 34, 35, 36, 37, 38, 39, 40, 41, 42] [14, 15, 16, 17, 18, 19, 20, 21, 22, 23, 24, 25, 26, 27, 28, 29, 30, 31, 32, 33, 34, 35, 36, 37, 38, 39, 40, 41, 42, 0, 1, 2, 3, 4, 5, 6, 7, 8, 9, 10, 11, 12, 13] rfl rfl rfl rfl (by decide) rfl rfl rfl hl.1 rfl (Nat.le_of_ble_eq_true rfl) dL_law_864 ⟨Nat.le_refl 43, Nat.le_refl 1370⟩ (fun H locs hP hD hS => ?_)
  refine lv_aload_n hx hb dL_law_867 rfl (lv_at hl 2 rfl) ?_
  refine zwiV (q := (RX8, TX8, 37)) (As := []) (rest := [.int r]) (r := r) (u := (d0, d1, d3, d4, d5, d6, d7, d9, d11)) (wn := zW_78 cy h0 (ups (ups (ups (ups (ups (ups (ups (ups (ups (ups (ups w0 3 c3) 4 c4) 5 c5) 6 c6) 7 c7) 8 c8) 9 c9) 10 c10) 11 c11) 12 c12) 28 c28) h1 (ups (ups (ups (ups (ups (ups (ups (ups (ups w1 0 d0) 1 d1) 3 d3) 4 d4) 5 d5) 6 d6) 7 d7) 9 d9) 11 d11)) ⟨hx, hb, hml, hown, hts⟩ (kX8_on l dC dI cy h1 w1 H.size (r, d0, d1, d3, d4, d5, d6, d7, d9, d11) hzM) mw_875 mw_876 mw_877 mw_9 mw_878 hdX8_on rfl rfl ⟨Nat.le_of_ble_eq_true rfl, Nat.le_of_ble_eq_true rfl⟩ hP hK hG hS 29 rfl rfl hD hA [29, 30, 31, 32, 33, 34, 35, 36, 37, 38, 39, 40, 41, 42] [0, 1, 2, 3, 4, 5, 6, 7, 8, 9, 10, 11, 12, 13, 14, 15, 16, 17, 18, 19, 20, 21, 22, 23, 24, 25, 26, 27, 28] [0, 1, 2, 3, 4, 5, 6, 7, 8, 9, 10, 11, 12, 13, 14, 15, 16, 17, 18, 19, 20, 21, 22, 23, 24, 25, 26, 27, 28, 29, 30, 31, 32, 33, 34, 35, 36, 37, 38, 39, 40, 41, 42] rfl rfl rfl rfl (by decide) rfl rfl rfl hl.1 rfl (Nat.le_of_ble_eq_true rfl) dL_law_868 ⟨Nat.le_refl 43, Nat.le_refl 1370⟩ (fun H locs hP hD hS => ?_)
  refine lv_icmp_eq (tgt := 899) hx hb dL_law_871 (by decide) (fun hc => ?_) (fun hc => ?_)
  · exact kk _ _ H locs ls hR1 hP hD hS hl
  · exact absurd rfl hc
set_option maxHeartbeats 4000000 in
set_option maxRecDepth 100000 in
theorem lc_32 {p : Program} {l : Launch} {e : Env} {s : State} {m : MethodId} {below : List Frame} {meth : Method} {c : Code} {dC : Nat → ClassId} {dI : Nat → Nat → Nat} {cy : ClassId} {b L : Nat} {xs : Nat → Int32} (C0 : lw_At p s m meth c b L xs) (hK : va_K (dC, dI) vwCl [(cy, .int)] s) (hG : GL (fun q : Nat => s.heap.size ≤ q) s) (x3 : Int32) (hi1 : vp_in (x3 + (1 : Int32)) L) (hi2 : vp_in (x3 + (2 : Int32)) L) (hi3 : vp_in (x3 + (3 : Int32)) L) (n : Nat) (h0 h1 : Nat → Nat) (w0 w1 : Nat → Nat → Int32) (hn : n < 1000) (hR : zR n w0 w1) (kk : ∀ (v0 v1 : Nat → Nat → Int32) (H : Heap) (locs : List Loc) (ls : Array Slot), zR (n + 1) v0 v1 → va_P (dC, dI) vwCl (zW_78 cy h0 v0 h1 v1) H → va_D (fun q : Nat => s.heap.size ≤ q) (zW_78 cy h0 v0 h1 v1) → va_S (fun q : Nat => s.heap.size ≤ q) s.heap H locs → lv_has ls 4 [(0, .ref b), (1, .ref (h0 0)), (2, .ref (h1 0)), (3, .int x3)] → W p l e room_1 s m #[Value.ref b] below meth c H locs 43 1370 (lw_Z below #[Value.ref b] s) (F0 m 899 ls [])) (H : Heap) (locs : List Loc) (ls : Array Slot) (hP : va_P (dC, dI) vwCl (zW_78 cy h0 w0 h1 w1) H) (hD : va_D (fun q : Nat => s.heap.size ≤ q) (zW_78 cy h0 w0 h1 w1)) (hS : va_S (fun q : Nat => s.heap.size ≤ q) s.heap H locs) (hl : lv_has ls 4 [(0, .ref b), (1, .ref (h0 0)), (2, .ref (h1 0)), (3, .int x3)]) : W p l e room_1 s m #[Value.ref b] below meth c H locs 43 1370 (lw_Z below #[Value.ref b] s) (F0 m 876 ls []) := by
  obtain ⟨hx, hb, hr, hml, hown, hts0, hX, hbl, hlocks, hgv⟩ := C0
  have hts : ∀ w ∈ wsA, w.before #[Value.ref b] s = true := fun w h => hts0 w (wa_of h)
  have hown : s.vm.findClass RL = some m.cls := hown
  have hA : ∀ q : Nat, s.heap.size ≤ q → (fun q : Nat => s.heap.size ≤ q) q := fun _ h => h
  have hbA : ¬ (fun q : Nat => s.heap.size ≤ q) b := Nat.not_le.mpr hbl
  obtain ⟨r, hzE, hzM, hR1⟩ := sim_count hn hR (xs (x3 + (1 : Int32)).toNatClampNeg)
  refine lv_aload_n hx hb dL_law_876 rfl (lv_at hl 1 rfl) ?_
  refine lv_aload_n hx hb dL_law_877 rfl (lv_at hl 0 rfl) ?_
  refine lv_iload_n hx hb dL_law_878 rfl (lv_at hl 3 rfl) ?_
  refine lv_iconst (v := (1 : Int32)) hx hb dL_law_879 (by decide) ?_
  refine lv_iadd hx hb dL_law_880 ?_
  refine va_sld hx hb hX hbl hbA hS hi1 dL_law_881 ?_
  refine zroV (q := (RX7, TX7, 10)) (As := [.int (xs (x3 + (1 : Int32)).toNatClampNeg)]) (rest := []) (r := r) ⟨hx, hb, hml, hown, hts⟩ (kX7_count l dC dI cy h0 w0 (xs (x3 + (1 : Int32)).toNatClampNeg) r hzE) mw_580 mw_581 mw_582 mw_1 mw_583 hdX7_count rfl rfl ⟨Nat.le_of_ble_eq_true rfl, Nat.le_of_ble_eq_true rfl⟩ hP hK hG hS 0 rfl rfl [0, 1, 2, 3, 4, 5, 6, 7, 8, 9, 10, 11, 12, 13, 14, 15, 16, 17, 18, 19, 20, 21, 22, 23, 24, 25, 26, 27, 28] rfl rfl hl.1 rfl (Nat.le_of_ble_eq_true rfl) dL_law_882 ⟨Nat.le_refl 43, Nat.le_refl 1370⟩ ?_
  refine lv_aload_n hx hb dL_law_885 rfl (lv_at hl 2 rfl) ?_
  refine lv_aload_n hx hb dL_law_886 rfl (lv_at hl 0 rfl) ?_
  refine lv_iload_n hx hb dL_law_887 rfl (lv_at hl 3 rfl) ?_
  refine lv_iconst (v := (1 : Int32)) hx hb dL_law_888 (by decide) ?_
  refine lv_iadd hx hb dL_law_889 ?_
  refine va_sld hx hb hX hbl hbA hS hi1 dL_law_890 ?_
  refine zroV (q := (RX8, TX8, 37)) (As := [.int (xs (x3 + (1 : Int32)).toNatClampNeg)]) (rest := [.int r]) (r := r) ⟨hx, hb, hml, hown, hts⟩ (kX8_count l dC dI cy h1 w1 (xs (x3 + (1 : Int32)).toNatClampNeg) r hzM) mw_879 mw_880 mw_881 mw_9 mw_882 hdX8_count rfl rfl ⟨Nat.le_of_ble_eq_true rfl, Nat.le_of_ble_eq_true rfl⟩ hP hK hG hS 29 rfl rfl [29, 30, 31, 32, 33, 34, 35, 36, 37, 38, 39, 40, 41, 42] rfl rfl hl.1 rfl (Nat.le_of_ble_eq_true rfl) dL_law_891 ⟨Nat.le_refl 43, Nat.le_refl 1370⟩ ?_
  refine lv_icmp_eq (tgt := 899) hx hb dL_law_894 (by decide) (fun hc => ?_) (fun hc => ?_)
  · exact kk _ _ H locs ls hR1 hP hD hS hl
  · exact absurd rfl hc
