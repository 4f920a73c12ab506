theorem lg_ix {x L : Nat} (hL : L ≤ 2048) (h : x < L) : vp_in (nI x) L := vp_in_nI h (by omega)
theorem nI_sub4 {L i : Nat} (hL : L ≤ 2048) (hi : i ≤ 2048) (h : nI i ≤ nI L - (4 : Int32)) : i + 4 ≤ L := by
  have e4 : (4 : Int32) = nI 4 := rfl
  rw [e4] at h
  have h1 : (nI L - nI 4).toInt = (L : Int) - 4 := pk_sub_toInt (by omega) (by omega)
  have h2 : (nI i).toInt ≤ (nI L - nI 4).toInt := Int32.le_iff_toInt_le.mp h
  rw [h1, nI_toInt (by omega)] at h2
  omega
set_option maxHeartbeats 4000000 in
set_option maxRecDepth 100000 in
/-- the law's loop: n calls are behind -/
theorem law_loop {p : Program} {l : Launch} {e : Env} {s : State} {m : MethodId} {below : List Frame} {meth : Method} {c : Code} {dC : Nat → ClassId} {dI : Nat → Nat → Nat} {cy : ClassId} {b L : Nat} {xs : Nat → Int32} (hL : L ≤ 2048) (C0 : lw_At p s m meth c b L xs) (hK : va_K (dC, dI) vwCl [(cy, .int)] s) (hG : GL (fun q : Nat => s.heap.size ≤ q) s) (h0 h1 : Nat → Nat) : ∀ (k n : Nat) (x3 : Int32) (w0 w1 : Nat → Nat → Int32) (H : Heap) (locs : List Loc) (ls : Array Slot), x3 = nI (4 * n) → 4 * n ≤ 2048 → 513 ≤ n + k → zR n w0 w1 → va_P (dC, dI) vwCl (zW_78 cy h0 w0 h1 w1) H → va_D (fun q : Nat => s.heap.size ≤ q) (zW_78 cy h0 w0 h1 w1) → va_S (fun q : Nat => s.heap.size ≤ q) s.heap H locs → lv_has ls 4 [(0, .ref b), (1, .ref (h0 0)), (2, .ref (h1 0)), (3, .int x3)] → W p l e room_1 s m #[Value.ref b] below meth c H locs 43 1370 (lw_Z below #[Value.ref b] s) (F0 m 18 ls []) := by
  intro k
  induction k with
  | zero => intro n x3 w0 w1 H locs ls e3 hn hk; omega
  | succ k ih =>
    intro n x3 w0 w1 H locs ls e3 hn hk hR hP hD hS hl
    obtain ⟨hx, hb, hr, hml, hown, hts0, hX, hbl, hlocks, hgv⟩ := id C0
    have hbA : ¬ (fun q : Nat => s.heap.size ≤ q) b := Nat.not_le.mpr hbl
    refine lv_iload_n hx hb dL_law_18 rfl (lv_at hl 3 rfl) ?_
    refine lv_aload_n hx hb dL_law_19 rfl (lv_at hl 0 rfl) ?_
    refine va_slen hx hb hX hbl hbA hS dL_law_20 ?_
    refine lv_iconst (v := (4 : Int32)) hx hb dL_law_21 (by decide) ?_
    refine lv_isub hx hb dL_law_22 ?_
    refine lv_icmp_gt (tgt := 905) hx hb dL_law_23 (by decide) (fun hc => ?_) (fun hc => ?_)
    · refine lv_iconst (v := (1 : Int32)) hx hb dL_law_905 (by decide) ?_
      refine va_forget (fun q hq => hS.2.2 q hq) ?_
      exact lw_ret hx hb hr hlocks dL_law_906
    · have hle : 4 * n + 4 ≤ L := nI_sub4 hL hn (by rw [← e3]; exact Int32.not_lt.mp hc)
      have hi0 : vp_in x3 L := by rw [e3]; exact lg_ix hL (by omega)
      have hi1 : vp_in (x3 + (1 : Int32)) L := by rw [e3, show (1 : Int32) = nI 1 from rfl, nI_add]; exact lg_ix hL (by omega)
      have hi2 : vp_in (x3 + (2 : Int32)) L := by rw [e3, show (2 : Int32) = nI 2 from rfl, nI_add]; exact lg_ix hL (by omega)
      have hi3 : vp_in (x3 + (3 : Int32)) L := by rw [e3, show (3 : Int32) = nI 3 from rfl, nI_add]; exact lg_ix hL (by omega)
      have hnext : ∀ (n' : Nat), n' = n + 1 → ∀ (v0 v1 : Nat → Nat → Int32) (H : Heap) (locs : List Loc) (ls : Array Slot), zR n' v0 v1 → va_P (dC, dI) vwCl (zW_78 cy h0 v0 h1 v1) H → va_D (fun q : Nat => s.heap.size ≤ q) (zW_78 cy h0 v0 h1 v1) → va_S (fun q : Nat => s.heap.size ≤ q) s.heap H locs → lv_has ls 4 [(0, .ref b), (1, .ref (h0 0)), (2, .ref (h1 0)), (3, .int x3)] → W p l e room_1 s m #[Value.ref b] below meth c H locs 43 1370 (lw_Z below #[Value.ref b] s) (F0 m 899 ls []) := by
        intro n' hn' v0 v1 H locs ls hR hP hD hS hl
        subst hn'
        refine lv_zinc (lv' := [(3, .int (x3 + (4 : Int32))), (0, .ref b), (1, .ref (h0 0)), (2, .ref (h1 0))]) hx hb dL_law_899 hl (k := 3) rfl (v := (4 : Int32)) (by decide) (by decide) rfl (fun ls hl => ?_)
        refine lv_goto (tgt := 18) hx hb dL_law_902 (by decide) ?_
        exact ih (n + 1) (x3 + (4 : Int32)) v0 v1 H locs ls (by rw [e3, show (4 : Int32) = nI 4 from rfl, nI_add]; rfl) (by omega) (by omega) hR hP hD hS (lv_sub hl [1, 2, 3, 0] rfl)
      refine lv_aload_n hx hb dL_law_26 rfl (lv_at hl 0 rfl) ?_
      refine lv_iload_n hx hb dL_law_27 rfl (lv_at hl 3 rfl) ?_
      refine va_sld hx hb hX hbl hbA hS hi0 dL_law_28 ?_
      refine lv_bipush (v := (63 : Int32)) hx hb dL_law_29 (by decide) ?_
      refine lv_iand hx hb dL_law_31 ?_
      generalize (xs x3.toNatClampNeg &&& (63 : Int32)) = w
      by_cases hsw0 : w = (0 : Int32)
      · refine lv_tableIn (tgt := 180) (off := 148) hx hb dL_law_32 (by rw [hsw0]; decide) (by rw [hsw0]; decide) (by rw [hsw0]; rfl) (by decide) ?_
        exact lc_0 C0 hK hG x3 hi1 hi2 hi3 n h0 h1 w0 w1 (by omega) hR (hnext (n + 1) rfl) H locs ls hP hD hS hl
      by_cases hsw1 : w = (1 : Int32)
      · refine lv_tableIn (tgt := 203) (off := 171) hx hb dL_law_32 (by rw [hsw1]; decide) (by rw [hsw1]; decide) (by rw [hsw1]; rfl) (by decide) ?_
        exact lc_1 C0 hK hG x3 hi1 hi2 hi3 n h0 h1 w0 w1 (by omega) hR (hnext (n + 1) rfl) H locs ls hP hD hS hl
      by_cases hsw2 : w = (2 : Int32)
      · refine lv_tableIn (tgt := 216) (off := 184) hx hb dL_law_32 (by rw [hsw2]; decide) (by rw [hsw2]; decide) (by rw [hsw2]; rfl) (by decide) ?_
        exact lc_2 C0 hK hG x3 hi1 hi2 hi3 n h0 h1 w0 w1 (by omega) hR (hnext (n + 1) rfl) H locs ls hP hD hS hl
      by_cases hsw3 : w = (3 : Int32)
      · refine lv_tableIn (tgt := 239) (off := 207) hx hb dL_law_32 (by rw [hsw3]; decide) (by rw [hsw3]; decide) (by rw [hsw3]; rfl) (by decide) ?_
        exact lc_3 C0 hK hG x3 hi1 hi2 hi3 n h0 h1 w0 w1 (by omega) hR (hnext (n + 1) rfl) H locs ls hP hD hS hl
      by_cases hsw4 : w = (4 : Int32)
      · refine lv_tableIn (tgt := 272) (off := 240) hx hb dL_law_32 (by rw [hsw4]; decide) (by rw [hsw4]; decide) (by rw [hsw4]; rfl) (by decide) ?_
        exact lc_4 C0 hK hG x3 hi1 hi2 hi3 n h0 h1 w0 w1 (by omega) hR (hnext (n + 1) rfl) H locs ls hP hD hS hl
      by_cases hsw5 : w = (5 : Int32)
      · refine lv_tableIn (tgt := 305) (off := 273) hx hb dL_law_32 (by rw [hsw5]; decide) (by rw [hsw5]; decide) (by rw [hsw5]; rfl) (by decide) ?_
        exact lc_5 C0 hK hG x3 hi1 hi2 hi3 n h0 h1 w0 w1 (by omega) hR (hnext (n + 1) rfl) H locs ls hP hD hS hl
      by_cases hsw6 : w = (6 : Int32)
      · refine lv_tableIn (tgt := 338) (off := 306) hx hb dL_law_32 (by rw [hsw6]; decide) (by rw [hsw6]; decide) (by rw [hsw6]; rfl) (by decide) ?_
        exact lc_6 C0 hK hG x3 hi1 hi2 hi3 n h0 h1 w0 w1 (by omega) hR (hnext (n + 1) rfl) H locs ls hP hD hS hl
      by_cases hsw7 : w = (7 : Int32)
      · refine lv_tableIn (tgt := 361) (off := 329) hx hb dL_law_32 (by rw [hsw7]; decide) (by rw [hsw7]; decide) (by rw [hsw7]; rfl) (by decide) ?_
        exact lc_7 C0 hK hG x3 hi1 hi2 hi3 n h0 h1 w0 w1 (by omega) hR (hnext (n + 1) rfl) H locs ls hP hD hS hl
      by_cases hsw8 : w = (8 : Int32)
      · refine lv_tableIn (tgt := 384) (off := 352) hx hb dL_law_32 (by rw [hsw8]; decide) (by rw [hsw8]; decide) (by rw [hsw8]; rfl) (by decide) ?_
        exact lc_8 C0 hK hG x3 hi1 hi2 hi3 n h0 h1 w0 w1 (by omega) hR (hnext (n + 1) rfl) H locs ls hP hD hS hl
      by_cases hsw9 : w = (9 : Int32)
      · refine lv_tableIn (tgt := 407) (off := 375) hx hb dL_law_32 (by rw [hsw9]; decide) (by rw [hsw9]; decide) (by rw [hsw9]; rfl) (by decide) ?_
        exact lc_9 C0 hK hG x3 hi1 hi2 hi3 n h0 h1 w0 w1 (by omega) hR (hnext (n + 1) rfl) H locs ls hP hD hS hl
      by_cases hsw10 : w = (10 : Int32)
      · refine lv_tableIn (tgt := 430) (off := 398) hx hb dL_law_32 (by rw [hsw10]; decide) (by rw [hsw10]; decide) (by rw [hsw10]; rfl) (by decide) ?_
        exact lc_10 C0 hK hG x3 hi1 hi2 hi3 n h0 h1 w0 w1 (by omega) hR (hnext (n + 1) rfl) H locs ls hP hD hS hl
      by_cases hsw11 : w = (11 : Int32)
      · refine lv_tableIn (tgt := 453) (off := 421) hx hb dL_law_32 (by rw [hsw11]; decide) (by rw [hsw11]; decide) (by rw [hsw11]; rfl) (by decide) ?_
        exact lc_11 C0 hK hG x3 hi1 hi2 hi3 n h0 h1 w0 w1 (by omega) hR (hnext (n + 1) rfl) H locs ls hP hD hS hl
      by_cases hsw12 : w = (12 : Int32)
      · refine lv_tableIn (tgt := 476) (off := 444) hx hb dL_law_32 (by rw [hsw12]; decide) (by rw [hsw12]; decide) (by rw [hsw12]; rfl) (by decide) ?_
        exact lc_12 C0 hK hG x3 hi1 hi2 hi3 n h0 h1 w0 w1 (by omega) hR (hnext (n + 1) rfl) H locs ls hP hD hS hl
      by_cases hsw13 : w = (13 : Int32)
      · refine lv_tableIn (tgt := 499) (off := 467) hx hb dL_law_32 (by rw [hsw13]; decide) (by rw [hsw13]; decide) (by rw [hsw13]; rfl) (by decide) ?_
        exact lc_13 C0 hK hG x3 hi1 hi2 hi3 n h0 h1 w0 w1 (by omega) hR (hnext (n + 1) rfl) H locs ls hP hD hS hl
      by_cases hsw14 : w = (14 : Int32)
      · refine lv_tableIn (tgt := 512) (off := 480) hx hb dL_law_32 (by rw [hsw14]; decide) (by rw [hsw14]; decide) (by rw [hsw14]; rfl) (by decide) ?_
        exact lc_14 C0 hK hG x3 hi1 hi2 hi3 n h0 h1 w0 w1 (by omega) hR (hnext (n + 1) rfl) H locs ls hP hD hS hl
      by_cases hsw15 : w = (15 : Int32)
      · refine lv_tableIn (tgt := 525) (off := 493) hx hb dL_law_32 (by rw [hsw15]; decide) (by rw [hsw15]; decide) (by rw [hsw15]; rfl) (by decide) ?_
        exact lc_15 C0 hK hG x3 hi1 hi2 hi3 n h0 h1 w0 w1 (by omega) hR (hnext (n + 1) rfl) H locs ls hP hD hS hl
      by_cases hsw16 : w = (16 : Int32)
      · refine lv_tableIn (tgt := 538) (off := 506) hx hb dL_law_32 (by rw [hsw16]; decide) (by rw [hsw16]; decide) (by rw [hsw16]; rfl) (by decide) ?_
        exact lc_16 C0 hK hG x3 hi1 hi2 hi3 n h0 h1 w0 w1 (by omega) hR (hnext (n + 1) rfl) H locs ls hP hD hS hl
      by_cases hsw17 : w = (17 : Int32)
      · refine lv_tableIn (tgt := 551) (off := 519) hx hb dL_law_32 (by rw [hsw17]; decide) (by rw [hsw17]; decide) (by rw [hsw17]; rfl) (by decide) ?_
        exact lc_17 C0 hK hG x3 hi1 hi2 hi3 n h0 h1 w0 w1 (by omega) hR (hnext (n + 1) rfl) H locs ls hP hD hS hl
      by_cases hsw18 : w = (18 : Int32)
      · refine lv_tableIn (tgt := 574) (off := 542) hx hb dL_law_32 (by rw [hsw18]; decide) (by rw [hsw18]; decide) (by rw [hsw18]; rfl) (by decide) ?_
        exact lc_18 C0 hK hG x3 hi1 hi2 hi3 n h0 h1 w0 w1 (by omega) hR (hnext (n + 1) rfl) H locs ls hP hD hS hl
      by_cases hsw19 : w = (19 : Int32)
      · refine lv_tableIn (tgt := 587) (off := 555) hx hb dL_law_32 (by rw [hsw19]; decide) (by rw [hsw19]; decide) (by rw [hsw19]; rfl) (by decide) ?_
        exact lc_19 C0 hK hG x3 hi1 hi2 hi3 n h0 h1 w0 w1 (by omega) hR (hnext (n + 1) rfl) H locs ls hP hD hS hl
      by_cases hsw20 : w = (20 : Int32)
      · refine lv_tableIn (tgt := 600) (off := 568) hx hb dL_law_32 (by rw [hsw20]; decide) (by rw [hsw20]; decide) (by rw [hsw20]; rfl) (by decide) ?_
        exact lc_20 C0 hK hG x3 hi1 hi2 hi3 n h0 h1 w0 w1 (by omega) hR (hnext (n + 1) rfl) H locs ls hP hD hS hl
      by_cases hsw21 : w = (21 : Int32)
      · refine lv_tableIn (tgt := 613) (off := 581) hx hb dL_law_32 (by rw [hsw21]; decide) (by rw [hsw21]; decide) (by rw [hsw21]; rfl) (by decide) ?_
        exact lc_21 C0 hK hG x3 hi1 hi2 hi3 n h0 h1 w0 w1 (by omega) hR (hnext (n + 1) rfl) H locs ls hP hD hS hl
      by_cases hsw22 : w = (22 : Int32)
      · refine lv_tableIn (tgt := 656) (off := 624) hx hb dL_law_32 (by rw [hsw22]; decide) (by rw [hsw22]; decide) (by rw [hsw22]; rfl) (by decide) ?_
        exact lc_22 C0 hK hG x3 hi1 hi2 hi3 n h0 h1 w0 w1 (by omega) hR (hnext (n + 1) rfl) H locs ls hP hD hS hl
      by_cases hsw23 : w = (23 : Int32)
      · refine lv_tableIn (tgt := 669) (off := 637) hx hb dL_law_32 (by rw [hsw23]; decide) (by rw [hsw23]; decide) (by rw [hsw23]; rfl) (by decide) ?_
        exact lc_23 C0 hK hG x3 hi1 hi2 hi3 n h0 h1 w0 w1 (by omega) hR (hnext (n + 1) rfl) H locs ls hP hD hS hl
      by_cases hsw24 : w = (24 : Int32)
      · refine lv_tableIn (tgt := 702) (off := 670) hx hb dL_law_32 (by rw [hsw24]; decide) (by rw [hsw24]; decide) (by rw [hsw24]; rfl) (by decide) ?_
        exact lc_24 C0 hK hG x3 hi1 hi2 hi3 n h0 h1 w0 w1 (by omega) hR (hnext (n + 1) rfl) H locs ls hP hD hS hl
      by_cases hsw25 : w = (25 : Int32)
      · refine lv_tableIn (tgt := 735) (off := 703) hx hb dL_law_32 (by rw [hsw25]; decide) (by rw [hsw25]; decide) (by rw [hsw25]; rfl) (by decide) ?_
        exact lc_25 C0 hK hG x3 hi1 hi2 hi3 n h0 h1 w0 w1 (by omega) hR (hnext (n + 1) rfl) H locs ls hP hD hS hl
      by_cases hsw26 : w = (26 : Int32)
      · refine lv_tableIn (tgt := 768) (off := 736) hx hb dL_law_32 (by rw [hsw26]; decide) (by rw [hsw26]; decide) (by rw [hsw26]; rfl) (by decide) ?_
        exact lc_26 C0 hK hG x3 hi1 hi2 hi3 n h0 h1 w0 w1 (by omega) hR (hnext (n + 1) rfl) H locs ls hP hD hS hl
      by_cases hsw27 : w = (27 : Int32)
      · refine lv_tableIn (tgt := 781) (off := 749) hx hb dL_law_32 (by rw [hsw27]; decide) (by rw [hsw27]; decide) (by rw [hsw27]; rfl) (by decide) ?_
        exact lc_27 C0 hK hG x3 hi1 hi2 hi3 n h0 h1 w0 w1 (by omega) hR (hnext (n + 1) rfl) H locs ls hP hD hS hl
      by_cases hsw28 : w = (28 : Int32)
      · refine lv_tableIn (tgt := 814) (off := 782) hx hb dL_law_32 (by rw [hsw28]; decide) (by rw [hsw28]; decide) (by rw [hsw28]; rfl) (by decide) ?_
        exact lc_28 C0 hK hG x3 hi1 hi2 hi3 n h0 h1 w0 w1 (by omega) hR (hnext (n + 1) rfl) H locs ls hP hD hS hl
      by_cases hsw29 : w = (29 : Int32)
      · refine lv_tableIn (tgt := 837) (off := 805) hx hb dL_law_32 (by rw [hsw29]; decide) (by rw [hsw29]; decide) (by rw [hsw29]; rfl) (by decide) ?_
        exact lc_29 C0 hK hG x3 hi1 hi2 hi3 n h0 h1 w0 w1 (by omega) hR (hnext (n + 1) rfl) H locs ls hP hD hS hl
      by_cases hsw30 : w = (30 : Int32)
      · refine lv_tableIn (tgt := 850) (off := 818) hx hb dL_law_32 (by rw [hsw30]; decide) (by rw [hsw30]; decide) (by rw [hsw30]; rfl) (by decide) ?_
        exact lc_30 C0 hK hG x3 hi1 hi2 hi3 n h0 h1 w0 w1 (by omega) hR (hnext (n + 1) rfl) H locs ls hP hD hS hl
      by_cases hsw31 : w = (31 : Int32)
      · refine lv_tableIn (tgt := 863) (off := 831) hx hb dL_law_32 (by rw [hsw31]; decide) (by rw [hsw31]; decide) (by rw [hsw31]; rfl) (by decide) ?_
        exact lc_31 C0 hK hG x3 hi1 hi2 hi3 n h0 h1 w0 w1 (by omega) hR (hnext (n + 1) rfl) H locs ls hP hD hS hl
      by_cases hsw32 : w = (32 : Int32)
      · refine lv_tableIn (tgt := 876) (off := 844) hx hb dL_law_32 (by rw [hsw32]; decide) (by rw [hsw32]; decide) (by rw [hsw32]; rfl) (by decide) ?_
        exact lc_32 C0 hK hG x3 hi1 hi2 hi3 n h0 h1 w0 w1 (by omega) hR (hnext (n + 1) rfl) H locs ls hP hD hS hl
      refine lv_tableOut (tgt := 899) hx hb dL_law_32 (tsw_out (fun n h1 h2 => ?_)) (by decide) ?_
      · rcases (show n = 0 ∨ n = 1 ∨ n = 2 ∨ n = 3 ∨ n = 4 ∨ n = 5 ∨ n = 6 ∨ n = 7 ∨ n = 8 ∨ n = 9 ∨ n = 10 ∨ n = 11 ∨ n = 12 ∨ n = 13 ∨ n = 14 ∨ n = 15 ∨ n = 16 ∨ n = 17 ∨ n = 18 ∨ n = 19 ∨ n = 20 ∨ n = 21 ∨ n = 22 ∨ n = 23 ∨ n = 24 ∨ n = 25 ∨ n = 26 ∨ n = 27 ∨ n = 28 ∨ n = 29 ∨ n = 30 ∨ n = 31 ∨ n = 32 by omega) with rfl | rfl | rfl | rfl | rfl | rfl | rfl | rfl | rfl | rfl | rfl | rfl | rfl | rfl | rfl | rfl | rfl | rfl | rfl | rfl | rfl | rfl | rfl | rfl | rfl | rfl | rfl | rfl | rfl | rfl | rfl | rfl | rfl
        · exact ti_ne hsw0 rfl
        · exact ti_ne hsw1 rfl
        · exact ti_ne hsw2 rfl
        · exact ti_ne hsw3 rfl
        · exact ti_ne hsw4 rfl
        · exact ti_ne hsw5 rfl
        · exact ti_ne hsw6 rfl
        · exact ti_ne hsw7 rfl
        · exact ti_ne hsw8 rfl
        · exact ti_ne hsw9 rfl
        · exact ti_ne hsw10 rfl
        · exact ti_ne hsw11 rfl
        · exact ti_ne hsw12 rfl
        · exact ti_ne hsw13 rfl
        · exact ti_ne hsw14 rfl
        · exact ti_ne hsw15 rfl
        · exact ti_ne hsw16 rfl
        · exact ti_ne hsw17 rfl
        · exact ti_ne hsw18 rfl
        · exact ti_ne hsw19 rfl
        · exact ti_ne hsw20 rfl
        · exact ti_ne hsw21 rfl
        · exact ti_ne hsw22 rfl
        · exact ti_ne hsw23 rfl
        · exact ti_ne hsw24 rfl
        · exact ti_ne hsw25 rfl
        · exact ti_ne hsw26 rfl
        · exact ti_ne hsw27 rfl
        · exact ti_ne hsw28 rfl
        · exact ti_ne hsw29 rfl
        · exact ti_ne hsw30 rfl
        · exact ti_ne hsw31 rfl
        · exact ti_ne hsw32 rfl
      · exact hnext (n + 1) rfl w0 w1 H locs ls (zR_mono hR) hP hD hS hl
theorem gS_of {s : State} {b : Nat} (hgv : (Jvm.Cond.and given_1 narrow_1).before #[Value.ref b] s = true) (hts0 : ∀ w ∈ lw_tbl, w.before #[Value.ref b] s = true) {nm : String} {N : Nat} {f : Nat → Int32} {A : Nat → Prop} (hN : N < 2 ^ 31) (hw : Cond.laysStatic "Embayed" nm "[I" ∈ lw_tbl) (h1 : Cond.arrayOf (Term.static "Embayed" nm "[I") .int ∈ flatC (Jvm.Cond.and given_1 narrow_1)) (h2 : Cond.eq (Term.length (Term.static "Embayed" nm "[I")) (.int (Int32.ofNat N)) ∈ flatC (Jvm.Cond.and given_1 narrow_1)) (h3 : ∀ j : Nat, j < N → Cond.eq (Term.elem (Term.static "Embayed" nm "[I") (.int (Int32.ofNat j))) (.int (f j)) ∈ flatC (Jvm.Cond.and given_1 narrow_1)) (hA : ∀ a : Nat, a < s.heap.size → ¬ A a) : gS nm N f A s := by
  have hs := flat_of_before _ hgv
  obtain ⟨t, h4, h5⟩ := va_Tof (f := fun j => .int (f j)) (A := A) hN (hs _ h1) (va_eqt (hs _ h2)) (fun j hj => va_eqt (hs _ (h3 j hj))) hA
  exact ⟨t, va_Zref (hts0 _ hw) (hts0 _ (wa_of mw_1)) h4 hA, h5⟩
theorem ls_DOWN : Cond.laysStatic "Embayed" "DOWN" "[I" ∈ lw_tbl := List.mem_append_right _ (List.mem_append_right _ (List.mem_append_left _ (List.mem_of_getElem? (i := 211) rfl)))
set_option maxRecDepth 20000 in
theorem gs_DOWN {s : State} {b : Nat} (hgv : (Jvm.Cond.and given_1 narrow_1).before #[Value.ref b] s = true) (hts0 : ∀ w ∈ lw_tbl, w.before #[Value.ref b] s = true) {A : Nat → Prop} (hA : ∀ a : Nat, a < s.heap.size → ¬ A a) : gS "DOWN" 8 sDOWN A s := gS_of hgv hts0 (by decide) ls_DOWN (by decide +kernel) (by decide +kernel) (fun j hj => match j, hj with
  | 0, _ => (by decide +kernel)
  | 1, _ => (by decide +kernel)
  | 2, _ => (by decide +kernel)
  | 3, _ => (by decide +kernel)
  | 4, _ => (by decide +kernel)
  | 5, _ => (by decide +kernel)
  | 6, _ => (by decide +kernel)
  | 7, _ => (by decide +kernel)
  | j + 8, h => absurd h (by omega)) hA
theorem ls_ACROSS : Cond.laysStatic "Embayed" "ACROSS" "[I" ∈ lw_tbl := List.mem_append_right _ (List.mem_append_right _ (List.mem_append_left _ (List.mem_of_getElem? (i := 214) rfl)))
set_option maxRecDepth 20000 in
theorem gs_ACROSS {s : State} {b : Nat} (hgv : (Jvm.Cond.and given_1 narrow_1).before #[Value.ref b] s = true) (hts0 : ∀ w ∈ lw_tbl, w.before #[Value.ref b] s = true) {A : Nat → Prop} (hA : ∀ a : Nat, a < s.heap.size → ¬ A a) : gS "ACROSS" 8 sACROSS A s := gS_of hgv hts0 (by decide) ls_ACROSS (by decide +kernel) (by decide +kernel) (fun j hj => match j, hj with
  | 0, _ => (by decide +kernel)
  | 1, _ => (by decide +kernel)
  | 2, _ => (by decide +kernel)
  | 3, _ => (by decide +kernel)
  | 4, _ => (by decide +kernel)
  | 5, _ => (by decide +kernel)
  | 6, _ => (by decide +kernel)
  | 7, _ => (by decide +kernel)
  | j + 8, h => absurd h (by omega)) hA
theorem ls_LEAST_SETTING : Cond.laysStatic "Embayed" "LEAST_SETTING" "[I" ∈ lw_tbl := List.mem_append_right _ (List.mem_append_right _ (List.mem_append_left _ (List.mem_of_getElem? (i := 83) rfl)))
set_option maxRecDepth 20000 in
theorem gs_LEAST_SETTING {s : State} {b : Nat} (hgv : (Jvm.Cond.and given_1 narrow_1).before #[Value.ref b] s = true) (hts0 : ∀ w ∈ lw_tbl, w.before #[Value.ref b] s = true) {A : Nat → Prop} (hA : ∀ a : Nat, a < s.heap.size → ¬ A a) : gS "LEAST_SETTING" 7 sLEAST_SETTING A s := gS_of hgv hts0 (by decide) ls_LEAST_SETTING (by decide +kernel) (by decide +kernel) (fun j hj => match j, hj with
  | 0, _ => (by decide +kernel)
  | 1, _ => (by decide +kernel)
  | 2, _ => (by decide +kernel)
  | 3, _ => (by decide +kernel)
  | 4, _ => (by decide +kernel)
  | 5, _ => (by decide +kernel)
  | 6, _ => (by decide +kernel)
  | j + 7, h => absurd h (by omega)) hA
theorem ls_GREATEST_SETTING : Cond.laysStatic "Embayed" "GREATEST_SETTING" "[I" ∈ lw_tbl := List.mem_append_right _ (List.mem_append_right _ (List.mem_append_left _ (List.mem_of_getElem? (i := 86) rfl)))
set_option maxRecDepth 20000 in
theorem gs_GREATEST_SETTING {s : State} {b : Nat} (hgv : (Jvm.Cond.and given_1 narrow_1).before #[Value.ref b] s = true) (hts0 : ∀ w ∈ lw_tbl, w.before #[Value.ref b] s = true) {A : Nat → Prop} (hA : ∀ a : Nat, a < s.heap.size → ¬ A a) : gS "GREATEST_SETTING" 7 sGREATEST_SETTING A s := gS_of hgv hts0 (by decide) ls_GREATEST_SETTING (by decide +kernel) (by decide +kernel) (fun j hj => match j, hj with
  | 0, _ => (by decide +kernel)
  | 1, _ => (by decide +kernel)
  | 2, _ => (by decide +kernel)
  | 3, _ => (by decide +kernel)
  | 4, _ => (by decide +kernel)
  | 5, _ => (by decide +kernel)
  | 6, _ => (by decide +kernel)
  | j + 7, h => absurd h (by omega)) hA
theorem ls_ROWS_OF_ACTS : Cond.laysStatic "Embayed" "ROWS_OF_ACTS" "[I" ∈ lw_tbl := List.mem_append_right _ (List.mem_append_right _ (List.mem_append_right _ (List.mem_append_left _ (List.mem_of_getElem? (i := 139) rfl))))
set_option maxRecDepth 20000 in
theorem gs_ROWS_OF_ACTS {s : State} {b : Nat} (hgv : (Jvm.Cond.and given_1 narrow_1).before #[Value.ref b] s = true) (hts0 : ∀ w ∈ lw_tbl, w.before #[Value.ref b] s = true) {A : Nat → Prop} (hA : ∀ a : Nat, a < s.heap.size → ¬ A a) : gS "ROWS_OF_ACTS" 5 sROWS_OF_ACTS A s := gS_of hgv hts0 (by decide) ls_ROWS_OF_ACTS (by decide +kernel) (by decide +kernel) (fun j hj => match j, hj with
  | 0, _ => (by decide +kernel)
  | 1, _ => (by decide +kernel)
  | 2, _ => (by decide +kernel)
  | 3, _ => (by decide +kernel)
  | 4, _ => (by decide +kernel)
  | j + 5, h => absurd h (by omega)) hA
set_option maxHeartbeats 4000000 in
set_option maxRecDepth 100000 in
theorem whole_start {p : Program} {e : Env} {s : State} {m : MethodId} {below : List Frame} {meth : Method} {c : Code} (l : Launch) (hflags : l.flags = flags0) {b L : Nat} {xs : Nat → Int32} (hL : L ≤ 2048) (C0 : lw_At p s m meth c b L xs) : W p l e room_1 s m #[Value.ref b] below meth c s.heap [] 0 0 (lw_Z below #[Value.ref b] s) (entryFrame m ([Value.ref b] : List Value).toArray 4) := by
  obtain ⟨hx, hb, hr, hml, hown, hts0, hX, hbl, hlocks, hgv⟩ := id C0
  have hts : ∀ w ∈ wsA, w.before #[Value.ref b] s = true := fun w h => hts0 w (wa_of h)
  have hown : s.vm.findClass RL = some m.cls := hown
  have hA : ∀ q : Nat, s.heap.size ≤ q → (fun q : Nat => s.heap.size ≤ q) q := fun _ h => h
  have hbA : ¬ (fun q : Nat => s.heap.size ≤ q) b := Nat.not_le.mpr hbl
  obtain ⟨c0, i0, hKn0⟩ := u_known (C := RX0) (T := TX0) (N := 3) (n := 3) hts hin_0 (hts _ mw_46)
  obtain ⟨c1, i1, hKn1⟩ := u_known (C := RX1) (T := TX1) (N := 3) (n := 3) hts hin_1 (hts _ mw_35)
  obtain ⟨c2, i2, hKn2⟩ := u_known (C := RX2) (T := TX2) (N := 1) (n := 1) hts hin_2 (hts _ mw_126)
  obtain ⟨c3, i3, hKn3⟩ := u_known (C := RX3) (T := TX3) (N := 2) (n := 2) hts hin_3 (hts _ mw_20)
  obtain ⟨c4, i4, hKn4⟩ := u_known (C := RX4) (T := TX4) (N := 2) (n := 2) hts hin_4 (hts _ mw_133)
  obtain ⟨c5, i5, hKn5⟩ := u_known (C := RX5) (T := TX5) (N := 17) (n := 17) hts hin_5 (hts _ mw_77)
  obtain ⟨c6, i6, hKn6⟩ := u_known (C := RX6) (T := TX6) (N := 10) (n := 10) hts hin_6 (hts _ mw_30)
  obtain ⟨c7, i7, hKn7⟩ := u_known (C := RX7) (T := TX7) (N := 10) (n := 10) hts hin_7 (hts _ mw_12)
  obtain ⟨c8, i8, hKn8⟩ := u_known (C := RX8) (T := TX8) (N := 37) (n := 37) hts hin_8 (hts _ mw_585)
  obtain ⟨dC, dI, hKc⟩ : ∃ (dC : Nat → ClassId) (dI : Nat → Nat → Nat), ∀ (k : Nat) (q : vw_C), vwCl[k]? = some q → u_Kn s q.1 q.2.1 q.2.2 (dC k) (dI k) := by
    refine ⟨fun k => match k with | 0 => c0 | 1 => c1 | 2 => c2 | 3 => c3 | 4 => c4 | 5 => c5 | 6 => c6 | 7 => c7 | _ => c8, fun k => match k with | 0 => i0 | 1 => i1 | 2 => i2 | 3 => i3 | 4 => i4 | 5 => i5 | 6 => i6 | 7 => i7 | _ => i8, ?_⟩
    intro k q hq
    match k, hq with
    | 0, hq => cases hq; exact hKn0
    | 1, hq => cases hq; exact hKn1
    | 2, hq => cases hq; exact hKn2
    | 3, hq => cases hq; exact hKn3
    | 4, hq => cases hq; exact hKn4
    | 5, hq => cases hq; exact hKn5
    | 6, hq => cases hq; exact hKn6
    | 7, hq => cases hq; exact hKn7
    | 8, hq => cases hq; exact hKn8
    | k + 9, hq => simp [vwCl] at hq
  obtain ⟨cy, hcy⟩ : ∃ cy : ClassId, va_K (dC, dI) vwCl [(cy, .int)] s := by
    obtain ⟨cA, kA, comp, h1, h2, h3⟩ := Cond.arrayClass_spec (first := s) (o := none) (idx := []) (show (Cond.arrayClass .int).holds _ _ _ _ _ = true from hts _ mw_28)
    refine ⟨cA, hKc, fun k q hq => ?_⟩
    match k, hq with
    | 0, hq => cases hq; exact ⟨fun n z => ⟨fun k h => (by cases h), kA, h2, comp, h3⟩, h1⟩
    | k + 1, hq => simp at hq
  have hK := hcy
  have hnA : ∀ a : Nat, a < s.heap.size → ¬ (fun q : Nat => s.heap.size ≤ q) a := fun a h => Nat.not_le.mpr h
  have hG : GL (fun q : Nat => s.heap.size ≤ q) s := ⟨gs_DOWN hgv hts0 hnA, gs_ACROSS hgv hts0 hnA, gs_LEAST_SETTING hgv hts0 hnA, gs_GREATEST_SETTING hgv hts0 hnA, gs_ROWS_OF_ACTS hgv hts0 hnA, fun w hw => nest_of hts0 hw⟩
  have hS : va_S (fun q : Nat => s.heap.size ≤ q) s.heap s.heap [] := va_S.rf
  have hP : va_P (dC, dI) vwCl [] s.heap := fun k q h => by simp at h
  have hD : va_D (fun q : Nat => s.heap.size ≤ q) [] := ⟨fun i j p q h => by simp at h, fun k q h => by simp at h⟩
  obtain ⟨ls, hl, he⟩ := zent (args := ([Value.ref b] : List Value).toArray) (m := m) (n := 4) (L := [(0, .ref b)]) rfl (Nat.le_of_ble_eq_true rfl) rfl
  refine W.eq he ?_
  refine va_new (ci := 7) (fs := df_7) (C := RX7) (T := TX7) (N := 10) hx hb hts hin_7 tyX7 tyX7_ok hown (hts _ mw_11) (hts _ mw_12) (hts _ mw_1) hK hP hD hS hA rfl dfs_7 (Nat.le_of_ble_eq_true rfl) (Nat.le_of_ble_eq_true rfl) dL_law_0 (fun qE H hP hD hS => ?_)
  have hP : va_P (dC, dI) vwCl [(qE, .inr (7, df_7))] H := hP
  have hD : va_D (fun q : Nat => s.heap.size ≤ q) [(qE, .inr (7, df_7))] := hD
  refine lv_dup hx hb dL_law_3 rfl ?_
  refine zct (wnf := fun v => [(qE, eX7 (v 0) (v 2) (v 11) (v 12) (v 13) (v 22) (v 23) (v 25) (v 27) (il [0, 0, 0, 0, 0, 0, 0, 0, 0, (0 : Int32)])), ((v 0), eX3 (v 1) (il [0, (0 : Int32)])), ((v 1), eA cy 80 z0), ((v 2), eX6 (v 3) (v 5) (v 8) (il [0, 0, 0, (3 : Int32), (3 : Int32), (0 : Int32), (40 : Int32), (2 : Int32), (5 : Int32), (30 : Int32)])), ((v 3), eX1 (v 4) (il [0, (0 : Int32), (0 : Int32)])), ((v 4), eA cy 64 z0), ((v 5), eX0 (v 6) (v 7) (il [0, 0, (0 : Int32)])), ((v 6), eA cy 8 z0), ((v 7), eA cy 8 z0), ((v 8), eX0 (v 9) (v 10) (il [0, 0, (0 : Int32)])), ((v 9), eA cy 8 z0), ((v 10), eA cy 8 z0), ((v 11), eX5 (ups (ups (ups (ups (ups (ups (ups (ups (ups (ups (ups (ups (ups (ups (ups (ups (ups (ups z0 0 (1 : Int32)) 1 (-9 : Int32)) 2 (0 : Int32)) 3 (1 : Int32)) 4 (3 : Int32)) 5 (2 : Int32)) 6 (0 : Int32)) 7 (0 : Int32)) 8 (0 : Int32)) 9 (0 : Int32)) 10 (1 : Int32)) 11 (0 : Int32)) 12 (0 : Int32)) 13 (0 : Int32)) 14 (0 : Int32)) 15 (2147483647 : Int32)) 16 (0 : Int32)) 0 (0 : Int32))), ((v 12), eX5 (ups (ups (ups (ups (ups (ups (ups (ups (ups (ups (ups (ups (ups (ups (ups (ups (ups (ups z0 0 (1 : Int32)) 1 (-9 : Int32)) 2 (0 : Int32)) 3 (1 : Int32)) 4 (3 : Int32)) 5 (2 : Int32)) 6 (0 : Int32)) 7 (0 : Int32)) 8 (0 : Int32)) 9 (0 : Int32)) 10 (1 : Int32)) 11 (0 : Int32)) 12 (0 : Int32)) 13 (0 : Int32)) 14 (0 : Int32)) 15 (2147483647 : Int32)) 16 (0 : Int32)) 0 (0 : Int32))), ((v 13), eX6 (v 14) (v 16) (v 19) (il [0, 0, 0, (3 : Int32), (3 : Int32), (0 : Int32), (40 : Int32), (2 : Int32), (5 : Int32), (30 : Int32)])), ((v 14), eX1 (v 15) (il [0, (0 : Int32), (0 : Int32)])), ((v 15), eA cy 64 z0), ((v 16), eX0 (v 17) (v 18) (il [0, 0, (0 : Int32)])), ((v 17), eA cy 8 z0), ((v 18), eA cy 8 z0), ((v 19), eX0 (v 20) (v 21) (il [0, 0, (0 : Int32)])), ((v 20), eA cy 8 z0), ((v 21), eA cy 8 z0), ((v 22), eX5 (ups (ups (ups (ups (ups (ups (ups (ups (ups (ups (ups (ups (ups (ups (ups (ups (ups (ups z0 0 (1 : Int32)) 1 (-9 : Int32)) 2 (0 : Int32)) 3 (1 : Int32)) 4 (3 : Int32)) 5 (2 : Int32)) 6 (0 : Int32)) 7 (0 : Int32)) 8 (0 : Int32)) 9 (0 : Int32)) 10 (1 : Int32)) 11 (0 : Int32)) 12 (0 : Int32)) 13 (0 : Int32)) 14 (0 : Int32)) 15 (2147483647 : Int32)) 16 (0 : Int32)) 0 (0 : Int32))), ((v 23), eX2 (v 24) (il [0])), ((v 24), eA cy 192 z0), ((v 25), eX4 (v 26) (il [0, (0 : Int32)])), ((v 26), eA cy 12 z0), ((v 27), eA cy 7 z0)]) ⟨hx, hb, hml, hown, hts⟩ (kX7_init l dC dI cy qE H.size) mw_13 mw_14 mw_1 mw_15 rfl hdX7_init rfl rfl ⟨Nat.le_of_ble_eq_true rfl, Nat.le_of_ble_eq_true rfl⟩ hP hK hG hS hD hA [0] [] [0, 1, 2, 3, 4, 5, 6, 7, 8, 9, 10, 11, 12, 13, 14, 15, 16, 17, 18, 19, 20, 21, 22, 23, 24, 25, 26, 27, 28] rfl rfl rfl rfl (by decide) rfl (fun _ => rfl) hl.1 (Nat.le_of_ble_eq_true rfl) dL_law_4 ⟨Nat.le_of_ble_eq_true rfl, Nat.le_of_ble_eq_true rfl⟩ (fun vE H locs hP hD hS => ?_)
  refine lv_astore_n (lv' := [(1, .ref qE), (0, .ref b)]) hx hb dL_law_7 rfl hl (by decide) rfl (fun ls hl => ?_)
  refine va_new (ci := 8) (fs := df_8) (C := RX8) (T := TX8) (N := 37) hx hb hts hin_8 tyX8 tyX8_ok hown (hts _ mw_584) (hts _ mw_585) (hts _ mw_9) hK hP hD hS hA rfl dfs_8 (Nat.le_of_ble_eq_true rfl) (Nat.le_of_ble_eq_true rfl) dL_law_8 (fun qM H hP hD hS => ?_)
  refine lv_dup hx hb dL_law_11 rfl ?_
  have hP : va_P (dC, dI) vwCl [(qE, eX7 (vE 0) (vE 2) (vE 11) (vE 12) (vE 13) (vE 22) (vE 23) (vE 25) (vE 27) (il [0, 0, 0, 0, 0, 0, 0, 0, 0, (0 : Int32)])), ((vE 0), eX3 (vE 1) (il [0, (0 : Int32)])), ((vE 1), eA cy 80 z0), ((vE 2), eX6 (vE 3) (vE 5) (vE 8) (il [0, 0, 0, (3 : Int32), (3 : Int32), (0 : Int32), (40 : Int32), (2 : Int32), (5 : Int32), (30 : Int32)])), ((vE 3), eX1 (vE 4) (il [0, (0 : Int32), (0 : Int32)])), ((vE 4), eA cy 64 z0), ((vE 5), eX0 (vE 6) (vE 7) (il [0, 0, (0 : Int32)])), ((vE 6), eA cy 8 z0), ((vE 7), eA cy 8 z0), ((vE 8), eX0 (vE 9) (vE 10) (il [0, 0, (0 : Int32)])), ((vE 9), eA cy 8 z0), ((vE 10), eA cy 8 z0), ((vE 11), eX5 (ups (ups (ups (ups (ups (ups (ups (ups (ups (ups (ups (ups (ups (ups (ups (ups (ups (ups z0 0 (1 : Int32)) 1 (-9 : Int32)) 2 (0 : Int32)) 3 (1 : Int32)) 4 (3 : Int32)) 5 (2 : Int32)) 6 (0 : Int32)) 7 (0 : Int32)) 8 (0 : Int32)) 9 (0 : Int32)) 10 (1 : Int32)) 11 (0 : Int32)) 12 (0 : Int32)) 13 (0 : Int32)) 14 (0 : Int32)) 15 (2147483647 : Int32)) 16 (0 : Int32)) 0 (0 : Int32))), ((vE 12), eX5 (ups (ups (ups (ups (ups (ups (ups (ups (ups (ups (ups (ups (ups (ups (ups (ups (ups (ups z0 0 (1 : Int32)) 1 (-9 : Int32)) 2 (0 : Int32)) 3 (1 : Int32)) 4 (3 : Int32)) 5 (2 : Int32)) 6 (0 : Int32)) 7 (0 : Int32)) 8 (0 : Int32)) 9 (0 : Int32)) 10 (1 : Int32)) 11 (0 : Int32)) 12 (0 : Int32)) 13 (0 : Int32)) 14 (0 : Int32)) 15 (2147483647 : Int32)) 16 (0 : Int32)) 0 (0 : Int32))), ((vE 13), eX6 (vE 14) (vE 16) (vE 19) (il [0, 0, 0, (3 : Int32), (3 : Int32), (0 : Int32), (40 : Int32), (2 : Int32), (5 : Int32), (30 : Int32)])), ((vE 14), eX1 (vE 15) (il [0, (0 : Int32), (0 : Int32)])), ((vE 15), eA cy 64 z0), ((vE 16), eX0 (vE 17) (vE 18) (il [0, 0, (0 : Int32)])), ((vE 17), eA cy 8 z0), ((vE 18), eA cy 8 z0), ((vE 19), eX0 (vE 20) (vE 21) (il [0, 0, (0 : Int32)])), ((vE 20), eA cy 8 z0), ((vE 21), eA cy 8 z0), ((vE 22), eX5 (ups (ups (ups (ups (ups (ups (ups (ups (ups (ups (ups (ups (ups (ups (ups (ups (ups (ups z0 0 (1 : Int32)) 1 (-9 : Int32)) 2 (0 : Int32)) 3 (1 : Int32)) 4 (3 : Int32)) 5 (2 : Int32)) 6 (0 : Int32)) 7 (0 : Int32)) 8 (0 : Int32)) 9 (0 : Int32)) 10 (1 : Int32)) 11 (0 : Int32)) 12 (0 : Int32)) 13 (0 : Int32)) 14 (0 : Int32)) 15 (2147483647 : Int32)) 16 (0 : Int32)) 0 (0 : Int32))), ((vE 23), eX2 (vE 24) (il [0])), ((vE 24), eA cy 192 z0), ((vE 25), eX4 (vE 26) (il [0, (0 : Int32)])), ((vE 26), eA cy 12 z0), ((vE 27), eA cy 7 z0), (qM, .inr (8, df_8))] H := hP
  have hD : va_D (fun q : Nat => s.heap.size ≤ q) [(qE, eX7 (vE 0) (vE 2) (vE 11) (vE 12) (vE 13) (vE 22) (vE 23) (vE 25) (vE 27) (il [0, 0, 0, 0, 0, 0, 0, 0, 0, (0 : Int32)])), ((vE 0), eX3 (vE 1) (il [0, (0 : Int32)])), ((vE 1), eA cy 80 z0), ((vE 2), eX6 (vE 3) (vE 5) (vE 8) (il [0, 0, 0, (3 : Int32), (3 : Int32), (0 : Int32), (40 : Int32), (2 : Int32), (5 : Int32), (30 : Int32)])), ((vE 3), eX1 (vE 4) (il [0, (0 : Int32), (0 : Int32)])), ((vE 4), eA cy 64 z0), ((vE 5), eX0 (vE 6) (vE 7) (il [0, 0, (0 : Int32)])), ((vE 6), eA cy 8 z0), ((vE 7), eA cy 8 z0), ((vE 8), eX0 (vE 9) (vE 10) (il [0, 0, (0 : Int32)])), ((vE 9), eA cy 8 z0), ((vE 10), eA cy 8 z0), ((vE 11), eX5 (ups (ups (ups (ups (ups (ups (ups (ups (ups (ups (ups (ups (ups (ups (ups (ups (ups (ups z0 0 (1 : Int32)) 1 (-9 : Int32)) 2 (0 : Int32)) 3 (1 : Int32)) 4 (3 : Int32)) 5 (2 : Int32)) 6 (0 : Int32)) 7 (0 : Int32)) 8 (0 : Int32)) 9 (0 : Int32)) 10 (1 : Int32)) 11 (0 : Int32)) 12 (0 : Int32)) 13 (0 : Int32)) 14 (0 : Int32)) 15 (2147483647 : Int32)) 16 (0 : Int32)) 0 (0 : Int32))), ((vE 12), eX5 (ups (ups (ups (ups (ups (ups (ups (ups (ups (ups (ups (ups (ups (ups (ups (ups (ups (ups z0 0 (1 : Int32)) 1 (-9 : Int32)) 2 (0 : Int32)) 3 (1 : Int32)) 4 (3 : Int32)) 5 (2 : Int32)) 6 (0 : Int32)) 7 (0 : Int32)) 8 (0 : Int32)) 9 (0 : Int32)) 10 (1 : Int32)) 11 (0 : Int32)) 12 (0 : Int32)) 13 (0 : Int32)) 14 (0 : Int32)) 15 (2147483647 : Int32)) 16 (0 : Int32)) 0 (0 : Int32))), ((vE 13), eX6 (vE 14) (vE 16) (vE 19) (il [0, 0, 0, (3 : Int32), (3 : Int32), (0 : Int32), (40 : Int32), (2 : Int32), (5 : Int32), (30 : Int32)])), ((vE 14), eX1 (vE 15) (il [0, (0 : Int32), (0 : Int32)])), ((vE 15), eA cy 64 z0), ((vE 16), eX0 (vE 17) (vE 18) (il [0, 0, (0 : Int32)])), ((vE 17), eA cy 8 z0), ((vE 18), eA cy 8 z0), ((vE 19), eX0 (vE 20) (vE 21) (il [0, 0, (0 : Int32)])), ((vE 20), eA cy 8 z0), ((vE 21), eA cy 8 z0), ((vE 22), eX5 (ups (ups (ups (ups (ups (ups (ups (ups (ups (ups (ups (ups (ups (ups (ups (ups (ups (ups z0 0 (1 : Int32)) 1 (-9 : Int32)) 2 (0 : Int32)) 3 (1 : Int32)) 4 (3 : Int32)) 5 (2 : Int32)) 6 (0 : Int32)) 7 (0 : Int32)) 8 (0 : Int32)) 9 (0 : Int32)) 10 (1 : Int32)) 11 (0 : Int32)) 12 (0 : Int32)) 13 (0 : Int32)) 14 (0 : Int32)) 15 (2147483647 : Int32)) 16 (0 : Int32)) 0 (0 : Int32))), ((vE 23), eX2 (vE 24) (il [0])), ((vE 24), eA cy 192 z0), ((vE 25), eX4 (vE 26) (il [0, (0 : Int32)])), ((vE 26), eA cy 12 z0), ((vE 27), eA cy 7 z0), (qM, .inr (8, df_8))] := hD
  refine zct (wnf := fun v => [(qE, eX7 (vE 0) (vE 2) (vE 11) (vE 12) (vE 13) (vE 22) (vE 23) (vE 25) (vE 27) (il [0, 0, 0, 0, 0, 0, 0, 0, 0, (0 : Int32)])), ((vE 0), eX3 (vE 1) (il [0, (0 : Int32)])), ((vE 1), eA cy 80 z0), ((vE 2), eX6 (vE 3) (vE 5) (vE 8) (il [0, 0, 0, (3 : Int32), (3 : Int32), (0 : Int32), (40 : Int32), (2 : Int32), (5 : Int32), (30 : Int32)])), ((vE 3), eX1 (vE 4) (il [0, (0 : Int32), (0 : Int32)])), ((vE 4), eA cy 64 z0), ((vE 5), eX0 (vE 6) (vE 7) (il [0, 0, (0 : Int32)])), ((vE 6), eA cy 8 z0), ((vE 7), eA cy 8 z0), ((vE 8), eX0 (vE 9) (vE 10) (il [0, 0, (0 : Int32)])), ((vE 9), eA cy 8 z0), ((vE 10), eA cy 8 z0), ((vE 11), eX5 (ups (ups (ups (ups (ups (ups (ups (ups (ups (ups (ups (ups (ups (ups (ups (ups (ups (ups z0 0 (1 : Int32)) 1 (-9 : Int32)) 2 (0 : Int32)) 3 (1 : Int32)) 4 (3 : Int32)) 5 (2 : Int32)) 6 (0 : Int32)) 7 (0 : Int32)) 8 (0 : Int32)) 9 (0 : Int32)) 10 (1 : Int32)) 11 (0 : Int32)) 12 (0 : Int32)) 13 (0 : Int32)) 14 (0 : Int32)) 15 (2147483647 : Int32)) 16 (0 : Int32)) 0 (0 : Int32))), ((vE 12), eX5 (ups (ups (ups (ups (ups (ups (ups (ups (ups (ups (ups (ups (ups (ups (ups (ups (ups (ups z0 0 (1 : Int32)) 1 (-9 : Int32)) 2 (0 : Int32)) 3 (1 : Int32)) 4 (3 : Int32)) 5 (2 : Int32)) 6 (0 : Int32)) 7 (0 : Int32)) 8 (0 : Int32)) 9 (0 : Int32)) 10 (1 : Int32)) 11 (0 : Int32)) 12 (0 : Int32)) 13 (0 : Int32)) 14 (0 : Int32)) 15 (2147483647 : Int32)) 16 (0 : Int32)) 0 (0 : Int32))), ((vE 13), eX6 (vE 14) (vE 16) (vE 19) (il [0, 0, 0, (3 : Int32), (3 : Int32), (0 : Int32), (40 : Int32), (2 : Int32), (5 : Int32), (30 : Int32)])), ((vE 14), eX1 (vE 15) (il [0, (0 : Int32), (0 : Int32)])), ((vE 15), eA cy 64 z0), ((vE 16), eX0 (vE 17) (vE 18) (il [0, 0, (0 : Int32)])), ((vE 17), eA cy 8 z0), ((vE 18), eA cy 8 z0), ((vE 19), eX0 (vE 20) (vE 21) (il [0, 0, (0 : Int32)])), ((vE 20), eA cy 8 z0), ((vE 21), eA cy 8 z0), ((vE 22), eX5 (ups (ups (ups (ups (ups (ups (ups (ups (ups (ups (ups (ups (ups (ups (ups (ups (ups (ups z0 0 (1 : Int32)) 1 (-9 : Int32)) 2 (0 : Int32)) 3 (1 : Int32)) 4 (3 : Int32)) 5 (2 : Int32)) 6 (0 : Int32)) 7 (0 : Int32)) 8 (0 : Int32)) 9 (0 : Int32)) 10 (1 : Int32)) 11 (0 : Int32)) 12 (0 : Int32)) 13 (0 : Int32)) 14 (0 : Int32)) 15 (2147483647 : Int32)) 16 (0 : Int32)) 0 (0 : Int32))), ((vE 23), eX2 (vE 24) (il [0])), ((vE 24), eA cy 192 z0), ((vE 25), eX4 (vE 26) (il [0, (0 : Int32)])), ((vE 26), eA cy 12 z0), ((vE 27), eA cy 7 z0), (qM, eX8 (v 0) (v 1) (v 2) (v 3) (v 4) (v 5) (v 6) (v 7) (v 8) (v 9) (v 10) (v 11) (v 12) (il [0, 0, 0, 0, 0, 0, 0, 0, 0, 0, 0, 0, 0, 0, 0, 0, 0, 0, 0, 0, 0, 0, 0, 0, 0, 0, (-1 : Int32), 0, 0, 0, 0, 0, 0, 0, 0, 0, 0])), ((v 0), eA cy 64 z0), ((v 1), eA cy 80 z0), ((v 2), eA cy 7 (upd (upd (upd (upd (upd (upd z0 ((0 : Int32)).toNatClampNeg (3 : Int32)) ((1 : Int32)).toNatClampNeg (3 : Int32)) ((3 : Int32)).toNatClampNeg (40 : Int32)) ((4 : Int32)).toNatClampNeg (2 : Int32)) ((5 : Int32)).toNatClampNeg (5 : Int32)) ((6 : Int32)).toNatClampNeg (30 : Int32))), ((v 3), eA cy 8 z0), ((v 4), eA cy 8 z0), ((v 5), eA cy 8 z0), ((v 6), eA cy 8 z0), ((v 7), eA cy 12 z0), ((v 8), eA cy 7 z0), ((v 9), eA cy 140 z0), ((v 10), eA cy 20 z0), ((v 11), eA cy 192 z0), ((v 12), eA cy 192 z0)]) ⟨hx, hb, hml, hown, hts⟩ (kX8_init l dC dI cy qM H.size) mw_586 mw_587 mw_9 mw_588 rfl hdX8_init rfl rfl ⟨Nat.le_of_ble_eq_true rfl, Nat.le_of_ble_eq_true rfl⟩ hP hK hG hS hD hA [29] [0, 1, 2, 3, 4, 5, 6, 7, 8, 9, 10, 11, 12, 13, 14, 15, 16, 17, 18, 19, 20, 21, 22, 23, 24, 25, 26, 27, 28] [0, 1, 2, 3, 4, 5, 6, 7, 8, 9, 10, 11, 12, 13, 14, 15, 16, 17, 18, 19, 20, 21, 22, 23, 24, 25, 26, 27, 28, 29, 30, 31, 32, 33, 34, 35, 36, 37, 38, 39, 40, 41, 42] rfl rfl rfl rfl (by decide) rfl (fun _ => rfl) hl.1 (Nat.le_of_ble_eq_true rfl) dL_law_12 ⟨Nat.le_of_ble_eq_true rfl, Nat.le_of_ble_eq_true rfl⟩ (fun vM H locs hP hD hS => ?_)
  refine lv_astore_n (lv' := [(2, .ref qM), (1, .ref qE), (0, .ref b)]) hx hb dL_law_15 rfl hl (by decide) rfl (fun ls hl => ?_)
  refine lv_iconst (v := (0 : Int32)) hx hb dL_law_16 (by decide) ?_
  refine lv_istore_n (lv' := [(3, .int (0 : Int32)), (2, .ref qM), (1, .ref qE), (0, .ref b)]) hx hb dL_law_17 rfl hl (by decide) rfl (fun ls hl => ?_)
  exact law_loop hL C0 hK hG (cns qE vE) (cns qM vM) 513 0 0 iniE iniM H locs ls rfl (by omega) (by omega) zR_ini hP hD hS (lv_sub hl [3, 2, 1, 0] rfl)
set_option maxHeartbeats 4000000 in
theorem lw_walk (l : Launch) (hflags : l.flags = flags0) (b : Addr) (xs : List Int32) : MetFree l x (headSpec (Jvm.Cond.code x code maxLocals ret :: tables_1) room_1) (lw_P b xs) (fun _ _ _ _ _ => True) lw_Q := by
  refine MetFree.of_bodyS (code := code) (maxLocals := maxLocals) (ret := ret) (by decide) ?_ ?_
  · intro args s m h hn
    obtain ⟨meth, c, h1, h2, h3, h4, h5, h6, -, -⟩ := Cond.code_spec hn (atoms_spec (ws := Jvm.Cond.code x code maxLocals ret :: tables_1) h _ List.mem_cons_self)
    exact ⟨meth, c, h1, h2, h3, h4, h5, h6⟩
  · intro p e s m args below meth c s₁ B hml0 hP _
    obtain ⟨rfl, hx, hbd, hgv⟩ := hP
    obtain ⟨scr, harrAt, hlist, hof, hsmall⟩ := hx
    obtain ⟨hcb, hkn, -, -⟩ := State.arrayAt?_spec harrAt
    have hown : s.vm.findClass R_law = some m.cls := findClass_of_methodNamed B.named
    have hts0 : ∀ c ∈ (Jvm.Cond.code x code maxLocals ret :: tables_1), c.before #[Value.ref b] s = true := atoms_spec (ws := Jvm.Cond.code x code maxLocals ret :: tables_1) B.pre
    have hts : ∀ w ∈ lw_tbl, w.before #[Value.ref b] s = true := k2_hts_sels lw_privs (fun w hw => hts0 w (List.mem_cons_of_mem _ hw)) lw_privs_ok
    have hml : c.maxLocals = 4 := B.maxLocals_eq (hts0 _ List.mem_cons_self)
    have X₀ : Stand p l e room_1 s m #[Value.ref b] below meth c s₁ [] 0 0 := Stand.of_body B
    have hh0 : s₁.heap = s.heap := by rw [B.state]; rfl
    have hsz : scr.slots.size = xs.length := by rw [← Array.length_toList, hlist, List.length_map]
    have hval : ∀ j : Nat, j < xs.length → scr.slots[j]? = some (.int (xs.getD j 0)) := fun j hj => by
      rw [← Array.getElem?_toList, hlist]
      simp [hj]
    have hbl : b < s.heap.size := (Array.getElem?_eq_some_iff.mp hcb).1
    have hX : va_X b xs.length (fun j => xs.getD j 0) s s.heap := ⟨scr, hcb, hof, hkn, hsz, hval⟩
    have K : W p l e room_1 s m #[Value.ref b] below meth c s₁.heap [] 0 0 (lw_Z below #[Value.ref b] s) (entryFrame m ([Value.ref b] : List Value).toArray 4) := by
      rw [hh0]
      exact whole_start l hflags hbd ⟨B.exec, B.bytes, B.returns, hml, hown, hts, hX, hbl, B.notSynchronized, hgv⟩
    obtain ⟨t, a1, o, b1, b2, b3⟩ := K s₁ rfl X₀
    exact ⟨t, o, a1, b1, b2, b3⟩
theorem lw_pre_spec {args : Array Value} {s : State} (h : (Jvm.Cond.and given_1 narrow_1).before args s = true) (hr : rest_1_c.before args s = true) : ∃ (b : Addr) (xs : List Int32), lw_P b xs args s := by
  have hs := flat_of_before _ h
  have hq := flat_of_before _ hr
  have hc : (Cond.count 1).before args s = true := hs _ (by decide +kernel)
  have harr : (Cond.arrayOf (.arg 0) .int).before args s = true := hs _ (by decide +kernel)
  have hle : (Cond.le (.length (.arg 0)) (.int 2048)).before args s = true := hs _ (by decide +kernel)
  have hlen : (Cond.isInt (.length (.arg 0))).before args s = true := hq _ (by decide +kernel)
  have hall : (Cond.all (.arg 0) (.isInt (.elem (.arg 0) (.index 0)))).before args s = true := hq _ (by decide +kernel)
  obtain ⟨b, xs, hb, hx⟩ := State.ints_of_pre rfl harr hlen hall
  have hsm : xs.length < 2 ^ 31 := hx.choose_spec.2.2.2
  have hev : (Term.length (.arg 0)).eval args s none [] s = some (.int xs.length.toInt32) := hx.length_eval hb
  have hv := Cond.le_ints hev (show (Term.int 2048).eval args s none [] s = some (.int 2048) from rfl)
  have hd : xs.length.toInt32 ≤ 2048 := by
    simpa [Cond.before, Cond.holds, hv] using hle
  have hN : xs.length ≤ 2048 := (Int32.ofNat_le_ofNat hsm (by decide)).mp (show Int32.ofNat xs.length ≤ Int32.ofNat 2048 from hd)
  exact ⟨b, xs, Cond.one_arg hc (show args[0]? = some (.ref b) from hb), hx, hN, h⟩
theorem lw_comes (l : Launch) (hflags : l.flags = flags0) : Comes l x (Jvm.Cond.code x code maxLocals ret :: tables_1) room_1 (fun tb e args s => Calls_1 tb e args s ∧ rest_1 tb e args s ∧ Pre_1 tb e args s)
    (fun _ _ args s o t => lw_Q args s o t) := by
  intro p e ha hc hk s m args below hf hfit hheap happ hpre
  obtain ⟨b, xs, hP⟩ := lw_pre_spec hpre.2.2 hpre.2.1
  obtain ⟨k, o, h1, h2, h3, hQ⟩ := lw_walk l hflags b xs p e ha hc hk s m args below hf ((Spec.applies_iff_loose hf).mp happ).1 hP trivial
  exact ⟨k, o, h1, h2, h3, hQ⟩
theorem lw_frame {s t : State} {o : Outcome} {args : Array Value} (h : Framed s o t [] 43 1370) :
    Framed s o t (fieldLocs frame_1_writes args s ++ arrayLocs frame_1_arrays args s ++ staticLocs frame_1_statics s) 43 1370 := h
theorem lw_limb (L : Cond) (hL : ∀ (args : Array Value) (s t : State), L.after args s (.returned (some (.int 1))) t = true) :
    ArmFor flags0 classFile x code maxLocals ret World_1 tables_1 room_1 Calls_1 rest_1 Pre_1
      (fun tb e a s o t => postC L tb e a s o t ∧ Framed s o t (fieldLocs frame_1_writes a s ++ arrayLocs frame_1_arrays a s ++ staticLocs frame_1_statics s) 43 1370) := by
  intro l hflags _ _ p e ha hc hk s m args below hf hfit hheap happ hpre
  obtain ⟨k, o, h1, h2, h3, rfl, hF⟩ := lw_comes l hflags p e ha hc hk s m args below hf hfit hheap happ hpre
  exact ⟨k, _, h1, h2, h3, hL args s _, lw_frame hF⟩
theorem i_vc : Claimed_1_1 ∧ Claimed_1_2 := ⟨lw_limb limb_1_1 (fun args s t => by simp [limb_1_1, Cond.after, Cond.holds, Cond.value]), lw_limb limb_1_2 (fun args s t => Cond.after_iff.mpr (by
  first | (rw [show limb_1_2 = Cond.eq .result (.int 1) from rfl, Cond.eq_ints (x := 1) (y := 1) rfl rfl]; simp; done) | (simp [limb_1_2, Cond.value, Term.eval]; done)))⟩
