def zR (n : Nat) (E M : Nat → Nat → Int32) : Prop := True
theorem zR_mono {n : Nat} {E M : Nat → Nat → Int32} (h : zR n E M) : zR (n + 1) E M := trivial
theorem zR_ini : zR 0 iniE iniM := trivial
theorem sim_letter {n : Nat} {E M : Nat → Nat → Int32} (h : zR n E M) (a0 : Int32) : ∃ (r : Int32) (c1 : Nat → Int32) (c2 : Nat → Int32) (c28 : Nat → Int32) (d0 : Nat → Int32) (d2 : Nat → Int32) (d9 : Nat → Int32), fX7_letter E a0 = some (r, c1, c2, c28) ∧ fX8_letter M a0 = some (r, d0, d2, d9) ∧ zR (n + 1) (ups (ups (ups E 1 c1) 2 c2) 28 c28) (ups (ups (ups M 0 d0) 2 d2) 9 d9) := by
  sorry
theorem sim_bay {n : Nat} {E M : Nat → Nat → Int32} (h : zR n E M) : ∃ (r : Int32) (c1 : Nat → Int32) (c4 : Nat → Int32) (c5 : Nat → Int32) (c12 : Nat → Int32) (d0 : Nat → Int32) (d1 : Nat → Int32), fX7_bay E = some (r, c1, c4, c5, c12) ∧ fX8_bay M = some (r, d0, d1) ∧ zR (n + 1) (ups (ups (ups (ups E 1 c1) 4 c4) 5 c5) 12 c12) (ups (ups M 0 d0) 1 d1) := by
  sorry
theorem sim_cell {n : Nat} {E M : Nat → Nat → Int32} (h : zR n E M) (a0 : Int32) : ∃ (r : Int32) (c28 : Nat → Int32) (d9 : Nat → Int32), fX7_cell E a0 = some (r, c28) ∧ fX8_cell M a0 = some (r, d9) ∧ zR (n + 1) (ups E 28 c28) (ups M 9 d9) := by
  sorry
theorem sim_set {n : Nat} {E M : Nat → Nat → Int32} (h : zR n E M) (a0 : Int32) (a1 : Int32) : ∃ (r : Int32) (c3 : Nat → Int32) (c28 : Nat → Int32) (d3 : Nat → Int32) (d9 : Nat → Int32), fX7_set E a0 a1 = some (r, c3, c28) ∧ fX8_set M a0 a1 = some (r, d3, d9) ∧ zR (n + 1) (ups (ups E 3 c3) 28 c28) (ups (ups M 3 d3) 9 d9) := by
  sorry
theorem sim_wind {n : Nat} {E M : Nat → Nat → Int32} (h : zR n E M) (a0 : Int32) (a1 : Int32) : ∃ (r : Int32) (c6 : Nat → Int32) (c7 : Nat → Int32) (c8 : Nat → Int32) (c28 : Nat → Int32) (d0 : Nat → Int32) (d4 : Nat → Int32) (d5 : Nat → Int32) (d9 : Nat → Int32), fX7_wind E a0 a1 = some (r, c6, c7, c8, c28) ∧ fX8_wind M a0 a1 = some (r, d0, d4, d5, d9) ∧ zR (n + 1) (ups (ups (ups (ups E 6 c6) 7 c7) 8 c8) 28 c28) (ups (ups (ups (ups M 0 d0) 4 d4) 5 d5) 9 d9) := by
  sorry
theorem sim_tide {n : Nat} {E M : Nat → Nat → Int32} (h : zR n E M) (a0 : Int32) (a1 : Int32) : ∃ (r : Int32) (c9 : Nat → Int32) (c10 : Nat → Int32) (c11 : Nat → Int32) (c28 : Nat → Int32) (d0 : Nat → Int32) (d6 : Nat → Int32) (d7 : Nat → Int32) (d9 : Nat → Int32), fX7_tide E a0 a1 = some (r, c9, c10, c11, c28) ∧ fX8_tide M a0 a1 = some (r, d0, d6, d7, d9) ∧ zR (n + 1) (ups (ups (ups (ups E 9 c9) 10 c10) 11 c11) 28 c28) (ups (ups (ups (ups M 0 d0) 6 d6) 7 d7) 9 d9) := by
  sorry
theorem sim_lays {n : Nat} {E M : Nat → Nat → Int32} (h : zR n E M) (a0 : Int32) : ∃ (r : Int32) (c12 : Nat → Int32) (c28 : Nat → Int32) (d0 : Nat → Int32) (d9 : Nat → Int32), fX7_lays E a0 = some (r, c12, c28) ∧ fX8_lays M a0 = some (r, d0, d9) ∧ zR (n + 1) (ups (ups E 12 c12) 28 c28) (ups (ups M 0 d0) 9 d9) := by
  sorry
theorem sim_now {n : Nat} {E M : Nat → Nat → Int32} (h : zR n E M) (a0 : Int32) : ∃ (r : Int32) (c28 : Nat → Int32) (d9 : Nat → Int32), fX7_now E a0 = some (r, c28) ∧ fX8_now M a0 = some (r, d9) ∧ zR (n + 1) (ups E 28 c28) (ups M 9 d9) := by
  sorry
theorem sim_run {n : Nat} {E M : Nat → Nat → Int32} (h : zR n E M) (a0 : Int32) : ∃ (r : Int32) (c12 : Nat → Int32) (c28 : Nat → Int32) (d0 : Nat → Int32) (d9 : Nat → Int32), fX7_run E a0 = some (r, c12, c28) ∧ fX8_run M a0 = some (r, d0, d9) ∧ zR (n + 1) (ups (ups E 12 c12) 28 c28) (ups (ups M 0 d0) 9 d9) := by
  sorry
theorem sim_head {n : Nat} {E M : Nat → Nat → Int32} (h : zR n E M) (a0 : Int32) : ∃ (r : Int32) (c12 : Nat → Int32) (c28 : Nat → Int32) (d0 : Nat → Int32) (d9 : Nat → Int32), fX7_head E a0 = some (r, c12, c28) ∧ fX8_head M a0 = some (r, d0, d9) ∧ zR (n + 1) (ups (ups E 12 c12) 28 c28) (ups (ups M 0 d0) 9 d9) := by
  sorry
theorem sim_wear {n : Nat} {E M : Nat → Nat → Int32} (h : zR n E M) (a0 : Int32) : ∃ (r : Int32) (c12 : Nat → Int32) (c28 : Nat → Int32) (d0 : Nat → Int32) (d9 : Nat → Int32), fX7_wear E a0 = some (r, c12, c28) ∧ fX8_wear M a0 = some (r, d0, d9) ∧ zR (n + 1) (ups (ups E 12 c12) 28 c28) (ups (ups M 0 d0) 9 d9) := by
  sorry
theorem sim_haul {n : Nat} {E M : Nat → Nat → Int32} (h : zR n E M) (a0 : Int32) : ∃ (r : Int32) (c12 : Nat → Int32) (c28 : Nat → Int32) (d0 : Nat → Int32) (d9 : Nat → Int32), fX7_haul E a0 = some (r, c12, c28) ∧ fX8_haul M a0 = some (r, d0, d9) ∧ zR (n + 1) (ups (ups E 12 c12) 28 c28) (ups (ups M 0 d0) 9 d9) := by
  sorry
theorem sim_sail {n : Nat} {E M : Nat → Nat → Int32} (h : zR n E M) (a0 : Int32) : ∃ (r : Int32) (c12 : Nat → Int32) (c28 : Nat → Int32) (d0 : Nat → Int32) (d9 : Nat → Int32), fX7_sail E a0 = some (r, c12, c28) ∧ fX8_sail M a0 = some (r, d0, d9) ∧ zR (n + 1) (ups (ups E 12 c12) 28 c28) (ups (ups M 0 d0) 9 d9) := by
  sorry
theorem sim_anchor {n : Nat} {E M : Nat → Nat → Int32} (h : zR n E M) : ∃ (r : Int32) (c12 : Nat → Int32) (c28 : Nat → Int32) (d0 : Nat → Int32) (d9 : Nat → Int32), fX7_anchor E = some (r, c12, c28) ∧ fX8_anchor M = some (r, d0, d9) ∧ zR (n + 1) (ups (ups E 12 c12) 28 c28) (ups (ups M 0 d0) 9 d9) := by
  sorry
theorem sim_cut {n : Nat} {E M : Nat → Nat → Int32} (h : zR n E M) : ∃ (r : Int32) (c12 : Nat → Int32) (c28 : Nat → Int32) (d0 : Nat → Int32) (d9 : Nat → Int32), fX7_cut E = some (r, c12, c28) ∧ fX8_cut M = some (r, d0, d9) ∧ zR (n + 1) (ups (ups E 12 c12) 28 c28) (ups (ups M 0 d0) 9 d9) := by
  sorry
theorem sim_axe {n : Nat} {E M : Nat → Nat → Int32} (h : zR n E M) : ∃ (r : Int32) (c12 : Nat → Int32) (c28 : Nat → Int32) (d0 : Nat → Int32) (d9 : Nat → Int32), fX7_axe E = some (r, c12, c28) ∧ fX8_axe M = some (r, d0, d9) ∧ zR (n + 1) (ups (ups E 12 c12) 28 c28) (ups (ups M 0 d0) 9 d9) := by
  sorry
theorem sim_over {n : Nat} {E M : Nat → Nat → Int32} (h : zR n E M) : ∃ (r : Int32) (c3 : Nat → Int32) (c28 : Nat → Int32) (d3 : Nat → Int32) (d9 : Nat → Int32), fX7_over E = some (r, c3, c28) ∧ fX8_over M = some (r, d3, d9) ∧ zR (n + 1) (ups (ups E 3 c3) 28 c28) (ups (ups M 3 d3) 9 d9) := by
  sorry
theorem sim_still {n : Nat} {E M : Nat → Nat → Int32} (h : zR n E M) (a0 : Int32) : ∃ (r : Int32) (c25 : Nat → Int32) (c28 : Nat → Int32) (d9 : Nat → Int32) (d12 : Nat → Int32) (d13 : Nat → Int32), fX7_still E a0 = some (r, c25, c28) ∧ fX8_still M a0 = some (r, d9, d12, d13) ∧ zR (n + 1) (ups (ups E 25 c25) 28 c28) (ups (ups (ups M 9 d9) 12 d12) 13 d13) := by
  sorry
theorem sim_clears {n : Nat} {E M : Nat → Nat → Int32} (h : zR n E M) : ∃ (r : Int32) (c25 : Nat → Int32) (d12 : Nat → Int32) (d13 : Nat → Int32), fX7_clears E = some (r, c25) ∧ fX8_clears M = some (r, d12, d13) ∧ zR (n + 1) (ups E 25 c25) (ups (ups M 12 d12) 13 d13) := by
  sorry
theorem sim_line {n : Nat} {E M : Nat → Nat → Int32} (h : zR n E M) : ∃ (r : Int32) (c13 : Nat → Int32) (c28 : Nat → Int32) (d0 : Nat → Int32) (d3 : Nat → Int32) (d9 : Nat → Int32) (d11 : Nat → Int32), fX7_line E = some (r, c13, c28) ∧ fX8_line M = some (r, d0, d3, d9, d11) ∧ zR (n + 1) (ups (ups E 13 c13) 28 c28) (ups (ups (ups (ups M 0 d0) 3 d3) 9 d9) 11 d11) := by
  sorry
theorem sim_lighter {n : Nat} {E M : Nat → Nat → Int32} (h : zR n E M) : ∃ (r : Int32) (c13 : Nat → Int32) (c28 : Nat → Int32) (d0 : Nat → Int32) (d3 : Nat → Int32) (d9 : Nat → Int32) (d11 : Nat → Int32), fX7_lighter E = some (r, c13, c28) ∧ fX8_lighter M = some (r, d0, d3, d9, d11) ∧ zR (n + 1) (ups (ups E 13 c13) 28 c28) (ups (ups (ups (ups M 0 d0) 3 d3) 9 d9) 11 d11) := by
  sorry
theorem sim_holds {n : Nat} {E M : Nat → Nat → Int32} (h : zR n E M) (a0 : Int32) (a1 : Int32) (a2 : Int32) : ∃ (r : Int32) (c28 : Nat → Int32) (d9 : Nat → Int32), fX7_holds E a0 a1 a2 = some (r, c28) ∧ fX8_holds M a0 a1 a2 = some (r, d9) ∧ zR (n + 1) (ups E 28 c28) (ups M 9 d9) := by
  sorry
theorem sim_beachBest {n : Nat} {E M : Nat → Nat → Int32} (h : zR n E M) : ∃ (r : Int32), fX7_beachBest E = some r ∧ fX8_beachBest M = some r ∧ zR (n + 1) E M := by
  sorry
theorem sim_plan {n : Nat} {E M : Nat → Nat → Int32} (h : zR n E M) (a0 : Int32) (a1 : Int32) : ∃ (r : Int32) (c13 : Nat → Int32) (c28 : Nat → Int32) (d0 : Nat → Int32) (d3 : Nat → Int32) (d9 : Nat → Int32) (d11 : Nat → Int32), fX7_plan E a0 a1 = some (r, c13, c28) ∧ fX8_plan M a0 a1 = some (r, d0, d3, d9, d11) ∧ zR (n + 1) (ups (ups E 13 c13) 28 c28) (ups (ups (ups (ups M 0 d0) 3 d3) 9 d9) 11 d11) := by
  sorry
theorem sim_stood {n : Nat} {E M : Nat → Nat → Int32} (h : zR n E M) (a0 : Int32) (a1 : Int32) : ∃ (r : Int32) (c13 : Nat → Int32) (c28 : Nat → Int32) (d0 : Nat → Int32) (d3 : Nat → Int32) (d9 : Nat → Int32) (d11 : Nat → Int32), fX7_stood E a0 a1 = some (r, c13, c28) ∧ fX8_stood M a0 a1 = some (r, d0, d3, d9, d11) ∧ zR (n + 1) (ups (ups E 13 c13) 28 c28) (ups (ups (ups (ups M 0 d0) 3 d3) 9 d9) 11 d11) := by
  sorry
theorem sim_worth {n : Nat} {E M : Nat → Nat → Int32} (h : zR n E M) (a0 : Int32) (a1 : Int32) : ∃ (r : Int32) (c13 : Nat → Int32) (c28 : Nat → Int32) (d0 : Nat → Int32) (d3 : Nat → Int32) (d9 : Nat → Int32) (d11 : Nat → Int32), fX7_worth E a0 a1 = some (r, c13, c28) ∧ fX8_worth M a0 a1 = some (r, d0, d3, d9, d11) ∧ zR (n + 1) (ups (ups E 13 c13) 28 c28) (ups (ups (ups (ups M 0 d0) 3 d3) 9 d9) 11 d11) := by
  sorry
theorem sim_light {n : Nat} {E M : Nat → Nat → Int32} (h : zR n E M) : ∃ (r : Int32), fX7_light E = some r ∧ fX8_light M = some r ∧ zR (n + 1) E M := by
  sorry
theorem sim_night {n : Nat} {E M : Nat → Nat → Int32} (h : zR n E M) (a0 : Int32) (a1 : Int32) : ∃ (r : Int32) (c13 : Nat → Int32) (c28 : Nat → Int32) (d0 : Nat → Int32) (d3 : Nat → Int32) (d9 : Nat → Int32) (d11 : Nat → Int32), fX7_night E a0 a1 = some (r, c13, c28) ∧ fX8_night M a0 a1 = some (r, d0, d3, d9, d11) ∧ zR (n + 1) (ups (ups E 13 c13) 28 c28) (ups (ups (ups (ups M 0 d0) 3 d3) 9 d9) 11 d11) := by
  sorry
theorem sim_log {n : Nat} {E M : Nat → Nat → Int32} (h : zR n E M) (a0 : Int32) : ∃ (r : Int32) (c26 : Nat → Int32) (c27 : Nat → Int32) (c28 : Nat → Int32) (d0 : Nat → Int32) (d8 : Nat → Int32) (d9 : Nat → Int32), fX7_log E a0 = some (r, c26, c27, c28) ∧ fX8_log M a0 = some (r, d0, d8, d9) ∧ zR (n + 1) (ups (ups (ups E 26 c26) 27 c27) 28 c28) (ups (ups (ups M 0 d0) 8 d8) 9 d9) := by
  sorry
theorem sim_judge {n : Nat} {E M : Nat → Nat → Int32} (h : zR n E M) : ∃ (r : Int32) (c13 : Nat → Int32) (c26 : Nat → Int32) (c28 : Nat → Int32) (d0 : Nat → Int32) (d3 : Nat → Int32) (d9 : Nat → Int32) (d11 : Nat → Int32), fX7_judge E = some (r, c13, c26, c28) ∧ fX8_judge M = some (r, d0, d3, d9, d11) ∧ zR (n + 1) (ups (ups (ups E 13 c13) 26 c26) 28 c28) (ups (ups (ups (ups M 0 d0) 3 d3) 9 d9) 11 d11) := by
  sorry
theorem sim_image {n : Nat} {E M : Nat → Nat → Int32} (h : zR n E M) : ∃ (r : Int32) (c0 : Nat → Int32) (c14 : Nat → Int32) (c15 : Nat → Int32) (c16 : Nat → Int32) (c17 : Nat → Int32) (c18 : Nat → Int32) (c19 : Nat → Int32) (c20 : Nat → Int32) (c21 : Nat → Int32) (c22 : Nat → Int32) (c23 : Nat → Int32) (d0 : Nat → Int32) (d10 : Nat → Int32) (d11 : Nat → Int32), fX7_image E = some (r, c0, c14, c15, c16, c17, c18, c19, c20, c21, c22, c23) ∧ fX8_image M = some (r, d0, d10, d11) ∧ zR (n + 1) (ups (ups (ups (ups (ups (ups (ups (ups (ups (ups (ups E 0 c0) 14 c14) 15 c15) 16 c16) 17 c17) 18 c18) 19 c19) 20 c20) 21 c21) 22 c22) 23 c23) (ups (ups (ups M 0 d0) 10 d10) 11 d11) := by
  sorry
theorem sim_on {n : Nat} {E M : Nat → Nat → Int32} (h : zR n E M) : ∃ (r : Int32) (c3 : Nat → Int32) (c4 : Nat → Int32) (c5 : Nat → Int32) (c6 : Nat → Int32) (c7 : Nat → Int32) (c8 : Nat → Int32) (c9 : Nat → Int32) (c10 : Nat → Int32) (c11 : Nat → Int32) (c12 : Nat → Int32) (c28 : Nat → Int32) (d0 : Nat → Int32) (d1 : Nat → Int32) (d3 : Nat → Int32) (d4 : Nat → Int32) (d5 : Nat → Int32) (d6 : Nat → Int32) (d7 : Nat → Int32) (d9 : Nat → Int32) (d11 : Nat → Int32), fX7_on E = some (r, c3, c4, c5, c6, c7, c8, c9, c10, c11, c12, c28) ∧ fX8_on M = some (r, d0, d1, d3, d4, d5, d6, d7, d9, d11) ∧ zR (n + 1) (ups (ups (ups (ups (ups (ups (ups (ups (ups (ups (ups E 3 c3) 4 c4) 5 c5) 6 c6) 7 c7) 8 c8) 9 c9) 10 c10) 11 c11) 12 c12) 28 c28) (ups (ups (ups (ups (ups (ups (ups (ups (ups M 0 d0) 1 d1) 3 d3) 4 d4) 5 d5) 6 d6) 7 d7) 9 d9) 11 d11) := by
  sorry
theorem sim_count {n : Nat} {E M : Nat → Nat → Int32} (h : zR n E M) (a0 : Int32) : ∃ (r : Int32), fX7_count E a0 = some r ∧ fX8_count M a0 = some r ∧ zR (n + 1) E M := by
  sorry
