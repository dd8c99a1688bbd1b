/-! PART 64.sa: printed by wip/gen/s26.py -/
set_option maxHeartbeats 4000000 in
set_option maxRecDepth 100000 in
theorem s_X8_cutterAt_1 {m : Int} {N : Nat} {K len : Nat → Nat} {a1 : Int32} {σ : SG} {ρ : RG} (hB : BX m σ) (hQ : PR N K len ρ) : ok (F_X8_cutterAt_1 a1 σ ρ) (fun o => ∀ c, o = some c → CK N K len ρ c) := by
  unfold F_X8_cutterAt_1
  refine ok_if (fun c_4 => ?_) (fun c_4 => ?_)
  · exact ok_some (fun _ h => by cases h)
  · refine ok_if (fun c_5 => ?_) (fun c_5 => ?_)
    · exact ok_some (fun _ h => by cases h)
    · refine ok_if (fun c_6 => ?_) (fun c_6 => ?_)
      · exact ok_some (fun _ h => by cases h)
      · refine ok_gd (rg_inb (rg_lt (nle c_5) (rg_ge (nlt c_4) (show rg (0 : Int32) (0) (0) from ⟨by decide, by decide⟩) (rg_any _)) (bx_get hB (r := 1) (a := 1) (b := 1) (k := 1) (l := 0) (h := 6) (by decide) (by decide) (by decide))) (by decide) (by decide)) ?_
        exact ok_some (fun c h => hQ.2.2.1 _ c (rg_lt6 (rg_lt (nle c_5) (rg_ge (nlt c_4) (show rg (0 : Int32) (0) (0) from ⟨by decide, by decide⟩) (rg_any _)) (bx_get hB (r := 1) (a := 1) (b := 1) (k := 1) (l := 0) (h := 6) (by decide) (by decide) (by decide)))) h)

set_option maxHeartbeats 4000000 in
set_option maxRecDepth 100000 in
theorem s_X8_cutterAt_14 {m : Int} {N : Nat} {K len : Nat → Nat} {a1 : Int32} {σ : SG} {ρ : RG} (hB : BX m σ) (hQ : PR N K len ρ) : ok (F_X8_cutterAt_14 a1 σ ρ) (fun o => ∀ c, o = some c → CK N K len ρ c) := by
  unfold F_X8_cutterAt_14
  refine ok_if (fun c_10 => ?_) (fun c_10 => ?_)
  · exact ok_some (fun _ h => by cases h)
  · refine ok_if (fun c_11 => ?_) (fun c_11 => ?_)
    · exact ok_some (fun _ h => by cases h)
    · refine ok_if (fun c_12 => ?_) (fun c_12 => ?_)
      · exact ok_some (fun _ h => by cases h)
      · refine ok_gd (rg_inb (rg_lt (nle c_11) (rg_ge (nlt c_10) (show rg (0 : Int32) (0) (0) from ⟨by decide, by decide⟩) (rg_any _)) (bx_get hB (r := 14) (a := 1) (b := 1) (k := 1) (l := 0) (h := 6) (by decide) (by decide) (by decide))) (by decide) (by decide)) ?_
        exact ok_some (fun c h => hQ.2.2.2.1 _ c (rg_lt6 (rg_lt (nle c_11) (rg_ge (nlt c_10) (show rg (0 : Int32) (0) (0) from ⟨by decide, by decide⟩) (rg_any _)) (bx_get hB (r := 14) (a := 1) (b := 1) (k := 1) (l := 0) (h := 6) (by decide) (by decide) (by decide)))) h)

set_option maxHeartbeats 4000000 in
set_option maxRecDepth 100000 in
theorem s_X11_see {m : Int} {N : Nat} {K len : Nat → Nat} {a1 : Int32} {a2 : Int32} {σ : SG} {ρ : RG} (hB : BX m σ) (hQ : PR N K len ρ) : ok (F_X11_see a1 a2 σ ρ) (fun q => rg q.1 (-2) (1) ∧ BX m q.2) := by
  unfold F_X11_see
  refine ok_bn (s_X11_isSlope) (fun r1_23 qr1_23 => ?_)
  refine ok_if (fun c_24 => ?_) (fun c_24 => ?_)
  · exact ok_some ⟨(rg_w (show rg (-2 : Int32) (-2) (-2) from ⟨by decide, by decide⟩) (by decide) (by decide)), hB⟩
  · obtain ⟨w_25, w_26⟩ := qr1_23.2 c_24
    refine ok_bn (s_X11_isSlope) (fun r3_27 qr3_27 => ?_)
    refine ok_if (fun c_28 => ?_) (fun c_28 => ?_)
    · exact ok_some ⟨(rg_w (show rg (-2 : Int32) (-2) (-2) from ⟨by decide, by decide⟩) (by decide) (by decide)), hB⟩
    · obtain ⟨w_29, w_30⟩ := qr3_27.2 c_28
      refine ok_nm (fun σ6_31 hσ6_31 => ?_)
      have bσ6_31 : BX m σ6_31 := by rw [hσ6_31]; exact bx_set hB (rg_any _) (by decide)
      refine ok_nm (fun σ8_32 hσ8_32 => ?_)
      have bσ8_32 : BX m σ8_32 := by rw [hσ8_32]; exact bx_set bσ6_31 (rg_any _) (by decide)
      exact ok_some ⟨(rg_w (show rg (1 : Int32) (1) (1) from ⟨by decide, by decide⟩) (by decide) (by decide)), bσ8_32⟩

set_option maxHeartbeats 4000000 in
set_option maxRecDepth 100000 in
theorem s_X11_week {m : Int} {N : Nat} {K len : Nat → Nat} {a1 : Int32} {σ : SG} {ρ : RG} (hB : BX m σ) (hQ : PR N K len ρ) : ok (F_X11_week a1 σ ρ) (fun q => rg q.1 (-4) (4) ∧ BX m q.2) := by
  unfold F_X11_week
  refine ok_bn (s_X11_isSlope) (fun r1_41 qr1_41 => ?_)
  refine ok_if (fun c_42 => ?_) (fun c_42 => ?_)
  · exact ok_some ⟨(rg_w (show rg (-2 : Int32) (-2) (-2) from ⟨by decide, by decide⟩) (by decide) (by decide)), hB⟩
  · obtain ⟨w_43, w_44⟩ := qr1_41.2 c_42
    refine ok_if (fun c_45 => ?_) (fun c_45 => ?_)
    · refine ok_gd (rg_inb (rg_lt c_45 (bx_get hB (r := 1) (a := 10) (b := 10) (k := 10) (l := 0) (h := 4) (by decide) (by decide) (by decide)) (show rg (4 : Int32) (4) (4) from ⟨by decide, by decide⟩)) (by decide) (by decide)) ?_
      refine ok_nm (fun σ6_46 hσ6_46 => ?_)
      have bσ6_46 : BX m σ6_46 := by rw [hσ6_46]; exact bx_far hB (by decide) (by decide) (by decide) (by decide)
      refine ok_nm (fun x7_47 hx7_47 => ?_)
      refine ok_nm (fun σ9_48 hσ9_48 => ?_)
      have bσ9_48 : BX m σ9_48 := by rw [hσ9_48]; exact bx_set bσ6_46 (rg_eq hx7_47 (rg_add (l := 1) (h := 4) (rg_eq (s2_o hσ6_46 (by decide)) (rg_lt c_45 (bx_get hB (r := 1) (a := 10) (b := 10) (k := 10) (l := 0) (h := 4) (by decide) (by decide) (by decide)) (show rg (4 : Int32) (4) (4) from ⟨by decide, by decide⟩))) (show rg (1 : Int32) (1) (1) from ⟨by decide, by decide⟩) (by decide) (by decide) (by decide) (by decide))) (by decide)
      exact ok_some ⟨(rg_w (rg_eq (s2_v hσ9_48) (rg_eq hx7_47 (rg_add (l := 1) (h := 4) (rg_eq (s2_o hσ6_46 (by decide)) (rg_lt c_45 (bx_get hB (r := 1) (a := 10) (b := 10) (k := 10) (l := 0) (h := 4) (by decide) (by decide) (by decide)) (show rg (4 : Int32) (4) (4) from ⟨by decide, by decide⟩))) (show rg (1 : Int32) (1) (1) from ⟨by decide, by decide⟩) (by decide) (by decide) (by decide) (by decide)))) (by decide) (by decide)), bσ9_48⟩
    · exact ok_some ⟨(rg_w (show rg (-4 : Int32) (-4) (-4) from ⟨by decide, by decide⟩) (by decide) (by decide)), hB⟩

set_option maxHeartbeats 4000000 in
set_option maxRecDepth 100000 in
theorem s_X11_clear {m : Int} {N : Nat} {K len : Nat → Nat} {σ : SG} {ρ : RG} (hB : BX m σ) (hQ : PR N K len ρ) : ok (F_X11_clear σ ρ) (fun q => rg q.1 (0) (4) ∧ BX m q.2) := by
  unfold F_X11_clear
  refine ok_nm (fun σ2_50 hσ2_50 => ?_)
  have bσ2_50 : BX m σ2_50 := by rw [hσ2_50]; exact bx_set hB (show rg (0 : Int32) (0) (0) from ⟨by decide, by decide⟩) (by decide)
  exact ok_some ⟨(bx_get hB (r := 1) (a := 10) (b := 10) (k := 10) (l := 0) (h := 4) (by decide) (by decide) (by decide)), bσ2_50⟩

set_option maxHeartbeats 4000000 in
set_option maxRecDepth 100000 in
theorem s_X11_count {m : Int} {N : Nat} {K len : Nat → Nat} {a1 : Int32} {σ : SG} {ρ : RG} (hB : BX m σ) (hQ : PR N K len ρ) : ok (F_X11_count a1 σ ρ) (fun q => rg q (-2147483648) (2147483647)) := by
  unfold F_X11_count
  refine ok_if (fun c_57 => ?_) (fun c_57 => ?_)
  · exact ok_some (rg_w (bx_get hB (r := 1) (a := 1) (b := 1) (k := 1) (l := 0) (h := 6) (by decide) (by decide) (by decide)) (by decide) (by decide))
  · refine ok_if (fun c_58 => ?_) (fun c_58 => ?_)
    · exact ok_some (rg_any _)
    · refine ok_if (fun c_59 => ?_) (fun c_59 => ?_)
      · exact ok_some (rg_w (bx_get hB (r := 1) (a := 10) (b := 10) (k := 10) (l := 0) (h := 4) (by decide) (by decide) (by decide)) (by decide) (by decide))
      · refine ok_if (fun c_60 => ?_) (fun c_60 => ?_)
        · exact ok_some (rg_w (bx_get hB (r := 1) (a := 13) (b := 13) (k := 13) (l := 0) (h := 8) (by decide) (by decide) (by decide)) (by decide) (by decide))
        · refine ok_if (fun c_61 => ?_) (fun c_61 => ?_)
          · exact ok_some (rg_w (bx_get hB (r := 1) (a := 6) (b := 6) (k := 6) (l := 0) (h := 100) (by decide) (by decide) (by decide)) (by decide) (by decide))
          · refine ok_if (fun c_62 => ?_) (fun c_62 => ?_)
            · exact ok_some (rg_any _)
            · exact ok_some (rg_w (show rg (-1 : Int32) (-1) (-1) from ⟨by decide, by decide⟩) (by decide) (by decide))

set_option maxHeartbeats 4000000 in
set_option maxRecDepth 100000 in
theorem s_X11_feed {m : Int} {N : Nat} {K len : Nat → Nat} {a1 : Int32} {σ : SG} {ρ : RG} (hB : BX m σ) (hQ : PR N K len ρ) : ok (F_X11_feed a1 σ ρ) (fun q => rg q.1 (-4) (100) ∧ BX m q.2) := by
  unfold F_X11_feed
  refine ok_bn (s_X11_isWithin) (fun r1_71 qr1_71 => ?_)
  refine ok_if (fun c_72 => ?_) (fun c_72 => ?_)
  · exact ok_some ⟨(rg_w (show rg (-2 : Int32) (-2) (-2) from ⟨by decide, by decide⟩) (by decide) (by decide)), hB⟩
  · obtain ⟨w_73, w_74⟩ := qr1_71.2 c_72
    refine ok_if (fun c_75 => ?_) (fun c_75 => ?_)
    · refine ok_gd (rg_inb (rg_lt c_75 (bx_get hB (r := 1) (a := 6) (b := 6) (k := 6) (l := 0) (h := 100) (by decide) (by decide) (by decide)) (show rg (100 : Int32) (100) (100) from ⟨by decide, by decide⟩)) (by decide) (by decide)) ?_
      refine ok_nm (fun σ6_76 hσ6_76 => ?_)
      have bσ6_76 : BX m σ6_76 := by rw [hσ6_76]; exact bx_setx hB (a := 0) (b := 99) (rg_lt c_75 (bx_get hB (r := 1) (a := 6) (b := 6) (k := 6) (l := 0) (h := 100) (by decide) (by decide) (by decide)) (show rg (100 : Int32) (100) (100) from ⟨by decide, by decide⟩)) (nar_rg _) (by decide)
      refine ok_nm (fun x7_77 hx7_77 => ?_)
      refine ok_nm (fun σ9_78 hσ9_78 => ?_)
      have bσ9_78 : BX m σ9_78 := by rw [hσ9_78]; exact bx_set bσ6_76 (rg_eq hx7_77 (rg_add (l := 1) (h := 100) (rg_eq (s2_o hσ6_76 (by decide)) (rg_lt c_75 (bx_get hB (r := 1) (a := 6) (b := 6) (k := 6) (l := 0) (h := 100) (by decide) (by decide) (by decide)) (show rg (100 : Int32) (100) (100) from ⟨by decide, by decide⟩))) (show rg (1 : Int32) (1) (1) from ⟨by decide, by decide⟩) (by decide) (by decide) (by decide) (by decide))) (by decide)
      exact ok_some ⟨(rg_w (rg_eq (s2_v hσ9_78) (rg_eq hx7_77 (rg_add (l := 1) (h := 100) (rg_eq (s2_o hσ6_76 (by decide)) (rg_lt c_75 (bx_get hB (r := 1) (a := 6) (b := 6) (k := 6) (l := 0) (h := 100) (by decide) (by decide) (by decide)) (show rg (100 : Int32) (100) (100) from ⟨by decide, by decide⟩))) (show rg (1 : Int32) (1) (1) from ⟨by decide, by decide⟩) (by decide) (by decide) (by decide) (by decide)))) (by decide) (by decide)), bσ9_78⟩
    · exact ok_some ⟨(rg_w (show rg (-4 : Int32) (-4) (-4) from ⟨by decide, by decide⟩) (by decide) (by decide)), hB⟩

set_option maxHeartbeats 4000000 in
set_option maxRecDepth 100000 in
theorem s_X3_acrossAt {m : Int} {N : Nat} {K len : Nat → Nat} {a1 : Int32} {a2 : Int32} {a3 : Int32} {σ : SG} {ρ : RG} (hB : BX m σ) (hQ : PR N K len ρ) : ok (F_X3_acrossAt a1 a2 a3 σ ρ) (fun q => rg q (-2147483648) (2147483647)) := by
  unfold F_X3_acrossAt
  refine ok_if (fun c_91 => ?_) (fun c_91 => ?_)
  · refine ok_nm (fun x2_92 hx2_92 => ?_)
    unfold F_X3_acrossAt_11
    refine ok_nm (fun x3_93 hx3_93 => ?_)
    refine ok_if (fun c_94 => ?_) (fun c_94 => ?_)
    · refine ok_nm (fun x6_95 hx6_95 => ?_)
      refine ok_nm (fun x7_96 hx7_96 => ?_)
      exact ok_some (rg_any _)
    · refine ok_nm (fun x5_97 hx5_97 => ?_)
      exact ok_some (rg_any _)
  · unfold F_X3_acrossAt_11
    refine ok_nm (fun x3_98 hx3_98 => ?_)
    refine ok_if (fun c_99 => ?_) (fun c_99 => ?_)
    · refine ok_nm (fun x6_100 hx6_100 => ?_)
      refine ok_nm (fun x7_101 hx7_101 => ?_)
      exact ok_some (rg_any _)
    · refine ok_nm (fun x5_102 hx5_102 => ?_)
      exact ok_some (rg_any _)

set_option maxHeartbeats 4000000 in
set_option maxRecDepth 100000 in
theorem s_X3_startsAnew {m : Int} {N : Nat} {K len : Nat → Nat} {i : Nat} {a1 : Int32} {σ : SG} {ρ : RG} (l_i : isLb i = true) (hB : BX m σ) (hQ : PR N K len ρ) : ok (F_X3_startsAnew i a1 σ ρ) (fun q => BX m q) := by
  unfold F_X3_startsAnew
  refine ok_nm (fun σ2_109 hσ2_109 => ?_)
  have bσ2_109 : BX m σ2_109 := by rw [hσ2_109]; exact bx_lf hB l_i
  refine ok_nm (fun σ4_110 hσ4_110 => ?_)
  have bσ4_110 : BX m σ4_110 := by rw [hσ4_110]; exact bx_lf bσ2_109 l_i
  refine ok_nm (fun σ6_111 hσ6_111 => ?_)
  have bσ6_111 : BX m σ6_111 := by rw [hσ6_111]; exact bx_lf bσ4_110 l_i
  refine ok_nm (fun σ8_112 hσ8_112 => ?_)
  have bσ8_112 : BX m σ8_112 := by rw [hσ8_112]; exact bx_lf bσ6_111 l_i
  refine ok_nm (fun σ10_113 hσ10_113 => ?_)
  have bσ10_113 : BX m σ10_113 := by rw [hσ10_113]; exact bx_lf bσ8_112 l_i
  refine ok_nm (fun σ12_114 hσ12_114 => ?_)
  have bσ12_114 : BX m σ12_114 := by rw [hσ12_114]; exact bx_lf bσ10_113 l_i
  exact ok_some bσ12_114

set_option maxHeartbeats 4000000 in
set_option maxRecDepth 100000 in
theorem s_X3_corner {m : Int} {N : Nat} {K len : Nat → Nat} {i : Nat} {a1 : Int32} {σ : SG} {ρ : RG} (l_i : isLb i = true) (hB : BX m σ) (hQ : PR N K len ρ) : ok (F_X3_corner i a1 σ ρ) (fun q => rg q (-2147483648) (2147483647)) := by
  unfold F_X3_corner
  refine ok_bn (s_X3_acrossAt hB hQ) (fun r1_117 qr1_117 => ?_)
  refine ok_nm (fun x2_118 hx2_118 => ?_)
  exact ok_some (rg_any _)

set_option maxHeartbeats 4000000 in
set_option maxRecDepth 100000 in
theorem s_X3_slope {m : Int} {N : Nat} {K len : Nat → Nat} {i : Nat} {σ : SG} {ρ : RG} (l_i : isLb i = true) (hB : BX m σ) (hQ : PR N K len ρ) : ok (F_X3_slope i σ ρ) (fun q => rg q (-2147483648) (2147483647)) := by
  unfold F_X3_slope
  refine ok_nm (fun x1_122 hx1_122 => ?_)
  refine ok_nm (fun x2_123 hx2_123 => ?_)
  refine ok_nm (fun x3_124 hx3_124 => ?_)
  exact ok_some (rg_any _)

set_option maxHeartbeats 4000000 in
set_option maxRecDepth 100000 in
theorem s_X3_leastCorner {m : Int} {N : Nat} {K len : Nat → Nat} {i : Nat} {σ : SG} {ρ : RG} (l_i : isLb i = true) (hB : BX m σ) (hQ : PR N K len ρ) : ok (F_X3_leastCorner i σ ρ) (fun q => rg q (-2147483648) (2147483647)) := by
  unfold F_X3_leastCorner
  refine ok_bn (s_X3_slope l_i hB hQ) (fun r1_127 qr1_127 => ?_)
  refine ok_nm (fun x2_128 hx2_128 => ?_)
  exact ok_some (rg_any _)

set_option maxHeartbeats 4000000 in
set_option maxRecDepth 100000 in
theorem s_X3_straighten {m : Int} {N : Nat} {K len : Nat → Nat} {i : Nat} {σ : SG} {ρ : RG} (l_i : isLb i = true) (hB : BX m σ) (hQ : PR N K len ρ) : ok (F_X3_straighten i σ ρ) (fun q => rg q.1 (-2147483648) (2147483647) ∧ BX m q.2 ∧ q.2 1 1 = σ 1 1) := by
  unfold F_X3_straighten
  refine ok_bn (s_X3_slope l_i hB hQ) (fun r1_138 qr1_138 => ?_)
  refine ok_nm (fun x2_139 hx2_139 => ?_)
  refine ok_nm (fun σ4_140 hσ4_140 => ?_)
  have bσ4_140 : BX m σ4_140 := by rw [hσ4_140]; exact bx_lf hB l_i
  refine ok_nm (fun σ6_141 hσ6_141 => ?_)
  have bσ6_141 : BX m σ6_141 := by rw [hσ6_141]; exact bx_lf bσ4_140 l_i
  refine ok_nm (fun σ8_142 hσ8_142 => ?_)
  have bσ8_142 : BX m σ8_142 := by rw [hσ8_142]; exact bx_lf bσ6_141 l_i
  refine ok_nm (fun x9_143 hx9_143 => ?_)
  refine ok_nm (fun x10_144 hx10_144 => ?_)
  refine ok_nm (fun σ12_145 hσ12_145 => ?_)
  have bσ12_145 : BX m σ12_145 := by rw [hσ12_145]; exact bx_lf bσ8_142 l_i
  refine ok_nm (fun x13_146 hx13_146 => ?_)
  exact ok_some ⟨(rg_any _), bσ12_145, ((((s2_o hσ12_145 (ne_lb l_i (by decide))).trans (s2_o hσ8_142 (ne_lb l_i (by decide)))).trans (s2_o hσ6_141 (ne_lb l_i (by decide)))).trans (s2_o hσ4_140 (ne_lb l_i (by decide))))⟩

set_option maxHeartbeats 4000000 in
set_option maxRecDepth 100000 in
theorem s_X3_takes {m : Int} {N : Nat} {K len : Nat → Nat} {i : Nat} {j : Nat} {σ : SG} {ρ : RG} (l_i : isLb i = true) (l_j : isLb j = true) (hB : BX m σ) (hQ : PR N K len ρ) : ok (F_X3_takes i j σ ρ) (fun q => BX m q) := by
  unfold F_X3_takes
  refine ok_nm (fun σ2_156 hσ2_156 => ?_)
  have bσ2_156 : BX m σ2_156 := by rw [hσ2_156]; exact bx_lf hB l_i
  refine ok_nm (fun σ4_157 hσ4_157 => ?_)
  have bσ4_157 : BX m σ4_157 := by rw [hσ4_157]; exact bx_lf bσ2_156 l_i
  refine ok_nm (fun σ6_158 hσ6_158 => ?_)
  have bσ6_158 : BX m σ6_158 := by rw [hσ6_158]; exact bx_lf bσ4_157 l_i
  refine ok_nm (fun σ8_159 hσ8_159 => ?_)
  have bσ8_159 : BX m σ8_159 := by rw [hσ8_159]; exact bx_lf bσ6_158 l_i
  refine ok_nm (fun σ10_160 hσ10_160 => ?_)
  have bσ10_160 : BX m σ10_160 := by rw [hσ10_160]; exact bx_lf bσ8_159 l_i
  refine ok_nm (fun σ12_161 hσ12_161 => ?_)
  have bσ12_161 : BX m σ12_161 := by rw [hσ12_161]; exact bx_lf bσ10_160 l_i
  refine ok_nm (fun σ14_162 hσ14_162 => ?_)
  have bσ14_162 : BX m σ14_162 := by rw [hσ14_162]; exact bx_lf bσ12_161 l_i
  refine ok_nm (fun σ16_163 hσ16_163 => ?_)
  have bσ16_163 : BX m σ16_163 := by rw [hσ16_163]; exact bx_lf bσ14_162 l_i
  refine ok_nm (fun σ18_164 hσ18_164 => ?_)
  have bσ18_164 : BX m σ18_164 := by rw [hσ18_164]; exact bx_lf bσ16_163 l_i
  exact ok_some bσ18_164

set_option maxHeartbeats 4000000 in
set_option maxRecDepth 100000 in
theorem s_X0_takes_5_29 {m : Int} {N : Nat} {K len : Nat → Nat} {σ : SG} {ρ : RG} (hB : BX m σ) (hQ : PR N K len ρ) : ok (F_X0_takes_5_29 σ ρ) (fun q => BX m q) := by
  unfold F_X0_takes_5_29
  refine ok_nm (fun σ2_173 hσ2_173 => ?_)
  have bσ2_173 : BX m σ2_173 := by rw [hσ2_173]; exact bx_far hB (by decide) (by decide) (by decide) (by decide)
  refine ok_nm (fun σ4_174 hσ4_174 => ?_)
  have bσ4_174 : BX m σ4_174 := by rw [hσ4_174]; exact bx_far bσ2_173 (by decide) (by decide) (by decide) (by decide)
  refine ok_nm (fun σ6_175 hσ6_175 => ?_)
  have bσ6_175 : BX m σ6_175 := by rw [hσ6_175]; exact bx_far bσ4_174 (by decide) (by decide) (by decide) (by decide)
  refine ok_nm (fun σ8_176 hσ8_176 => ?_)
  have bσ8_176 : BX m σ8_176 := by rw [hσ8_176]; exact bx_far bσ6_175 (by decide) (by decide) (by decide) (by decide)
  refine ok_gd (isb_of bσ8_176 (by decide)) ?_
  refine ok_nm (fun σ9_177 hσ9_177 => ?_)
  have bσ9_177 : BX m σ9_177 := by rw [hσ9_177]; exact bx_cpy bσ8_176 (by decide)
  refine ok_nm (fun σ10_178 hσ10_178 => ?_)
  have bσ10_178 : BX m σ10_178 := by rw [hσ10_178]; exact bx_cpy bσ9_177 (by decide)
  refine ok_nm (fun σ11_179 hσ11_179 => ?_)
  have bσ11_179 : BX m σ11_179 := by rw [hσ11_179]; exact bx_cpy bσ10_178 (by decide)
  refine ok_nm (fun σ12_180 hσ12_180 => ?_)
  have bσ12_180 : BX m σ12_180 := by rw [hσ12_180]; exact bx_cpy bσ11_179 (by decide)
  exact ok_some bσ12_180

set_option maxHeartbeats 4000000 in
set_option maxRecDepth 100000 in
theorem s_X0_takes_18_5 {m : Int} {N : Nat} {K len : Nat → Nat} {σ : SG} {ρ : RG} (hB : BX m σ) (hQ : PR N K len ρ) : ok (F_X0_takes_18_5 σ ρ) (fun q => BX m q) := by
  unfold F_X0_takes_18_5
  refine ok_nm (fun σ2_189 hσ2_189 => ?_)
  have bσ2_189 : BX m σ2_189 := by rw [hσ2_189]; exact bx_far hB (by decide) (by decide) (by decide) (by decide)
  refine ok_nm (fun σ4_190 hσ4_190 => ?_)
  have bσ4_190 : BX m σ4_190 := by rw [hσ4_190]; exact bx_far bσ2_189 (by decide) (by decide) (by decide) (by decide)
  refine ok_nm (fun σ6_191 hσ6_191 => ?_)
  have bσ6_191 : BX m σ6_191 := by rw [hσ6_191]; exact bx_far bσ4_190 (by decide) (by decide) (by decide) (by decide)
  refine ok_nm (fun σ8_192 hσ8_192 => ?_)
  have bσ8_192 : BX m σ8_192 := by rw [hσ8_192]; exact bx_far bσ6_191 (by decide) (by decide) (by decide) (by decide)
  refine ok_gd (isb_of bσ8_192 (by decide)) ?_
  refine ok_nm (fun σ9_193 hσ9_193 => ?_)
  have bσ9_193 : BX m σ9_193 := by rw [hσ9_193]; exact bx_cpy bσ8_192 (by decide)
  refine ok_nm (fun σ10_194 hσ10_194 => ?_)
  have bσ10_194 : BX m σ10_194 := by rw [hσ10_194]; exact bx_cpy bσ9_193 (by decide)
  refine ok_nm (fun σ11_195 hσ11_195 => ?_)
  have bσ11_195 : BX m σ11_195 := by rw [hσ11_195]; exact bx_cpy bσ10_194 (by decide)
  refine ok_nm (fun σ12_196 hσ12_196 => ?_)
  have bσ12_196 : BX m σ12_196 := by rw [hσ12_196]; exact bx_cpy bσ11_195 (by decide)
  exact ok_some bσ12_196

set_option maxHeartbeats 4000000 in
set_option maxRecDepth 100000 in
theorem s_X0_takes_5_18 {m : Int} {N : Nat} {K len : Nat → Nat} {σ : SG} {ρ : RG} (hB : BX m σ) (hQ : PR N K len ρ) : ok (F_X0_takes_5_18 σ ρ) (fun q => BX m q) := by
  unfold F_X0_takes_5_18
  refine ok_nm (fun σ2_205 hσ2_205 => ?_)
  have bσ2_205 : BX m σ2_205 := by rw [hσ2_205]; exact bx_far hB (by decide) (by decide) (by decide) (by decide)
  refine ok_nm (fun σ4_206 hσ4_206 => ?_)
  have bσ4_206 : BX m σ4_206 := by rw [hσ4_206]; exact bx_far bσ2_205 (by decide) (by decide) (by decide) (by decide)
  refine ok_nm (fun σ6_207 hσ6_207 => ?_)
  have bσ6_207 : BX m σ6_207 := by rw [hσ6_207]; exact bx_far bσ4_206 (by decide) (by decide) (by decide) (by decide)
  refine ok_nm (fun σ8_208 hσ8_208 => ?_)
  have bσ8_208 : BX m σ8_208 := by rw [hσ8_208]; exact bx_far bσ6_207 (by decide) (by decide) (by decide) (by decide)
  refine ok_gd (isb_of bσ8_208 (by decide)) ?_
  refine ok_nm (fun σ9_209 hσ9_209 => ?_)
  have bσ9_209 : BX m σ9_209 := by rw [hσ9_209]; exact bx_cpy bσ8_208 (by decide)
  refine ok_nm (fun σ10_210 hσ10_210 => ?_)
  have bσ10_210 : BX m σ10_210 := by rw [hσ10_210]; exact bx_cpy bσ9_209 (by decide)
  refine ok_nm (fun σ11_211 hσ11_211 => ?_)
  have bσ11_211 : BX m σ11_211 := by rw [hσ11_211]; exact bx_cpy bσ10_210 (by decide)
  refine ok_nm (fun σ12_212 hσ12_212 => ?_)
  have bσ12_212 : BX m σ12_212 := by rw [hσ12_212]; exact bx_cpy bσ11_211 (by decide)
  exact ok_some bσ12_212

set_option maxHeartbeats 4000000 in
set_option maxRecDepth 100000 in
theorem s_X11_startSteps {m : Int} {N : Nat} {K len : Nat → Nat} {σ : SG} {ρ : RG} (hB : BX m σ) (hQ : PR N K len ρ) : ok (F_X11_startSteps σ ρ) (fun q => BX m q) := by
  unfold F_X11_startSteps
  refine ok_bn (s_X3_takes (by decide) (by decide) hB hQ) (fun σ1_217 qσ1_217 => ?_)
  refine ok_nm (fun σ3_218 hσ3_218 => ?_)
  have bσ3_218 : BX m σ3_218 := by rw [hσ3_218]; exact bx_far qσ1_217 (by decide) (by decide) (by decide) (by decide)
  refine ok_nm (fun σ5_219 hσ5_219 => ?_)
  have bσ5_219 : BX m σ5_219 := by rw [hσ5_219]; exact bx_far bσ3_218 (by decide) (by decide) (by decide) (by decide)
  refine ok_nm (fun σ7_220 hσ7_220 => ?_)
  have bσ7_220 : BX m σ7_220 := by rw [hσ7_220]; exact bx_far bσ5_219 (by decide) (by decide) (by decide) (by decide)
  exact ok_some bσ7_220

set_option maxHeartbeats 4000000 in
set_option maxRecDepth 100000 in
theorem s_X11_keepPath_7 {m : Int} {N : Nat} {K len : Nat → Nat} {a1 : Int32} {ρ : RG} (hQ : PR N K len ρ) : ∀ (n : Nat) (σ : SG) (v1 : Int32) (v2 : Int32), rg v2 (0) (6) → (6 : Int) - v2.toInt < (n : Int) → BX m σ → ok (F_X11_keepPath_7 a1 n σ ρ v1 v2) (fun q => BX m q) := by
  intro n
  induction n with
  | zero => intro σ v1 v2 r_v2 hm hB; exact (ms_z r_v2 (by decide) hm).elim
  | succ n ih =>
    intro σ v1 v2 r_v2 hm hB
    unfold F_X11_keepPath_7
    refine ok_if (fun c_227 => ?_) (fun c_227 => ?_)
    · exact ok_some hB
    · refine ok_if (fun c_228 => ?_) (fun c_228 => ?_)
      · exact ok_some hB
      · refine ok_if (fun c_229 => ?_) (fun c_229 => ?_)
        · exact ok_some hB
        · refine ok_gd (rg_inb (rg_lt (nle c_228) r_v2 (show rg (6 : Int32) (6) (6) from ⟨by decide, by decide⟩)) (by decide) (by decide)) ?_
          refine ok_gd (rg_inb (rg_lt (nle c_228) r_v2 (show rg (6 : Int32) (6) (6) from ⟨by decide, by decide⟩)) (by decide) (by decide)) ?_
          refine ok_nm (fun σ9_230 hσ9_230 => ?_)
          have bσ9_230 : BX m σ9_230 := by rw [hσ9_230]; exact bx_far hB (by decide) (by decide) (by decide) (by decide)
          refine ok_nm (fun x10_231 hx10_231 => ?_)
          exact ih _ _ _ (rg_w (rg_eq hx10_231 (rg_add (l := 1) (h := 6) (rg_lt (nle c_228) r_v2 (show rg (6 : Int32) (6) (6) from ⟨by decide, by decide⟩)) (show rg (1 : Int32) (1) (1) from ⟨by decide, by decide⟩) (by decide) (by decide) (by decide) (by decide))) (by decide) (by decide)) (ms_s hx10_231 (rg_lt (nle c_228) r_v2 (show rg (6 : Int32) (6) (6) from ⟨by decide, by decide⟩)) (by decide) (by decide) hm) bσ9_230

set_option maxHeartbeats 4000000 in
set_option maxRecDepth 100000 in
theorem s_X11_keepPath {m : Int} {N : Nat} {K len : Nat → Nat} {a1 : Int32} {σ : SG} {ρ : RG} (hB : BX m σ) (hQ : PR N K len ρ) : ok (F_X11_keepPath a1 σ ρ) (fun q => BX m q) := by
  unfold F_X11_keepPath
  refine ok_nm (fun σ2_232 hσ2_232 => ?_)
  have bσ2_232 : BX m σ2_232 := by rw [hσ2_232]; exact bx_far hB (by decide) (by decide) (by decide) (by decide)
  exact (s_X11_keepPath_7 hQ 1024 _ _ _ (rg_w (show rg (0 : Int32) (0) (0) from ⟨by decide, by decide⟩) (by decide) (by decide)) (ms_0 (show rg (0 : Int32) (0) (0) from ⟨by decide, by decide⟩) (by decide)) bσ2_232)

set_option maxHeartbeats 4000000 in
set_option maxRecDepth 100000 in
theorem s_X11_loaf {m : Int} {N : Nat} {K len : Nat → Nat} {a1 : Int32} {σ : SG} {ρ : RG} (hB : BX m σ) (hQ : PR N K len ρ) : ok (F_X11_loaf a1 σ ρ) (fun q => rg q.1 (-2147483648) (2147483647) ∧ BX m q.2) := by
  unfold F_X11_loaf
  refine ok_bn (s_X11_isWithin) (fun r1_238 qr1_238 => ?_)
  refine ok_if (fun c_239 => ?_) (fun c_239 => ?_)
  · exact ok_some ⟨(rg_w (show rg (-2 : Int32) (-2) (-2) from ⟨by decide, by decide⟩) (by decide) (by decide)), hB⟩
  · obtain ⟨w_240, w_241⟩ := qr1_238.2 c_239
    refine ok_bn (s_X3_startsAnew (by decide) hB hQ) (fun σ3_242 qσ3_242 => ?_)
    exact ok_some ⟨(rg_any _), qσ3_242⟩

set_option maxHeartbeats 4000000 in
set_option maxRecDepth 100000 in
theorem s_X11_told {m : Int} {N : Nat} {K len : Nat → Nat} {a1 : Int32} {σ : SG} {ρ : RG} (hB : BX m σ) (hQ : PR N K len ρ) : ok (F_X11_told a1 σ ρ) (fun q => rg q (-2147483648) (2147483647)) := by
  unfold F_X11_told
  refine ok_if (fun c_257 => ?_) (fun c_257 => ?_)
  · exact ok_some (rg_any _)
  · refine ok_if (fun c_258 => ?_) (fun c_258 => ?_)
    · exact ok_some (rg_any _)
    · refine ok_if (fun c_259 => ?_) (fun c_259 => ?_)
      · exact ok_some (rg_any _)
      · refine ok_if (fun c_260 => ?_) (fun c_260 => ?_)
        · exact ok_some (rg_any _)
        · refine ok_if (fun c_261 => ?_) (fun c_261 => ?_)
          · exact ok_some (rg_any _)
          · refine ok_if (fun c_262 => ?_) (fun c_262 => ?_)
            · exact ok_some (rg_any _)
            · refine ok_if (fun c_263 => ?_) (fun c_263 => ?_)
              · exact ok_some (rg_any _)
              · refine ok_if (fun c_264 => ?_) (fun c_264 => ?_)
                · exact ok_some (rg_any _)
                · refine ok_bn (s_X11_isWithin) (fun r2_265 qr2_265 => ?_)
                  refine ok_if (fun c_266 => ?_) (fun c_266 => ?_)
                  · exact ok_some (rg_w (show rg (-10001 : Int32) (-10001) (-10001) from ⟨by decide, by decide⟩) (by decide) (by decide))
                  · obtain ⟨w_267, w_268⟩ := qr2_265.2 c_266
                    refine ok_nm (fun x4_269 hx4_269 => ?_)
                    refine ok_bn (s_X3_corner (by decide) hB hQ) (fun r5_270 qr5_270 => ?_)
                    exact ok_some qr5_270

set_option maxHeartbeats 4000000 in
set_option maxRecDepth 100000 in
theorem s_X11_right {m : Int} {N : Nat} {K len : Nat → Nat} {σ : SG} {ρ : RG} (hB : BX m σ) (hQ : PR N K len ρ) : ok (F_X11_right σ ρ) (fun q => rg q.1 (-2147483648) (2147483647) ∧ BX m q.2) := by
  unfold F_X11_right
  refine ok_bn (s_X3_leastCorner (by decide) hB hQ) (fun r1_275 qr1_275 => ?_)
  refine ok_if (fun c_276 => ?_) (fun c_276 => ?_)
  · refine ok_bn2 (s_X3_straighten (by decide) hB hQ) (fun r3_277 σ3_278 qr3_277 => ?_)
    obtain ⟨hr3_277, bσ3_278, fσ3_278_0⟩ := qr3_277
    exact ok_some ⟨hr3_277, bσ3_278⟩
  · exact ok_some ⟨(rg_w (show rg (-3 : Int32) (-3) (-3) from ⟨by decide, by decide⟩) (by decide) (by decide)), hB⟩

set_option maxHeartbeats 4000000 in
set_option maxRecDepth 100000 in
theorem s_X11_turn {m : Int} {N : Nat} {K len : Nat → Nat} {a1 : Int32} {σ : SG} {ρ : RG} (hB : BX m σ) (hQ : PR N K len ρ) : ok (F_X11_turn a1 σ ρ) (fun q => rg q.1 (-2147483648) (2147483647) ∧ BX m q.2) := by
  unfold F_X11_turn
  refine ok_if (fun c_284 => ?_) (fun c_284 => ?_)
  · refine ok_nm (fun x2_285 hx2_285 => ?_)
    refine ok_nm (fun σ4_286 hσ4_286 => ?_)
    have bσ4_286 : BX m σ4_286 := by rw [hσ4_286]; exact bx_far hB (by decide) (by decide) (by decide) (by decide)
    exact ok_some ⟨(rg_any _), bσ4_286⟩
  · refine ok_nm (fun x5_287 hx5_287 => ?_)
    refine ok_nm (fun σ7_288 hσ7_288 => ?_)
    have bσ7_288 : BX m σ7_288 := by rw [hσ7_288]; exact bx_far hB (by decide) (by decide) (by decide) (by decide)
    exact ok_some ⟨(rg_any _), bσ7_288⟩

set_option maxHeartbeats 4000000 in
set_option maxRecDepth 100000 in
theorem s_X11_trace {m : Int} {N : Nat} {K len : Nat → Nat} {a1 : Int32} {σ : SG} {ρ : RG} (hB : BX m σ) (hQ : PR N K len ρ) : ok (F_X11_trace a1 σ ρ) (fun q => rg q (-2147483648) (2147483647)) := by
  unfold F_X11_trace
  refine ok_nm (fun x1_295 hx1_295 => ?_)
  refine ok_bn (s_X11_isWithin) (fun r2_296 qr2_296 => ?_)
  refine ok_if (fun c_297 => ?_) (fun c_297 => ?_)
  · exact ok_some (rg_w (show rg (-1 : Int32) (-1) (-1) from ⟨by decide, by decide⟩) (by decide) (by decide))
  · obtain ⟨w_298, w_299⟩ := qr2_296.2 c_297
    refine ok_if (fun c_300 => ?_) (fun c_300 => ?_)
    · refine ok_gd (rg_inb (rg_le w_299 (rg_ge w_298 (show rg (0 : Int32) (0) (0) from ⟨by decide, by decide⟩) (rg_any _)) (rg_eq hx1_295 (rg_sub (l := 19) (h := 19) (show rg (20 : Int32) (20) (20) from ⟨by decide, by decide⟩) (show rg (1 : Int32) (1) (1) from ⟨by decide, by decide⟩) (by decide) (by decide) (by decide) (by decide)))) (by decide) (by decide)) ?_
      exact ok_some (rg_any _)
    · exact ok_some (rg_w (show rg (-1 : Int32) (-1) (-1) from ⟨by decide, by decide⟩) (by decide) (by decide))

set_option maxHeartbeats 4000000 in
set_option maxRecDepth 100000 in
theorem s_X10_began {m : Int} {N : Nat} {K len : Nat → Nat} {a1 : Int32} {σ : SG} {ρ : RG} (hB : BX m σ) (hQ : PR N K len ρ) : ok (F_X10_began a1 σ ρ) (fun q => BX m q) := by
  unfold F_X10_began
  refine ok_if (fun c_310 => ?_) (fun c_310 => ?_)
  · unfold F_X10_began_29
    refine ok_nm (fun x2_311 hx2_311 => ?_)
    refine ok_nm (fun σ4_312 hσ4_312 => ?_)
    have bσ4_312 : BX m σ4_312 := by rw [hσ4_312]; exact bx_far hB (by decide) (by decide) (by decide) (by decide)
    exact ok_some bσ4_312
  · refine ok_if (fun c_313 => ?_) (fun c_313 => ?_)
    · unfold F_X10_began_29
      refine ok_nm (fun x2_314 hx2_314 => ?_)
      refine ok_nm (fun σ4_315 hσ4_315 => ?_)
      have bσ4_315 : BX m σ4_315 := by rw [hσ4_315]; exact bx_far hB (by decide) (by decide) (by decide) (by decide)
      exact ok_some bσ4_315
    · refine ok_gd (rg_inb (rg_lt (nle c_313) (rg_ge (nlt c_310) (show rg (0 : Int32) (0) (0) from ⟨by decide, by decide⟩) (rg_any _)) (show rg (20 : Int32) (20) (20) from ⟨by decide, by decide⟩)) (by decide) (by decide)) ?_
      refine ok_nm (fun σ8_316 hσ8_316 => ?_)
      have bσ8_316 : BX m σ8_316 := by rw [hσ8_316]; exact bx_far hB (by decide) (by decide) (by decide) (by decide)
      unfold F_X10_began_29
      refine ok_nm (fun x2_317 hx2_317 => ?_)
      refine ok_nm (fun σ4_318 hσ4_318 => ?_)
      have bσ4_318 : BX m σ4_318 := by rw [hσ4_318]; exact bx_far bσ8_316 (by decide) (by decide) (by decide) (by decide)
      exact ok_some bσ4_318

set_option maxHeartbeats 4000000 in
set_option maxRecDepth 100000 in
theorem s_X1_kind {m : Int} {N : Nat} {K len : Nat → Nat} {z : Nat} {σ : SG} {ρ : RG} (k_z : CK N K len ρ z) (hB : BX m σ) (hQ : PR N K len ρ) : ok (F_X1_kind N K len z σ ρ) (fun q => rg q (0) (0)) := by
  unfold F_X1_kind
  exact ok_some (show rg (0 : Int32) (0) (0) from ⟨by decide, by decide⟩)

set_option maxHeartbeats 4000000 in
set_option maxRecDepth 100000 in
theorem s_X2_kind {m : Int} {N : Nat} {K len : Nat → Nat} {z : Nat} {σ : SG} {ρ : RG} (k_z : CK N K len ρ z) (hB : BX m σ) (hQ : PR N K len ρ) : ok (F_X2_kind N K len z σ ρ) (fun q => rg q (3) (3)) := by
  unfold F_X2_kind
  exact ok_some (show rg (3 : Int32) (3) (3) from ⟨by decide, by decide⟩)

set_option maxHeartbeats 4000000 in
set_option maxRecDepth 100000 in
theorem s_X4_kind {m : Int} {N : Nat} {K len : Nat → Nat} {z : Nat} {σ : SG} {ρ : RG} (k_z : CK N K len ρ z) (hB : BX m σ) (hQ : PR N K len ρ) : ok (F_X4_kind N K len z σ ρ) (fun q => rg q (5) (5)) := by
  unfold F_X4_kind
  exact ok_some (show rg (5 : Int32) (5) (5) from ⟨by decide, by decide⟩)

set_option maxHeartbeats 4000000 in
set_option maxRecDepth 100000 in
theorem s_X5_kind {m : Int} {N : Nat} {K len : Nat → Nat} {z : Nat} {σ : SG} {ρ : RG} (k_z : CK N K len ρ z) (hB : BX m σ) (hQ : PR N K len ρ) : ok (F_X5_kind N K len z σ ρ) (fun q => rg q (4) (4)) := by
  unfold F_X5_kind
  exact ok_some (show rg (4 : Int32) (4) (4) from ⟨by decide, by decide⟩)

set_option maxHeartbeats 4000000 in
set_option maxRecDepth 100000 in
theorem s_X6_kind {m : Int} {N : Nat} {K len : Nat → Nat} {z : Nat} {σ : SG} {ρ : RG} (k_z : CK N K len ρ z) (hB : BX m σ) (hQ : PR N K len ρ) : ok (F_X6_kind N K len z σ ρ) (fun q => rg q (2) (2)) := by
  unfold F_X6_kind
  exact ok_some (show rg (2 : Int32) (2) (2) from ⟨by decide, by decide⟩)

set_option maxHeartbeats 4000000 in
set_option maxRecDepth 100000 in
theorem s_X7_kind {m : Int} {N : Nat} {K len : Nat → Nat} {z : Nat} {σ : SG} {ρ : RG} (k_z : CK N K len ρ z) (hB : BX m σ) (hQ : PR N K len ρ) : ok (F_X7_kind N K len z σ ρ) (fun q => rg q (1) (1)) := by
  unfold F_X7_kind
  exact ok_some (show rg (1 : Int32) (1) (1) from ⟨by decide, by decide⟩)

set_option maxHeartbeats 4000000 in
set_option maxRecDepth 100000 in
theorem s_X9_kind {m : Int} {N : Nat} {K len : Nat → Nat} {z : Nat} {σ : SG} {ρ : RG} (k_z : CK N K len ρ z) (hB : BX m σ) (hQ : PR N K len ρ) : ok (F_X9_kind N K len z σ ρ) (fun q => rg q (6) (6)) := by
  unfold F_X9_kind
  exact ok_some (show rg (6 : Int32) (6) (6) from ⟨by decide, by decide⟩)

set_option maxHeartbeats 4000000 in
set_option maxRecDepth 100000 in
theorem s_X1_prepare {m : Int} {N : Nat} {K len : Nat → Nat} {z : Nat} {i : Nat} {σ : SG} {ρ : RG} (k_z : CK N K len ρ z) (l_i : isLb i = true) (hB : BX m σ) (hQ : PR N K len ρ) : ok (F_X1_prepare N K len z i σ ρ) (fun _ => True) := by
  unfold F_X1_prepare
  exact ok_some trivial

set_option maxHeartbeats 4000000 in
set_option maxRecDepth 100000 in
theorem s_X4_prepare {m : Int} {N : Nat} {K len : Nat → Nat} {z : Nat} {i : Nat} {σ : SG} {ρ : RG} (k_z : CK N K len ρ z) (l_i : isLb i = true) (hB : BX m σ) (hQ : PR N K len ρ) : ok (F_X4_prepare N K len z i σ ρ) (fun q => BX m q) := by
  unfold F_X4_prepare
  refine ok_nm (fun x1_321 hx1_321 => ?_)
  refine ok_nm (fun σ3_322 hσ3_322 => ?_)
  have bσ3_322 : BX m σ3_322 := by rw [hσ3_322]; exact bx_lf hB l_i
  exact ok_some bσ3_322

set_option maxHeartbeats 4000000 in
set_option maxRecDepth 100000 in
theorem s_X5_prepare {m : Int} {N : Nat} {K len : Nat → Nat} {z : Nat} {i : Nat} {σ : SG} {ρ : RG} (k_z : CK N K len ρ z) (l_i : isLb i = true) (hB : BX m σ) (hQ : PR N K len ρ) : ok (F_X5_prepare N K len z i σ ρ) (fun q => BX m q) := by
  unfold F_X5_prepare
  refine ok_bn2 (s_X3_straighten l_i hB hQ) (fun r1_325 σ1_326 qr1_325 => ?_)
  obtain ⟨hr1_325, bσ1_326, fσ1_326_0⟩ := qr1_325
  exact ok_some bσ1_326

set_option maxHeartbeats 4000000 in
set_option maxRecDepth 100000 in
theorem s_X1_upBy {m : Int} {N : Nat} {K len : Nat → Nat} {z : Nat} {a1 : Int32} {i : Nat} {σ : SG} {ρ : RG} (k_z : CK N K len ρ z) (l_i : isLb i = true) (hB : BX m σ) (hQ : PR N K len ρ) : ok (F_X1_upBy N K len z a1 i σ ρ) (fun q => rg q (-2147483648) (2147483647)) := by
  unfold F_X1_upBy
  exact ok_some (rg_any _)

set_option maxHeartbeats 4000000 in
set_option maxRecDepth 100000 in
theorem s_X1_sideBy {m : Int} {N : Nat} {K len : Nat → Nat} {z : Nat} {a1 : Int32} {i : Nat} {σ : SG} {ρ : RG} (k_z : CK N K len ρ z) (l_i : isLb i = true) (hB : BX m σ) (hQ : PR N K len ρ) : ok (F_X1_sideBy N K len z a1 i σ ρ) (fun q => rg q (-2147483648) (2147483647)) := by
  unfold F_X1_sideBy
  exact ok_some (rg_any _)

set_option maxHeartbeats 4000000 in
set_option maxRecDepth 100000 in
theorem s_X2_upBy {m : Int} {N : Nat} {K len : Nat → Nat} {z : Nat} {a1 : Int32} {i : Nat} {σ : SG} {ρ : RG} (k_z : CK N K len ρ z) (l_i : isLb i = true) (hB : BX m σ) (hQ : PR N K len ρ) : ok (F_X2_upBy N K len z a1 i σ ρ) (fun q => rg q (-2147483648) (2147483647)) := by
  unfold F_X2_upBy
  refine ok_nm (fun x1_328 hx1_328 => ?_)
  exact ok_some (rg_any _)

set_option maxHeartbeats 4000000 in
set_option maxRecDepth 100000 in
theorem s_X2_sideBy {m : Int} {N : Nat} {K len : Nat → Nat} {z : Nat} {a1 : Int32} {i : Nat} {σ : SG} {ρ : RG} (k_z : CK N K len ρ z) (l_i : isLb i = true) (hB : BX m σ) (hQ : PR N K len ρ) : ok (F_X2_sideBy N K len z a1 i σ ρ) (fun q => rg q (-2147483648) (2147483647)) := by
  unfold F_X2_sideBy
  refine ok_nm (fun x1_330 hx1_330 => ?_)
  exact ok_some (rg_any _)

set_option maxHeartbeats 4000000 in
set_option maxRecDepth 100000 in
theorem s_X6_upBy {m : Int} {N : Nat} {K len : Nat → Nat} {z : Nat} {a1 : Int32} {i : Nat} {σ : SG} {ρ : RG} (k_z : CK N K len ρ z) (l_i : isLb i = true) (hB : BX m σ) (hQ : PR N K len ρ) : ok (F_X6_upBy N K len z a1 i σ ρ) (fun q => rg q (-2147483648) (2147483647)) := by
  unfold F_X6_upBy
  refine ok_nm (fun x1_333 hx1_333 => ?_)
  refine ok_nm (fun x2_334 hx2_334 => ?_)
  exact ok_some (rg_any _)

set_option maxHeartbeats 4000000 in
set_option maxRecDepth 100000 in
theorem s_X6_sideBy {m : Int} {N : Nat} {K len : Nat → Nat} {z : Nat} {a1 : Int32} {i : Nat} {σ : SG} {ρ : RG} (k_z : CK N K len ρ z) (l_i : isLb i = true) (hB : BX m σ) (hQ : PR N K len ρ) : ok (F_X6_sideBy N K len z a1 i σ ρ) (fun q => rg q (-2147483648) (2147483647)) := by
  unfold F_X6_sideBy
  refine ok_nm (fun x1_337 hx1_337 => ?_)
  refine ok_nm (fun x2_338 hx2_338 => ?_)
  exact ok_some (rg_any _)

set_option maxHeartbeats 4000000 in
set_option maxRecDepth 100000 in
theorem s_X7_upBy {m : Int} {N : Nat} {K len : Nat → Nat} {z : Nat} {a1 : Int32} {i : Nat} {σ : SG} {ρ : RG} (k_z : CK N K len ρ z) (l_i : isLb i = true) (hB : BX m σ) (hQ : PR N K len ρ) : ok (F_X7_upBy N K len z a1 i σ ρ) (fun q => rg q (0) (0)) := by
  unfold F_X7_upBy
  exact ok_some (show rg (0 : Int32) (0) (0) from ⟨by decide, by decide⟩)

set_option maxHeartbeats 4000000 in
set_option maxRecDepth 100000 in
theorem s_X7_sideBy {m : Int} {N : Nat} {K len : Nat → Nat} {z : Nat} {a1 : Int32} {i : Nat} {σ : SG} {ρ : RG} (k_z : CK N K len ρ z) (l_i : isLb i = true) (hB : BX m σ) (hQ : PR N K len ρ) : ok (F_X7_sideBy N K len z a1 i σ ρ) (fun q => rg q (0) (0)) := by
  unfold F_X7_sideBy
  exact ok_some (show rg (0 : Int32) (0) (0) from ⟨by decide, by decide⟩)

set_option maxHeartbeats 4000000 in
set_option maxRecDepth 100000 in
theorem s_X9_upBy {m : Int} {N : Nat} {K len : Nat → Nat} {z : Nat} {a1 : Int32} {i : Nat} {σ : SG} {ρ : RG} (k_z : CK N K len ρ z) (n_z : K z = 9) (l_i : isLb i = true) (hB : BX m σ) (hQ : PR N K len ρ) : ok (F_X9_upBy N K len z a1 i σ ρ) (fun q => rg q (-2147483648) (2147483647)) := by
  unfold F_X9_upBy
  refine ok_gd (beq_iff_eq.mpr n_z) ?_
  refine ok_oc (fun o_345 => ?_) (fun c2_346 o_345 => ?_)
  · exact (ck_dn k_z n_z o_345).elim
  · refine ok_gd (ck_d k_z n_z o_345).1 ?_
    refine ok_nm (fun x3_347 hx3_347 => ?_)
    refine ok_bn (s_X11_valueAt (by decide)) (fun r4_348 qr4_348 => ?_)
    refine ok_nm (fun x5_349 hx5_349 => ?_)
    refine ok_nm (fun x6_350 hx6_350 => ?_)
    exact ok_some (rg_any _)

theorem s_v_kind {m : Int} {N : Nat} {K len : Nat → Nat} {z : Nat} {σ : SG} {ρ : RG} (k_z : CK N K len ρ z) (hB : BX m σ) (hQ : PR N K len ρ) : ok (F_v_kind N K len z σ ρ) (fun q => rg q (0) (6)) := by
  unfold F_v_kind
  rcases isCk_or (isC_k k_z.1) with h | h | h | h | h | h | h
  · rw [if_pos h]
    exact ok_mono (s_X1_kind k_z hB hQ) (fun q hq => rg_w hq (by decide) (by decide))
  · rw [if_neg (by rw [h]; decide : ¬ K z = 1), if_pos h]
    exact ok_mono (s_X2_kind k_z hB hQ) (fun q hq => rg_w hq (by decide) (by decide))
  · rw [if_neg (by rw [h]; decide : ¬ K z = 1), if_neg (by rw [h]; decide : ¬ K z = 2), if_pos h]
    exact ok_mono (s_X4_kind k_z hB hQ) (fun q hq => rg_w hq (by decide) (by decide))
  · rw [if_neg (by rw [h]; decide : ¬ K z = 1), if_neg (by rw [h]; decide : ¬ K z = 2), if_neg (by rw [h]; decide : ¬ K z = 4), if_pos h]
    exact ok_mono (s_X5_kind k_z hB hQ) (fun q hq => rg_w hq (by decide) (by decide))
  · rw [if_neg (by rw [h]; decide : ¬ K z = 1), if_neg (by rw [h]; decide : ¬ K z = 2), if_neg (by rw [h]; decide : ¬ K z = 4), if_neg (by rw [h]; decide : ¬ K z = 5), if_pos h]
    exact ok_mono (s_X6_kind k_z hB hQ) (fun q hq => rg_w hq (by decide) (by decide))
  · rw [if_neg (by rw [h]; decide : ¬ K z = 1), if_neg (by rw [h]; decide : ¬ K z = 2), if_neg (by rw [h]; decide : ¬ K z = 4), if_neg (by rw [h]; decide : ¬ K z = 5), if_neg (by rw [h]; decide : ¬ K z = 6), if_pos h]
    exact ok_mono (s_X7_kind k_z hB hQ) (fun q hq => rg_w hq (by decide) (by decide))
  · rw [if_neg (by rw [h]; decide : ¬ K z = 1), if_neg (by rw [h]; decide : ¬ K z = 2), if_neg (by rw [h]; decide : ¬ K z = 4), if_neg (by rw [h]; decide : ¬ K z = 5), if_neg (by rw [h]; decide : ¬ K z = 6), if_neg (by rw [h]; decide : ¬ K z = 7), if_pos h]
    exact ok_mono (s_X9_kind k_z hB hQ) (fun q hq => rg_w hq (by decide) (by decide))

theorem s_v_prepare {m : Int} {N : Nat} {K len : Nat → Nat} {z : Nat} {i : Nat} {σ : SG} {ρ : RG} (k_z : CK N K len ρ z) (l_i : isLb i = true) (hB : BX m σ) (hQ : PR N K len ρ) : ok (F_v_prepare N K len z i σ ρ) (fun q => BX m q) := by
  unfold F_v_prepare
  rcases isCk_or (isC_k k_z.1) with h | h | h | h | h | h | h
  · rw [if_pos h]
    exact ok_bn (s_X1_prepare k_z l_i hB hQ) (fun _ _ => ok_some hB)
  · rw [if_neg (by rw [h]; decide : ¬ K z = 1), if_pos h]
    exact ok_bn (s_X1_prepare k_z l_i hB hQ) (fun _ _ => ok_some hB)
  · rw [if_neg (by rw [h]; decide : ¬ K z = 1), if_neg (by rw [h]; decide : ¬ K z = 2), if_pos h]
    exact (s_X4_prepare k_z l_i hB hQ)
  · rw [if_neg (by rw [h]; decide : ¬ K z = 1), if_neg (by rw [h]; decide : ¬ K z = 2), if_neg (by rw [h]; decide : ¬ K z = 4), if_pos h]
    exact (s_X5_prepare k_z l_i hB hQ)
  · rw [if_neg (by rw [h]; decide : ¬ K z = 1), if_neg (by rw [h]; decide : ¬ K z = 2), if_neg (by rw [h]; decide : ¬ K z = 4), if_neg (by rw [h]; decide : ¬ K z = 5), if_pos h]
    exact ok_bn (s_X1_prepare k_z l_i hB hQ) (fun _ _ => ok_some hB)
  · rw [if_neg (by rw [h]; decide : ¬ K z = 1), if_neg (by rw [h]; decide : ¬ K z = 2), if_neg (by rw [h]; decide : ¬ K z = 4), if_neg (by rw [h]; decide : ¬ K z = 5), if_neg (by rw [h]; decide : ¬ K z = 6), if_pos h]
    exact ok_bn (s_X1_prepare k_z l_i hB hQ) (fun _ _ => ok_some hB)
  · rw [if_neg (by rw [h]; decide : ¬ K z = 1), if_neg (by rw [h]; decide : ¬ K z = 2), if_neg (by rw [h]; decide : ¬ K z = 4), if_neg (by rw [h]; decide : ¬ K z = 5), if_neg (by rw [h]; decide : ¬ K z = 6), if_neg (by rw [h]; decide : ¬ K z = 7), if_pos h]
    exact ok_bn (s_X1_prepare k_z l_i hB hQ) (fun _ _ => ok_some hB)

theorem s_v_upBy {m : Int} {N : Nat} {K len : Nat → Nat} {z : Nat} {a1 : Int32} {i : Nat} {σ : SG} {ρ : RG} (k_z : CK N K len ρ z) (l_i : isLb i = true) (hB : BX m σ) (hQ : PR N K len ρ) : ok (F_v_upBy N K len z a1 i σ ρ) (fun q => rg q (-2147483648) (2147483647)) := by
  unfold F_v_upBy
  rcases isCk_or (isC_k k_z.1) with h | h | h | h | h | h | h
  · rw [if_pos h]
    exact (s_X1_upBy k_z l_i hB hQ)
  · rw [if_neg (by rw [h]; decide : ¬ K z = 1), if_pos h]
    exact (s_X2_upBy k_z l_i hB hQ)
  · rw [if_neg (by rw [h]; decide : ¬ K z = 1), if_neg (by rw [h]; decide : ¬ K z = 2), if_pos h]
    exact (s_X6_upBy k_z l_i hB hQ)
  · rw [if_neg (by rw [h]; decide : ¬ K z = 1), if_neg (by rw [h]; decide : ¬ K z = 2), if_neg (by rw [h]; decide : ¬ K z = 4), if_pos h]
    exact ok_mono (s_X7_upBy k_z l_i hB hQ) (fun q hq => rg_w hq (by decide) (by decide))
  · rw [if_neg (by rw [h]; decide : ¬ K z = 1), if_neg (by rw [h]; decide : ¬ K z = 2), if_neg (by rw [h]; decide : ¬ K z = 4), if_neg (by rw [h]; decide : ¬ K z = 5), if_pos h]
    exact (s_X6_upBy k_z l_i hB hQ)
  · rw [if_neg (by rw [h]; decide : ¬ K z = 1), if_neg (by rw [h]; decide : ¬ K z = 2), if_neg (by rw [h]; decide : ¬ K z = 4), if_neg (by rw [h]; decide : ¬ K z = 5), if_neg (by rw [h]; decide : ¬ K z = 6), if_pos h]
    exact ok_mono (s_X7_upBy k_z l_i hB hQ) (fun q hq => rg_w hq (by decide) (by decide))
  · rw [if_neg (by rw [h]; decide : ¬ K z = 1), if_neg (by rw [h]; decide : ¬ K z = 2), if_neg (by rw [h]; decide : ¬ K z = 4), if_neg (by rw [h]; decide : ¬ K z = 5), if_neg (by rw [h]; decide : ¬ K z = 6), if_neg (by rw [h]; decide : ¬ K z = 7), if_pos h]
    exact (s_X9_upBy k_z h l_i hB hQ)

theorem s_v_sideBy {m : Int} {N : Nat} {K len : Nat → Nat} {z : Nat} {a1 : Int32} {i : Nat} {σ : SG} {ρ : RG} (k_z : CK N K len ρ z) (l_i : isLb i = true) (hB : BX m σ) (hQ : PR N K len ρ) : ok (F_v_sideBy N K len z a1 i σ ρ) (fun q => rg q (-2147483648) (2147483647)) := by
  unfold F_v_sideBy
  rcases isCk_or (isC_k k_z.1) with h | h | h | h | h | h | h
  · rw [if_pos h]
    exact (s_X1_sideBy k_z l_i hB hQ)
  · rw [if_neg (by rw [h]; decide : ¬ K z = 1), if_pos h]
    exact (s_X2_sideBy k_z l_i hB hQ)
  · rw [if_neg (by rw [h]; decide : ¬ K z = 1), if_neg (by rw [h]; decide : ¬ K z = 2), if_pos h]
    exact (s_X6_sideBy k_z l_i hB hQ)
  · rw [if_neg (by rw [h]; decide : ¬ K z = 1), if_neg (by rw [h]; decide : ¬ K z = 2), if_neg (by rw [h]; decide : ¬ K z = 4), if_pos h]
    exact ok_mono (s_X7_sideBy k_z l_i hB hQ) (fun q hq => rg_w hq (by decide) (by decide))
  · rw [if_neg (by rw [h]; decide : ¬ K z = 1), if_neg (by rw [h]; decide : ¬ K z = 2), if_neg (by rw [h]; decide : ¬ K z = 4), if_neg (by rw [h]; decide : ¬ K z = 5), if_pos h]
    exact (s_X6_sideBy k_z l_i hB hQ)
  · rw [if_neg (by rw [h]; decide : ¬ K z = 1), if_neg (by rw [h]; decide : ¬ K z = 2), if_neg (by rw [h]; decide : ¬ K z = 4), if_neg (by rw [h]; decide : ¬ K z = 5), if_neg (by rw [h]; decide : ¬ K z = 6), if_pos h]
    exact ok_mono (s_X7_sideBy k_z l_i hB hQ) (fun q hq => rg_w hq (by decide) (by decide))
  · rw [if_neg (by rw [h]; decide : ¬ K z = 1), if_neg (by rw [h]; decide : ¬ K z = 2), if_neg (by rw [h]; decide : ¬ K z = 4), if_neg (by rw [h]; decide : ¬ K z = 5), if_neg (by rw [h]; decide : ¬ K z = 6), if_neg (by rw [h]; decide : ¬ K z = 7), if_pos h]
    exact (s_X2_sideBy k_z l_i hB hQ)

set_option maxHeartbeats 4000000 in
set_option maxRecDepth 100000 in
theorem s_X1_cuts {m : Int} {N : Nat} {K len : Nat → Nat} {z : Nat} {a1 : Int32} {σ : SG} {ρ : RG} (k_z : CK N K len ρ z) (hB : BX m σ) (hQ : PR N K len ρ) : ok (F_X1_cuts N K len z a1 σ ρ) (fun q => rg q.1 (-2147483648) (2147483647) ∧ BX m q.2) := by
  unfold F_X1_cuts
  refine ok_bn (s_X10_began hB hQ) (fun σ1_353 qσ1_353 => ?_)
  refine ok_nm (fun x2_354 hx2_354 => ?_)
  exact ok_some ⟨(rg_any _), qσ1_353⟩

set_option maxHeartbeats 4000000 in
set_option maxRecDepth 100000 in
theorem s_X7_cuts {m : Int} {N : Nat} {K len : Nat → Nat} {z : Nat} {a1 : Int32} {σ : SG} {ρ : RG} (k_z : CK N K len ρ z) (hB : BX m σ) (hQ : PR N K len ρ) : ok (F_X7_cuts N K len z a1 σ ρ) (fun q => rg q.1 (-2147483648) (2147483647) ∧ BX m q.2) := by
  unfold F_X7_cuts
  refine ok_bn (s_X10_began hB hQ) (fun σ1_359 qσ1_359 => ?_)
  refine ok_nm (fun x2_360 hx2_360 => ?_)
  refine ok_bn2 (s_X1_cuts k_z qσ1_359 hQ) (fun r3_361 σ3_362 qr3_361 => ?_)
  obtain ⟨hr3_361, bσ3_362⟩ := qr3_361
  exact ok_some ⟨hr3_361, bσ3_362⟩

set_option maxHeartbeats 4000000 in
set_option maxRecDepth 100000 in
theorem s_X4_cuts {m : Int} {N : Nat} {K len : Nat → Nat} {z : Nat} {a1 : Int32} {σ : SG} {ρ : RG} (k_z : CK N K len ρ z) (hB : BX m σ) (hQ : PR N K len ρ) : ok (F_X4_cuts N K len z a1 σ ρ) (fun q => rg q.1 (-2147483648) (2147483647) ∧ BX m q.2) := by
  unfold F_X4_cuts
  refine ok_bn (s_X10_began hB hQ) (fun σ1_367 qσ1_367 => ?_)
  refine ok_bn2 (s_X1_cuts k_z qσ1_367 hQ) (fun r2_368 σ2_369 qr2_368 => ?_)
  obtain ⟨hr2_368, bσ2_369⟩ := qr2_368
  refine ok_nm (fun x3_370 hx3_370 => ?_)
  exact ok_some ⟨(rg_any _), bσ2_369⟩

theorem s_v_cuts {m : Int} {N : Nat} {K len : Nat → Nat} {z : Nat} {a1 : Int32} {σ : SG} {ρ : RG} (k_z : CK N K len ρ z) (hB : BX m σ) (hQ : PR N K len ρ) : ok (F_v_cuts N K len z a1 σ ρ) (fun q => rg q.1 (-2147483648) (2147483647) ∧ BX m q.2) := by
  unfold F_v_cuts
  rcases isCk_or (isC_k k_z.1) with h | h | h | h | h | h | h
  · rw [if_pos h]
    exact (s_X1_cuts k_z hB hQ)
  · rw [if_neg (by rw [h]; decide : ¬ K z = 1), if_pos h]
    exact (s_X1_cuts k_z hB hQ)
  · rw [if_neg (by rw [h]; decide : ¬ K z = 1), if_neg (by rw [h]; decide : ¬ K z = 2), if_pos h]
    exact (s_X4_cuts k_z hB hQ)
  · rw [if_neg (by rw [h]; decide : ¬ K z = 1), if_neg (by rw [h]; decide : ¬ K z = 2), if_neg (by rw [h]; decide : ¬ K z = 4), if_pos h]
    exact (s_X7_cuts k_z hB hQ)
  · rw [if_neg (by rw [h]; decide : ¬ K z = 1), if_neg (by rw [h]; decide : ¬ K z = 2), if_neg (by rw [h]; decide : ¬ K z = 4), if_neg (by rw [h]; decide : ¬ K z = 5), if_pos h]
    exact (s_X1_cuts k_z hB hQ)
  · rw [if_neg (by rw [h]; decide : ¬ K z = 1), if_neg (by rw [h]; decide : ¬ K z = 2), if_neg (by rw [h]; decide : ¬ K z = 4), if_neg (by rw [h]; decide : ¬ K z = 5), if_neg (by rw [h]; decide : ¬ K z = 6), if_pos h]
    exact (s_X7_cuts k_z hB hQ)
  · rw [if_neg (by rw [h]; decide : ¬ K z = 1), if_neg (by rw [h]; decide : ¬ K z = 2), if_neg (by rw [h]; decide : ¬ K z = 4), if_neg (by rw [h]; decide : ¬ K z = 5), if_neg (by rw [h]; decide : ¬ K z = 6), if_neg (by rw [h]; decide : ¬ K z = 7), if_pos h]
    exact (s_X1_cuts k_z hB hQ)

set_option maxHeartbeats 4000000 in
set_option maxRecDepth 100000 in
theorem s_X1_eats {m : Int} {N : Nat} {K len : Nat → Nat} {z : Nat} {a1 : Int32} {σ : SG} {ρ : RG} (k_z : CK N K len ρ z) (hB : BX m σ) (hQ : PR N K len ρ) : ok (F_X1_eats N K len z a1 σ ρ) (fun q => rg q.1 (-2147483648) (2147483647) ∧ BX m q.2) := by
  unfold F_X1_eats
  refine ok_bn (s_X10_began hB hQ) (fun σ1_375 qσ1_375 => ?_)
  refine ok_bn2 (s_v_cuts k_z qσ1_375 hQ) (fun r2_376 σ2_377 qr2_376 => ?_)
  obtain ⟨hr2_376, bσ2_377⟩ := qr2_376
  refine ok_nm (fun x3_378 hx3_378 => ?_)
  exact ok_some ⟨(rg_any _), bσ2_377⟩

set_option maxHeartbeats 4000000 in
set_option maxRecDepth 100000 in
theorem s_X6_eats {m : Int} {N : Nat} {K len : Nat → Nat} {z : Nat} {a1 : Int32} {σ : SG} {ρ : RG} (k_z : CK N K len ρ z) (hB : BX m σ) (hQ : PR N K len ρ) : ok (F_X6_eats N K len z a1 σ ρ) (fun q => rg q.1 (-2147483648) (2147483647) ∧ BX m q.2) := by
  unfold F_X6_eats
  refine ok_bn (s_X10_began hB hQ) (fun σ1_383 qσ1_383 => ?_)
  refine ok_bn2 (s_X1_eats k_z qσ1_383 hQ) (fun r2_384 σ2_385 qr2_384 => ?_)
  obtain ⟨hr2_384, bσ2_385⟩ := qr2_384
  refine ok_nm (fun x3_386 hx3_386 => ?_)
  exact ok_some ⟨(rg_any _), bσ2_385⟩

set_option maxHeartbeats 4000000 in
set_option maxRecDepth 100000 in
theorem s_X9_eats {m : Int} {N : Nat} {K len : Nat → Nat} {z : Nat} {a1 : Int32} {σ : SG} {ρ : RG} (k_z : CK N K len ρ z) (hB : BX m σ) (hQ : PR N K len ρ) : ok (F_X9_eats N K len z a1 σ ρ) (fun q => rg q.1 (-2147483648) (2147483647) ∧ BX m q.2) := by
  unfold F_X9_eats
  refine ok_bn (s_X10_began hB hQ) (fun σ1_391 qσ1_391 => ?_)
  refine ok_bn2 (s_X1_eats k_z qσ1_391 hQ) (fun r2_392 σ2_393 qr2_392 => ?_)
  obtain ⟨hr2_392, bσ2_393⟩ := qr2_392
  refine ok_nm (fun x3_394 hx3_394 => ?_)
  exact ok_some ⟨(rg_any _), bσ2_393⟩

theorem s_v_eats {m : Int} {N : Nat} {K len : Nat → Nat} {z : Nat} {a1 : Int32} {σ : SG} {ρ : RG} (k_z : CK N K len ρ z) (hB : BX m σ) (hQ : PR N K len ρ) : ok (F_v_eats N K len z a1 σ ρ) (fun q => rg q.1 (-2147483648) (2147483647) ∧ BX m q.2) := by
  unfold F_v_eats
  rcases isCk_or (isC_k k_z.1) with h | h | h | h | h | h | h
  · rw [if_pos h]
    exact (s_X1_eats k_z hB hQ)
  · rw [if_neg (by rw [h]; decide : ¬ K z = 1), if_pos h]
    exact (s_X1_eats k_z hB hQ)
  · rw [if_neg (by rw [h]; decide : ¬ K z = 1), if_neg (by rw [h]; decide : ¬ K z = 2), if_pos h]
    exact (s_X6_eats k_z hB hQ)
  · rw [if_neg (by rw [h]; decide : ¬ K z = 1), if_neg (by rw [h]; decide : ¬ K z = 2), if_neg (by rw [h]; decide : ¬ K z = 4), if_pos h]
    exact (s_X1_eats k_z hB hQ)
  · rw [if_neg (by rw [h]; decide : ¬ K z = 1), if_neg (by rw [h]; decide : ¬ K z = 2), if_neg (by rw [h]; decide : ¬ K z = 4), if_neg (by rw [h]; decide : ¬ K z = 5), if_pos h]
    exact (s_X6_eats k_z hB hQ)
  · rw [if_neg (by rw [h]; decide : ¬ K z = 1), if_neg (by rw [h]; decide : ¬ K z = 2), if_neg (by rw [h]; decide : ¬ K z = 4), if_neg (by rw [h]; decide : ¬ K z = 5), if_neg (by rw [h]; decide : ¬ K z = 6), if_pos h]
    exact (s_X1_eats k_z hB hQ)
  · rw [if_neg (by rw [h]; decide : ¬ K z = 1), if_neg (by rw [h]; decide : ¬ K z = 2), if_neg (by rw [h]; decide : ¬ K z = 4), if_neg (by rw [h]; decide : ¬ K z = 5), if_neg (by rw [h]; decide : ¬ K z = 6), if_neg (by rw [h]; decide : ¬ K z = 7), if_pos h]
    exact (s_X9_eats k_z hB hQ)

set_option maxHeartbeats 4000000 in
set_option maxRecDepth 100000 in
theorem s_X1_tells {m : Int} {N : Nat} {K len : Nat → Nat} {z : Nat} {a1 : Int32} {σ : SG} {ρ : RG} (k_z : CK N K len ρ z) (hB : BX m σ) (hQ : PR N K len ρ) : ok (F_X1_tells N K len z a1 σ ρ) (fun q => rg q.1 (-2147483648) (2147483647) ∧ BX m q.2) := by
  unfold F_X1_tells
  refine ok_bn (s_X10_began hB hQ) (fun σ1_399 qσ1_399 => ?_)
  refine ok_bn2 (s_v_eats k_z qσ1_399 hQ) (fun r2_400 σ2_401 qr2_400 => ?_)
  obtain ⟨hr2_400, bσ2_401⟩ := qr2_400
  refine ok_nm (fun x3_402 hx3_402 => ?_)
  exact ok_some ⟨(rg_any _), bσ2_401⟩

set_option maxHeartbeats 4000000 in
set_option maxRecDepth 100000 in
theorem s_X2_tells {m : Int} {N : Nat} {K len : Nat → Nat} {z : Nat} {a1 : Int32} {σ : SG} {ρ : RG} (k_z : CK N K len ρ z) (hB : BX m σ) (hQ : PR N K len ρ) : ok (F_X2_tells N K len z a1 σ ρ) (fun q => rg q.1 (-2147483648) (2147483647) ∧ BX m q.2) := by
  unfold F_X2_tells
  refine ok_bn (s_X10_began hB hQ) (fun σ1_407 qσ1_407 => ?_)
  refine ok_bn2 (s_X1_tells k_z qσ1_407 hQ) (fun r2_408 σ2_409 qr2_408 => ?_)
  obtain ⟨hr2_408, bσ2_409⟩ := qr2_408
  refine ok_nm (fun x3_410 hx3_410 => ?_)
  exact ok_some ⟨(rg_any _), bσ2_409⟩

set_option maxHeartbeats 4000000 in
set_option maxRecDepth 100000 in
theorem s_X5_tells {m : Int} {N : Nat} {K len : Nat → Nat} {z : Nat} {a1 : Int32} {σ : SG} {ρ : RG} (k_z : CK N K len ρ z) (n_z : K z = 5) (hB : BX m σ) (hQ : PR N K len ρ) : ok (F_X5_tells N K len z a1 σ ρ) (fun q => rg q.1 (-2147483648) (2147483647) ∧ BX m q.2) := by
  unfold F_X5_tells
  refine ok_bn (s_X10_began hB hQ) (fun σ1_418 qσ1_418 => ?_)
  refine ok_nm (fun x2_419 hx2_419 => ?_)
  refine ok_bn2 (s_X1_tells k_z qσ1_418 hQ) (fun r3_420 σ3_421 qr3_420 => ?_)
  obtain ⟨hr3_420, bσ3_421⟩ := qr3_420
  refine ok_gd (beq_iff_eq.mpr n_z) ?_
  refine ok_bn2 (s_X7_cuts k_z bσ3_421 hQ) (fun r5_422 σ5_423 qr5_422 => ?_)
  obtain ⟨hr5_422, bσ5_423⟩ := qr5_422
  refine ok_nm (fun x6_424 hx6_424 => ?_)
  exact ok_some ⟨(rg_any _), bσ5_423⟩

theorem s_v_tells {m : Int} {N : Nat} {K len : Nat → Nat} {z : Nat} {a1 : Int32} {σ : SG} {ρ : RG} (k_z : CK N K len ρ z) (hB : BX m σ) (hQ : PR N K len ρ) : ok (F_v_tells N K len z a1 σ ρ) (fun q => rg q.1 (-2147483648) (2147483647) ∧ BX m q.2) := by
  unfold F_v_tells
  rcases isCk_or (isC_k k_z.1) with h | h | h | h | h | h | h
  · rw [if_pos h]
    exact (s_X1_tells k_z hB hQ)
  · rw [if_neg (by rw [h]; decide : ¬ K z = 1), if_pos h]
    exact (s_X2_tells k_z hB hQ)
  · rw [if_neg (by rw [h]; decide : ¬ K z = 1), if_neg (by rw [h]; decide : ¬ K z = 2), if_pos h]
    exact (s_X1_tells k_z hB hQ)
  · rw [if_neg (by rw [h]; decide : ¬ K z = 1), if_neg (by rw [h]; decide : ¬ K z = 2), if_neg (by rw [h]; decide : ¬ K z = 4), if_pos h]
    exact (s_X5_tells k_z h hB hQ)
  · rw [if_neg (by rw [h]; decide : ¬ K z = 1), if_neg (by rw [h]; decide : ¬ K z = 2), if_neg (by rw [h]; decide : ¬ K z = 4), if_neg (by rw [h]; decide : ¬ K z = 5), if_pos h]
    exact (s_X1_tells k_z hB hQ)
  · rw [if_neg (by rw [h]; decide : ¬ K z = 1), if_neg (by rw [h]; decide : ¬ K z = 2), if_neg (by rw [h]; decide : ¬ K z = 4), if_neg (by rw [h]; decide : ¬ K z = 5), if_neg (by rw [h]; decide : ¬ K z = 6), if_pos h]
    exact (s_X1_tells k_z hB hQ)
  · rw [if_neg (by rw [h]; decide : ¬ K z = 1), if_neg (by rw [h]; decide : ¬ K z = 2), if_neg (by rw [h]; decide : ¬ K z = 4), if_neg (by rw [h]; decide : ¬ K z = 5), if_neg (by rw [h]; decide : ¬ K z = 6), if_neg (by rw [h]; decide : ¬ K z = 7), if_pos h]
    exact (s_X2_tells k_z hB hQ)

set_option maxHeartbeats 4000000 in
set_option maxRecDepth 100000 in
theorem s_X0_isTrue {m : Int} {N : Nat} {K len : Nat → Nat} {a1 : Int32} {qa : Nat} {qn : Nat} {σ : SG} {ρ : RG} (h_qn : qn < 2147483648) (hB : BX m σ) (hQ : PR N K len ρ) : ok (F_X0_isTrue a1 qa qn σ ρ) (fun q => rg q (0) (1)) := by
  unfold F_X0_isTrue
  refine ok_nm (fun x1_435 hx1_435 => ?_)
  refine ok_bn (s_X11_valueAt h_qn) (fun r2_436 qr2_436 => ?_)
  refine ok_nm (fun x3_437 hx3_437 => ?_)
  refine ok_nm (fun x4_438 hx4_438 => ?_)
  refine ok_nm (fun x5_439 hx5_439 => ?_)
  refine ok_if (fun c_440 => ?_) (fun c_440 => ?_)
  · refine ok_if (fun c_441 => ?_) (fun c_441 => ?_)
    · exact ok_some (rg_w (show rg (0 : Int32) (0) (0) from ⟨by decide, by decide⟩) (by decide) (by decide))
    · exact ok_some (rg_w (show rg (1 : Int32) (1) (1) from ⟨by decide, by decide⟩) (by decide) (by decide))
  · refine ok_if (fun c_442 => ?_) (fun c_442 => ?_)
    · refine ok_if (fun c_443 => ?_) (fun c_443 => ?_)
      · exact ok_some (rg_w (show rg (1 : Int32) (1) (1) from ⟨by decide, by decide⟩) (by decide) (by decide))
      · exact ok_some (rg_w (show rg (0 : Int32) (0) (0) from ⟨by decide, by decide⟩) (by decide) (by decide))
    · refine ok_if (fun c_444 => ?_) (fun c_444 => ?_)
      · exact ok_some (rg_w (show rg (0 : Int32) (0) (0) from ⟨by decide, by decide⟩) (by decide) (by decide))
      · exact ok_some (rg_w (show rg (1 : Int32) (1) (1) from ⟨by decide, by decide⟩) (by decide) (by decide))

set_option maxHeartbeats 4000000 in
set_option maxRecDepth 100000 in
theorem s_X0_holds_6 {m : Int} {N : Nat} {K len : Nat → Nat} {a1 : Int32} {a2 : Int32} {qa : Nat} {qn : Nat} {ρ : RG} (r_a1 : rg a1 (0) (100)) (h_qn : qn < 2147483648) (hQ : PR N K len ρ) : ∀ (n : Nat) (σ : SG) (v2 : Int32) (v4 : Int32) (v5 : Int32), rg v5 (0) (100) → (100 : Int) - v5.toInt < (n : Int) → BX m σ → ok (F_X0_holds_6 a1 a2 qa qn n σ ρ v2 v4 v5) (fun q => rg q (0) (1)) := by
  intro n
  induction n with
  | zero => intro σ v2 v4 v5 r_v5 hm hB; exact (ms_z r_v5 (by decide) hm).elim
  | succ n ih =>
    intro σ v2 v4 v5 r_v5 hm hB
    unfold F_X0_holds_6
    refine ok_if (fun c_475 => ?_) (fun c_475 => ?_)
    · unfold F_X0_holds_143
      refine ok_nm (fun x2_476 hx2_476 => ?_)
      refine ok_if (fun c_477 => ?_) (fun c_477 => ?_)
      · exact ok_some (rg_w (rg_gt c_475 (rg_lt c_475 r_v5 (show rg (0 : Int32) (0) (0) from ⟨by decide, by decide⟩)) (show rg (0 : Int32) (0) (0) from ⟨by decide, by decide⟩)) (by decide) (by decide))
      · exact ok_some (rg_w (show rg (1 : Int32) (1) (1) from ⟨by decide, by decide⟩) (by decide) (by decide))
    · refine ok_if (fun c_478 => ?_) (fun c_478 => ?_)
      · unfold F_X0_holds_143
        refine ok_nm (fun x2_479 hx2_479 => ?_)
        refine ok_if (fun c_480 => ?_) (fun c_480 => ?_)
        · exact ok_some (rg_w (show rg (0 : Int32) (0) (0) from ⟨by decide, by decide⟩) (by decide) (by decide))
        · exact ok_some (rg_w (show rg (1 : Int32) (1) (1) from ⟨by decide, by decide⟩) (by decide) (by decide))
      · refine ok_if (fun c_481 => ?_) (fun c_481 => ?_)
        · unfold F_X0_holds_143
          refine ok_nm (fun x2_482 hx2_482 => ?_)
          refine ok_if (fun c_483 => ?_) (fun c_483 => ?_)
          · exact ok_some (rg_w (show rg (0 : Int32) (0) (0) from ⟨by decide, by decide⟩) (by decide) (by decide))
          · exact ok_some (rg_w (show rg (1 : Int32) (1) (1) from ⟨by decide, by decide⟩) (by decide) (by decide))
        · refine ok_nm (fun x6_484 hx6_484 => ?_)
          refine ok_gd (rg_inb (rg_lt (nle c_481) r_v5 (show rg (100 : Int32) (100) (100) from ⟨by decide, by decide⟩)) (by decide) (by decide)) ?_
          refine ok_if (fun c_485 => ?_) (fun c_485 => ?_)
          · refine ok_nm (fun x24_486 hx24_486 => ?_)
            unfold F_X0_holds_137
            refine ok_nm (fun x18_487 hx18_487 => ?_)
            exact ih _ _ _ _ (rg_w (rg_eq hx18_487 (rg_add (l := 1) (h := 100) (rg_lt (nle c_481) r_v5 (show rg (100 : Int32) (100) (100) from ⟨by decide, by decide⟩)) (show rg (1 : Int32) (1) (1) from ⟨by decide, by decide⟩) (by decide) (by decide) (by decide) (by decide))) (by decide) (by decide)) (ms_s hx18_487 (rg_lt (nle c_481) r_v5 (show rg (100 : Int32) (100) (100) from ⟨by decide, by decide⟩)) (by decide) (by decide) hm) hB
          · refine ok_gd (rg_inb (rg_lt (nle c_481) r_v5 (show rg (100 : Int32) (100) (100) from ⟨by decide, by decide⟩)) (by decide) (by decide)) ?_
            refine ok_if (fun c_488 => ?_) (fun c_488 => ?_)
            · refine ok_nm (fun x21_489 hx21_489 => ?_)
              refine ok_if (fun c_490 => ?_) (fun c_490 => ?_)
              · refine ok_nm (fun x23_491 hx23_491 => ?_)
                unfold F_X0_holds_82
                unfold F_X0_holds_137
                refine ok_nm (fun x18_492 hx18_492 => ?_)
                exact ih _ _ _ _ (rg_w (rg_eq hx18_492 (rg_add (l := 1) (h := 100) (rg_lt (nle c_481) r_v5 (show rg (100 : Int32) (100) (100) from ⟨by decide, by decide⟩)) (show rg (1 : Int32) (1) (1) from ⟨by decide, by decide⟩) (by decide) (by decide) (by decide) (by decide))) (by decide) (by decide)) (ms_s hx18_492 (rg_lt (nle c_481) r_v5 (show rg (100 : Int32) (100) (100) from ⟨by decide, by decide⟩)) (by decide) (by decide) hm) hB
              · unfold F_X0_holds_82
                unfold F_X0_holds_137
                refine ok_nm (fun x18_493 hx18_493 => ?_)
                exact ih _ _ _ _ (rg_w (rg_eq hx18_493 (rg_add (l := 1) (h := 100) (rg_lt (nle c_481) r_v5 (show rg (100 : Int32) (100) (100) from ⟨by decide, by decide⟩)) (show rg (1 : Int32) (1) (1) from ⟨by decide, by decide⟩) (by decide) (by decide) (by decide) (by decide))) (by decide) (by decide)) (ms_s hx18_493 (rg_lt (nle c_481) r_v5 (show rg (100 : Int32) (100) (100) from ⟨by decide, by decide⟩)) (by decide) (by decide) hm) hB
            · refine ok_gd (rg_inb (rg_lt (nle c_481) r_v5 (show rg (100 : Int32) (100) (100) from ⟨by decide, by decide⟩)) (by decide) (by decide)) ?_
              refine ok_if (fun c_494 => ?_) (fun c_494 => ?_)
              · refine ok_nm (fun x19_495 hx19_495 => ?_)
                refine ok_nm (fun x20_496 hx20_496 => ?_)
                unfold F_X0_holds_137
                refine ok_nm (fun x18_497 hx18_497 => ?_)
                exact ih _ _ _ _ (rg_w (rg_eq hx18_497 (rg_add (l := 1) (h := 100) (rg_lt (nle c_481) r_v5 (show rg (100 : Int32) (100) (100) from ⟨by decide, by decide⟩)) (show rg (1 : Int32) (1) (1) from ⟨by decide, by decide⟩) (by decide) (by decide) (by decide) (by decide))) (by decide) (by decide)) (ms_s hx18_497 (rg_lt (nle c_481) r_v5 (show rg (100 : Int32) (100) (100) from ⟨by decide, by decide⟩)) (by decide) (by decide) hm) hB
              · refine ok_nm (fun x13_498 hx13_498 => ?_)
                refine ok_gd (rg_inb (rg_lt (nle c_481) r_v5 (show rg (100 : Int32) (100) (100) from ⟨by decide, by decide⟩)) (by decide) (by decide)) ?_
                refine ok_bn (s_X0_isTrue h_qn hB hQ) (fun r15_499 qr15_499 => ?_)
                refine ok_if (fun c_500 => ?_) (fun c_500 => ?_)
                · unfold F_X0_holds_134
                  refine ok_nm (fun x17_501 hx17_501 => ?_)
                  unfold F_X0_holds_137
                  refine ok_nm (fun x18_502 hx18_502 => ?_)
                  exact ih _ _ _ _ (rg_w (rg_eq hx18_502 (rg_add (l := 1) (h := 100) (rg_lt (nle c_481) r_v5 (show rg (100 : Int32) (100) (100) from ⟨by decide, by decide⟩)) (show rg (1 : Int32) (1) (1) from ⟨by decide, by decide⟩) (by decide) (by decide) (by decide) (by decide))) (by decide) (by decide)) (ms_s hx18_502 (rg_lt (nle c_481) r_v5 (show rg (100 : Int32) (100) (100) from ⟨by decide, by decide⟩)) (by decide) (by decide) hm) hB
                · unfold F_X0_holds_134
                  refine ok_nm (fun x17_503 hx17_503 => ?_)
                  unfold F_X0_holds_137
                  refine ok_nm (fun x18_504 hx18_504 => ?_)
                  exact ih _ _ _ _ (rg_w (rg_eq hx18_504 (rg_add (l := 1) (h := 100) (rg_lt (nle c_481) r_v5 (show rg (100 : Int32) (100) (100) from ⟨by decide, by decide⟩)) (show rg (1 : Int32) (1) (1) from ⟨by decide, by decide⟩) (by decide) (by decide) (by decide) (by decide))) (by decide) (by decide)) (ms_s hx18_504 (rg_lt (nle c_481) r_v5 (show rg (100 : Int32) (100) (100) from ⟨by decide, by decide⟩)) (by decide) (by decide) hm) hB

set_option maxHeartbeats 4000000 in
set_option maxRecDepth 100000 in
theorem s_X0_holds {m : Int} {N : Nat} {K len : Nat → Nat} {a1 : Int32} {a2 : Int32} {qa : Nat} {qn : Nat} {σ : SG} {ρ : RG} (r_a1 : rg a1 (0) (100)) (h_qn : qn < 2147483648) (hB : BX m σ) (hQ : PR N K len ρ) : ok (F_X0_holds a1 a2 qa qn σ ρ) (fun q => rg q (0) (1)) := by
  unfold F_X0_holds
  exact (s_X0_holds_6 r_a1 h_qn hQ 1024 _ _ _ _ r_a1 (ms_0 r_a1 (by decide)) hB)

set_option maxHeartbeats 4000000 in
set_option maxRecDepth 100000 in
theorem s_X0_added_9 {m : Int} {N : Nat} {K len : Nat → Nat} {a1 : Int32} {qa : Nat} {qn : Nat} {a3 : Int32} {ρ : RG} (h_qn : qn < 2147483648) (hQ : PR N K len ρ) : ∀ (n : Nat) (σ : SG) (v1 : Int32) (v3 : Int32) (v4 : Int32) (v5 : Int32) (v6 : Int32), rg v5 (0) (100) → rg v6 (0) (10) → (10 : Int) - v6.toInt < (n : Int) → BX m σ → ok (F_X0_added_9 a1 qa qn a3 n σ ρ v1 v3 v4 v5 v6) (fun q => rg q (-2147483648) (2147483647)) := by
  intro n
  induction n with
  | zero => intro σ v1 v3 v4 v5 v6 r_v5 r_v6 hm hB; exact (ms_z r_v6 (by decide) hm).elim
  | succ n ih =>
    intro σ v1 v3 v4 v5 v6 r_v5 r_v6 hm hB
    unfold F_X0_added_9
    refine ok_if (fun c_518 => ?_) (fun c_518 => ?_)
    · exact ok_some (rg_any _)
    · refine ok_if (fun c_519 => ?_) (fun c_519 => ?_)
      · exact ok_some (rg_any _)
      · refine ok_gd (rg_inb (rg_lt (nle c_519) r_v6 (show rg (10 : Int32) (10) (10) from ⟨by decide, by decide⟩)) (by decide) (by decide)) ?_
        refine ok_if (fun c_520 => ?_) (fun c_520 => ?_)
        · refine ok_gd (rg_inb (rg_lt (nle c_519) r_v6 (show rg (10 : Int32) (10) (10) from ⟨by decide, by decide⟩)) (by decide) (by decide)) ?_
          refine ok_bn (s_X0_holds r_v5 h_qn hB hQ) (fun r8_521 qr8_521 => ?_)
          refine ok_if (fun c_522 => ?_) (fun c_522 => ?_)
          · unfold F_X0_added_81
            refine ok_gd (rg_inb (rg_lt (nle c_519) r_v6 (show rg (10 : Int32) (10) (10) from ⟨by decide, by decide⟩)) (by decide) (by decide)) ?_
            refine ok_nm (fun x6_523 hx6_523 => ?_)
            exact ih _ _ _ _ _ _ (bx_getx hB (r := 8) (a := 0) (b := 9) (l := 0) (h := 100) (by decide) (rg_w (rg_lt (nle c_519) r_v6 (show rg (10 : Int32) (10) (10) from ⟨by decide, by decide⟩)) (by decide) (by decide))) (rg_w (rg_eq hx6_523 (rg_add (l := 1) (h := 10) (rg_lt (nle c_519) r_v6 (show rg (10 : Int32) (10) (10) from ⟨by decide, by decide⟩)) (show rg (1 : Int32) (1) (1) from ⟨by decide, by decide⟩) (by decide) (by decide) (by decide) (by decide))) (by decide) (by decide)) (ms_s hx6_523 (rg_lt (nle c_519) r_v6 (show rg (10 : Int32) (10) (10) from ⟨by decide, by decide⟩)) (by decide) (by decide) hm) hB
          · refine ok_if (fun c_524 => ?_) (fun c_524 => ?_)
            · refine ok_gd (rg_inb (rg_lt (nle c_519) r_v6 (show rg (10 : Int32) (10) (10) from ⟨by decide, by decide⟩)) (by decide) (by decide)) ?_
              unfold F_X0_added_78
              refine ok_nm (fun x12_525 hx12_525 => ?_)
              unfold F_X0_added_81
              refine ok_gd (rg_inb (rg_lt (nle c_519) r_v6 (show rg (10 : Int32) (10) (10) from ⟨by decide, by decide⟩)) (by decide) (by decide)) ?_
              refine ok_nm (fun x6_526 hx6_526 => ?_)
              exact ih _ _ _ _ _ _ (bx_getx hB (r := 8) (a := 0) (b := 9) (l := 0) (h := 100) (by decide) (rg_w (rg_lt (nle c_519) r_v6 (show rg (10 : Int32) (10) (10) from ⟨by decide, by decide⟩)) (by decide) (by decide))) (rg_w (rg_eq hx6_526 (rg_add (l := 1) (h := 10) (rg_lt (nle c_519) r_v6 (show rg (10 : Int32) (10) (10) from ⟨by decide, by decide⟩)) (show rg (1 : Int32) (1) (1) from ⟨by decide, by decide⟩) (by decide) (by decide) (by decide) (by decide))) (by decide) (by decide)) (ms_s hx6_526 (rg_lt (nle c_519) r_v6 (show rg (10 : Int32) (10) (10) from ⟨by decide, by decide⟩)) (by decide) (by decide) hm) hB
            · refine ok_gd (rg_inb (rg_lt (nle c_519) r_v6 (show rg (10 : Int32) (10) (10) from ⟨by decide, by decide⟩)) (by decide) (by decide)) ?_
              refine ok_nm (fun x14_527 hx14_527 => ?_)
              unfold F_X0_added_78
              refine ok_nm (fun x12_528 hx12_528 => ?_)
              unfold F_X0_added_81
              refine ok_gd (rg_inb (rg_lt (nle c_519) r_v6 (show rg (10 : Int32) (10) (10) from ⟨by decide, by decide⟩)) (by decide) (by decide)) ?_
              refine ok_nm (fun x6_529 hx6_529 => ?_)
              exact ih _ _ _ _ _ _ (bx_getx hB (r := 8) (a := 0) (b := 9) (l := 0) (h := 100) (by decide) (rg_w (rg_lt (nle c_519) r_v6 (show rg (10 : Int32) (10) (10) from ⟨by decide, by decide⟩)) (by decide) (by decide))) (rg_w (rg_eq hx6_529 (rg_add (l := 1) (h := 10) (rg_lt (nle c_519) r_v6 (show rg (10 : Int32) (10) (10) from ⟨by decide, by decide⟩)) (show rg (1 : Int32) (1) (1) from ⟨by decide, by decide⟩) (by decide) (by decide) (by decide) (by decide))) (by decide) (by decide)) (ms_s hx6_529 (rg_lt (nle c_519) r_v6 (show rg (10 : Int32) (10) (10) from ⟨by decide, by decide⟩)) (by decide) (by decide) hm) hB
        · unfold F_X0_added_81
          refine ok_gd (rg_inb (rg_lt (nle c_519) r_v6 (show rg (10 : Int32) (10) (10) from ⟨by decide, by decide⟩)) (by decide) (by decide)) ?_
          refine ok_nm (fun x6_530 hx6_530 => ?_)
          exact ih _ _ _ _ _ _ (bx_getx hB (r := 8) (a := 0) (b := 9) (l := 0) (h := 100) (by decide) (rg_w (rg_lt (nle c_519) r_v6 (show rg (10 : Int32) (10) (10) from ⟨by decide, by decide⟩)) (by decide) (by decide))) (rg_w (rg_eq hx6_530 (rg_add (l := 1) (h := 10) (rg_lt (nle c_519) r_v6 (show rg (10 : Int32) (10) (10) from ⟨by decide, by decide⟩)) (show rg (1 : Int32) (1) (1) from ⟨by decide, by decide⟩) (by decide) (by decide) (by decide) (by decide))) (by decide) (by decide)) (ms_s hx6_530 (rg_lt (nle c_519) r_v6 (show rg (10 : Int32) (10) (10) from ⟨by decide, by decide⟩)) (by decide) (by decide) hm) hB

set_option maxHeartbeats 4000000 in
set_option maxRecDepth 100000 in
theorem s_X0_added {m : Int} {N : Nat} {K len : Nat → Nat} {a1 : Int32} {qa : Nat} {qn : Nat} {a3 : Int32} {σ : SG} {ρ : RG} (h_qn : qn < 2147483648) (hB : BX m σ) (hQ : PR N K len ρ) : ok (F_X0_added a1 qa qn a3 σ ρ) (fun q => rg q (-2147483648) (2147483647)) := by
  unfold F_X0_added
  exact (s_X0_added_9 h_qn hQ 1024 _ _ _ _ _ _ (rg_w (show rg (0 : Int32) (0) (0) from ⟨by decide, by decide⟩) (by decide) (by decide)) (rg_w (show rg (0 : Int32) (0) (0) from ⟨by decide, by decide⟩) (by decide) (by decide)) (ms_0 (show rg (0 : Int32) (0) (0) from ⟨by decide, by decide⟩) (by decide)) hB)

set_option maxHeartbeats 4000000 in
set_option maxRecDepth 100000 in
theorem s_X0_isDigit {m : Int} {N : Nat} {K len : Nat → Nat} {a1 : Int32} {σ : SG} {ρ : RG} (hB : BX m σ) (hQ : PR N K len ρ) : ok (F_X0_isDigit a1 σ ρ) (fun q => rg q (0) (1)) := by
  unfold F_X0_isDigit
  refine ok_if (fun c_533 => ?_) (fun c_533 => ?_)
  · exact ok_some (rg_w (show rg (0 : Int32) (0) (0) from ⟨by decide, by decide⟩) (by decide) (by decide))
  · refine ok_if (fun c_534 => ?_) (fun c_534 => ?_)
    · exact ok_some (rg_w (show rg (0 : Int32) (0) (0) from ⟨by decide, by decide⟩) (by decide) (by decide))
    · exact ok_some (rg_w (show rg (1 : Int32) (1) (1) from ⟨by decide, by decide⟩) (by decide) (by decide))

set_option maxHeartbeats 4000000 in
set_option maxRecDepth 100000 in
theorem s_X3_held {m : Int} {N : Nat} {K len : Nat → Nat} {a1 : Int32} {σ : SG} {ρ : RG} (hB : BX m σ) (hQ : PR N K len ρ) : ok (F_X3_held a1 σ ρ) (fun q => rg q (-2147483648) (2147483647)) := by
  unfold F_X3_held
  refine ok_nm (fun x1_537 hx1_537 => ?_)
  refine ok_nm (fun x2_538 hx2_538 => ?_)
  exact ok_some (rg_any _)

set_option maxHeartbeats 4000000 in
set_option maxRecDepth 100000 in
theorem s_X3_noteStart {m : Int} {N : Nat} {K len : Nat → Nat} {i : Nat} {z : Nat} {a2 : Int32} {σ : SG} {ρ : RG} (l_i : isLb i = true) (k_z : CK N K len ρ z) (hB : BX m σ) (hQ : PR N K len ρ) : ok (F_X3_noteStart N K len i z a2 σ ρ) (fun q => BX m q) := by
  unfold F_X3_noteStart
  refine ok_nm (fun σ2_549 hσ2_549 => ?_)
  have bσ2_549 : BX m σ2_549 := by rw [hσ2_549]; exact bx_lf1 hB l_i
  refine ok_bn (s_v_kind k_z bσ2_549 hQ) (fun r3_550 qr3_550 => ?_)
  refine ok_nm (fun σ5_551 hσ5_551 => ?_)
  have bσ5_551 : BX m σ5_551 := by rw [hσ5_551]; exact bx_lf1 bσ2_549 l_i
  refine ok_nm (fun σ7_552 hσ7_552 => ?_)
  have bσ7_552 : BX m σ7_552 := by rw [hσ7_552]; exact bx_lf1 bσ5_551 l_i
  refine ok_nm (fun x8_553 hx8_553 => ?_)
  refine ok_nm (fun σ10_554 hσ10_554 => ?_)
  have bσ10_554 : BX m σ10_554 := by rw [hσ10_554]; exact bx_lf1 bσ7_552 l_i
  refine ok_nm (fun x11_555 hx11_555 => ?_)
  refine ok_nm (fun σ13_556 hσ13_556 => ?_)
  have bσ13_556 : BX m σ13_556 := by rw [hσ13_556]; exact bx_lf1 bσ10_554 l_i
  refine ok_nm (fun x14_557 hx14_557 => ?_)
  refine ok_nm (fun σ16_558 hσ16_558 => ?_)
  have bσ16_558 : BX m σ16_558 := by rw [hσ16_558]; exact bx_lf1 bσ13_556 l_i
  exact ok_some bσ16_558

set_option maxHeartbeats 4000000 in
set_option maxRecDepth 100000 in
theorem s_X3_weigh_8 {m : Int} {N : Nat} {K len : Nat → Nat} {i : Nat} {a1 : Int32} {a2 : Int32} {a3 : Int32} {ρ : RG} (l_i : isLb i = true) (hQ : PR N K len ρ) : ∀ (n : Nat) (σ : SG) (v1 : Int32) (v2 : Int32) (v3 : Int32) (v4 : Int32), rg v4 (0) (4) → (4 : Int) - v4.toInt < (n : Int) → BX m σ → ok (F_X3_weigh_8 i a1 a2 a3 n σ ρ v1 v2 v3 v4) (fun q => BX m q) := by
  intro n
  induction n with
  | zero => intro σ v1 v2 v3 v4 r_v4 hm hB; exact (ms_z r_v4 (by decide) hm).elim
  | succ n ih =>
    intro σ v1 v2 v3 v4 r_v4 hm hB
    unfold F_X3_weigh_8
    refine ok_if (fun c_582 => ?_) (fun c_582 => ?_)
    · exact ok_some hB
    · refine ok_bn (s_X3_acrossAt hB hQ) (fun r4_583 qr4_583 => ?_)
      refine ok_nm (fun x5_584 hx5_584 => ?_)
      refine ok_nm (fun x6_585 hx6_585 => ?_)
      refine ok_nm (fun x7_586 hx7_586 => ?_)
      refine ok_nm (fun σ9_587 hσ9_587 => ?_)
      have bσ9_587 : BX m σ9_587 := by rw [hσ9_587]; exact bx_lf hB l_i
      refine ok_if (fun c_588 => ?_) (fun c_588 => ?_)
      · unfold F_X3_weigh_60
        refine ok_nm (fun σ13_589 hσ13_589 => ?_)
        have bσ13_589 : BX m σ13_589 := by rw [hσ13_589]; exact bx_lf bσ9_587 l_i
        refine ok_if (fun c_590 => ?_) (fun c_590 => ?_)
        · unfold F_X3_weigh_83
          refine ok_nm (fun σ17_591 hσ17_591 => ?_)
          have bσ17_591 : BX m σ17_591 := by rw [hσ17_591]; exact bx_lf bσ13_589 l_i
          refine ok_nm (fun x18_592 hx18_592 => ?_)
          exact ih _ _ _ _ _ (rg_w (rg_eq hx18_592 (rg_add (l := 1) (h := 1) (rg_eql c_588 (show rg (0 : Int32) (0) (0) from ⟨by decide, by decide⟩)) (show rg (1 : Int32) (1) (1) from ⟨by decide, by decide⟩) (by decide) (by decide) (by decide) (by decide))) (by decide) (by decide)) (ms_s hx18_592 (rg_eql c_588 (show rg (0 : Int32) (0) (0) from ⟨by decide, by decide⟩)) (by decide) (by decide) hm) bσ17_591
        · refine ok_nm (fun x15_593 hx15_593 => ?_)
          unfold F_X3_weigh_83
          refine ok_nm (fun σ17_594 hσ17_594 => ?_)
          have bσ17_594 : BX m σ17_594 := by rw [hσ17_594]; exact bx_lf bσ13_589 l_i
          refine ok_nm (fun x18_595 hx18_595 => ?_)
          exact ih _ _ _ _ _ (rg_w (rg_eq hx18_595 (rg_add (l := 2) (h := 0) (rg_neh c_590 (rg_nel c_590 (rg_eql c_588 (show rg (0 : Int32) (0) (0) from ⟨by decide, by decide⟩)) (show rg (0 : Int32) (0) (0) from ⟨by decide, by decide⟩) rfl) (show rg (0 : Int32) (0) (0) from ⟨by decide, by decide⟩) rfl) (show rg (1 : Int32) (1) (1) from ⟨by decide, by decide⟩) (by decide) (by decide) (by decide) (by decide))) (by decide) (by decide)) (ms_s hx18_595 (rg_neh c_590 (rg_nel c_590 (rg_eql c_588 (show rg (0 : Int32) (0) (0) from ⟨by decide, by decide⟩)) (show rg (0 : Int32) (0) (0) from ⟨by decide, by decide⟩) rfl) (show rg (0 : Int32) (0) (0) from ⟨by decide, by decide⟩) rfl) (by decide) (by decide) hm) bσ17_594
      · refine ok_nm (fun x11_596 hx11_596 => ?_)
        unfold F_X3_weigh_60
        refine ok_nm (fun σ13_597 hσ13_597 => ?_)
        have bσ13_597 : BX m σ13_597 := by rw [hσ13_597]; exact bx_lf bσ9_587 l_i
        refine ok_if (fun c_598 => ?_) (fun c_598 => ?_)
        · unfold F_X3_weigh_83
          refine ok_nm (fun σ17_599 hσ17_599 => ?_)
          have bσ17_599 : BX m σ17_599 := by rw [hσ17_599]; exact bx_lf bσ13_597 l_i
          refine ok_nm (fun x18_600 hx18_600 => ?_)
          exact ih _ _ _ _ _ (rg_w (rg_eq hx18_600 (rg_add (l := 2) (h := 4) (rg_nel c_588 (rg_lt (nle c_582) r_v4 (show rg (4 : Int32) (4) (4) from ⟨by decide, by decide⟩)) (show rg (0 : Int32) (0) (0) from ⟨by decide, by decide⟩) rfl) (show rg (1 : Int32) (1) (1) from ⟨by decide, by decide⟩) (by decide) (by decide) (by decide) (by decide))) (by decide) (by decide)) (ms_s hx18_600 (rg_nel c_588 (rg_lt (nle c_582) r_v4 (show rg (4 : Int32) (4) (4) from ⟨by decide, by decide⟩)) (show rg (0 : Int32) (0) (0) from ⟨by decide, by decide⟩) rfl) (by decide) (by decide) hm) bσ17_599
        · refine ok_nm (fun x15_601 hx15_601 => ?_)
          unfold F_X3_weigh_83
          refine ok_nm (fun σ17_602 hσ17_602 => ?_)
          have bσ17_602 : BX m σ17_602 := by rw [hσ17_602]; exact bx_lf bσ13_597 l_i
          refine ok_nm (fun x18_603 hx18_603 => ?_)
          exact ih _ _ _ _ _ (rg_w (rg_eq hx18_603 (rg_add (l := 2) (h := 4) (rg_nel c_588 (rg_lt (nle c_582) r_v4 (show rg (4 : Int32) (4) (4) from ⟨by decide, by decide⟩)) (show rg (0 : Int32) (0) (0) from ⟨by decide, by decide⟩) rfl) (show rg (1 : Int32) (1) (1) from ⟨by decide, by decide⟩) (by decide) (by decide) (by decide) (by decide))) (by decide) (by decide)) (ms_s hx18_603 (rg_nel c_588 (rg_lt (nle c_582) r_v4 (show rg (4 : Int32) (4) (4) from ⟨by decide, by decide⟩)) (show rg (0 : Int32) (0) (0) from ⟨by decide, by decide⟩) rfl) (by decide) (by decide) hm) bσ17_602

set_option maxHeartbeats 4000000 in
set_option maxRecDepth 100000 in
theorem s_X3_weigh {m : Int} {N : Nat} {K len : Nat → Nat} {i : Nat} {a1 : Int32} {a2 : Int32} {a3 : Int32} {σ : SG} {ρ : RG} (l_i : isLb i = true) (hB : BX m σ) (hQ : PR N K len ρ) : ok (F_X3_weigh i a1 a2 a3 σ ρ) (fun q => BX m q) := by
  unfold F_X3_weigh
  refine ok_nm (fun σ2_604 hσ2_604 => ?_)
  have bσ2_604 : BX m σ2_604 := by rw [hσ2_604]; exact bx_lf hB l_i
  exact (s_X3_weigh_8 l_i hQ 1024 _ _ _ _ _ (rg_w (show rg (0 : Int32) (0) (0) from ⟨by decide, by decide⟩) (by decide) (by decide)) (ms_0 (show rg (0 : Int32) (0) (0) from ⟨by decide, by decide⟩) (by decide)) bσ2_604)

set_option maxHeartbeats 4000000 in
set_option maxRecDepth 100000 in
theorem s_X3_tryCut {m : Int} {N : Nat} {K len : Nat → Nat} {i : Nat} {z : Nat} {a2 : Int32} {a4 : Int32} {a5 : Int32} {σ : SG} {ρ : RG} (l_i : isLb i = true) (k_z : CK N K len ρ z) (hB : BX m σ) (hQ : PR N K len ρ) : ok (F_X3_tryCut N K len i z a2 a4 a5 σ ρ) (fun q => rg q.1 (0) (1) ∧ BX m q.2) := by
  unfold F_X3_tryCut
  refine ok_bn (s_X3_noteStart l_i k_z hB hQ) (fun σ1_705 qσ1_705 => ?_)
  refine ok_bn (s_X0_added (by decide) qσ1_705 hQ) (fun r2_706 qr2_706 => ?_)
  refine ok_bn (s_X0_added (by decide) qσ1_705 hQ) (fun r3_707 qr3_707 => ?_)
  refine ok_bn (s_v_prepare k_z l_i qσ1_705 hQ) (fun σ4_708 qσ4_708 => ?_)
  refine ok_if (fun c_709 => ?_) (fun c_709 => ?_)
  · unfold F_X3_tryCut_80
    refine ok_gd k_z.1 ?_
    refine ok_gd k_z.1 ?_
    refine ok_bn (s_v_upBy k_z l_i qσ4_708 hQ) (fun r6_710 qr6_710 => ?_)
    refine ok_nm (fun x7_711 hx7_711 => ?_)
    refine ok_bn (s_X3_held qσ4_708 hQ) (fun r8_712 qr8_712 => ?_)
    refine ok_if (fun c_713 => ?_) (fun c_713 => ?_)
    · unfold F_X3_tryCut_111
      refine ok_gd k_z.1 ?_
      refine ok_bn (s_v_sideBy k_z l_i qσ4_708 hQ) (fun r10_714 qr10_714 => ?_)
      refine ok_nm (fun x11_715 hx11_715 => ?_)
      refine ok_bn (s_X3_held qσ4_708 hQ) (fun r12_716 qr12_716 => ?_)
      refine ok_nm (fun x13_717 hx13_717 => ?_)
      refine ok_nm (fun x14_718 hx14_718 => ?_)
      refine ok_bn (s_X3_weigh l_i qσ4_708 hQ) (fun σ15_719 qσ15_719 => ?_)
      refine ok_nm (fun x16_720 hx16_720 => ?_)
      refine ok_nm (fun σ18_721 hσ18_721 => ?_)
      have bσ18_721 : BX m σ18_721 := by rw [hσ18_721]; exact bx_lf qσ15_719 l_i
      refine ok_nm (fun σ20_722 hσ20_722 => ?_)
      have bσ20_722 : BX m σ20_722 := by rw [hσ20_722]; exact bx_lf bσ18_721 l_i
      refine ok_nm (fun σ22_723 hσ22_723 => ?_)
      have bσ22_723 : BX m σ22_723 := by rw [hσ22_723]; exact bx_lf bσ20_722 l_i
      refine ok_if (fun c_724 => ?_) (fun c_724 => ?_)
      · refine ok_bn (s_X3_leastCorner l_i bσ22_723 hQ) (fun r27_725 qr27_725 => ?_)
        refine ok_if (fun c_726 => ?_) (fun c_726 => ?_)
        · refine ok_nm (fun σ30_727 hσ30_727 => ?_)
          have bσ30_727 : BX m σ30_727 := by rw [hσ30_727]; exact bx_lf bσ22_723 l_i
          refine ok_nm (fun σ32_728 hσ32_728 => ?_)
          have bσ32_728 : BX m σ32_728 := by rw [hσ32_728]; exact bx_lf bσ30_727 l_i
          refine ok_nm (fun σ34_729 hσ34_729 => ?_)
          have bσ34_729 : BX m σ34_729 := by rw [hσ34_729]; exact bx_lf bσ32_728 l_i
          refine ok_nm (fun σ36_730 hσ36_730 => ?_)
          have bσ36_730 : BX m σ36_730 := by rw [hσ36_730]; exact bx_lf bσ34_729 l_i
          exact ok_some ⟨(rg_w (show rg (0 : Int32) (0) (0) from ⟨by decide, by decide⟩) (by decide) (by decide)), bσ36_730⟩
        · unfold F_X3_tryCut_180
          refine ok_nm (fun x24_731 hx24_731 => ?_)
          refine ok_nm (fun σ26_732 hσ26_732 => ?_)
          have bσ26_732 : BX m σ26_732 := by rw [hσ26_732]; exact bx_lf bσ22_723 l_i
          exact ok_some ⟨(rg_w (show rg (1 : Int32) (1) (1) from ⟨by decide, by decide⟩) (by decide) (by decide)), bσ26_732⟩
      · unfold F_X3_tryCut_180
        refine ok_nm (fun x24_733 hx24_733 => ?_)
        refine ok_nm (fun σ26_734 hσ26_734 => ?_)
        have bσ26_734 : BX m σ26_734 := by rw [hσ26_734]; exact bx_lf bσ22_723 l_i
        exact ok_some ⟨(rg_w (show rg (1 : Int32) (1) (1) from ⟨by decide, by decide⟩) (by decide) (by decide)), bσ26_734⟩
    · refine ok_nm (fun x37_735 hx37_735 => ?_)
      unfold F_X3_tryCut_111
      refine ok_gd k_z.1 ?_
      refine ok_bn (s_v_sideBy k_z l_i qσ4_708 hQ) (fun r10_736 qr10_736 => ?_)
      refine ok_nm (fun x11_737 hx11_737 => ?_)
      refine ok_bn (s_X3_held qσ4_708 hQ) (fun r12_738 qr12_738 => ?_)
      refine ok_nm (fun x13_739 hx13_739 => ?_)
      refine ok_nm (fun x14_740 hx14_740 => ?_)
      refine ok_bn (s_X3_weigh l_i qσ4_708 hQ) (fun σ15_741 qσ15_741 => ?_)
      refine ok_nm (fun x16_742 hx16_742 => ?_)
      refine ok_nm (fun σ18_743 hσ18_743 => ?_)
      have bσ18_743 : BX m σ18_743 := by rw [hσ18_743]; exact bx_lf qσ15_741 l_i
      refine ok_nm (fun σ20_744 hσ20_744 => ?_)
      have bσ20_744 : BX m σ20_744 := by rw [hσ20_744]; exact bx_lf bσ18_743 l_i
      refine ok_nm (fun σ22_745 hσ22_745 => ?_)
      have bσ22_745 : BX m σ22_745 := by rw [hσ22_745]; exact bx_lf bσ20_744 l_i
      refine ok_if (fun c_746 => ?_) (fun c_746 => ?_)
      · refine ok_bn (s_X3_leastCorner l_i bσ22_745 hQ) (fun r27_747 qr27_747 => ?_)
        refine ok_if (fun c_748 => ?_) (fun c_748 => ?_)
        · refine ok_nm (fun σ30_749 hσ30_749 => ?_)
          have bσ30_749 : BX m σ30_749 := by rw [hσ30_749]; exact bx_lf bσ22_745 l_i
          refine ok_nm (fun σ32_750 hσ32_750 => ?_)
          have bσ32_750 : BX m σ32_750 := by rw [hσ32_750]; exact bx_lf bσ30_749 l_i
          refine ok_nm (fun σ34_751 hσ34_751 => ?_)
          have bσ34_751 : BX m σ34_751 := by rw [hσ34_751]; exact bx_lf bσ32_750 l_i
          refine ok_nm (fun σ36_752 hσ36_752 => ?_)
          have bσ36_752 : BX m σ36_752 := by rw [hσ36_752]; exact bx_lf bσ34_751 l_i
          exact ok_some ⟨(rg_w (rg_eqr c_709 (rg_neh c_713 (rg_nel c_713 (rg_eql c_709 (show rg (0 : Int32) (0) (0) from ⟨by decide, by decide⟩)) (show rg (0 : Int32) (0) (0) from ⟨by decide, by decide⟩) rfl) (show rg (0 : Int32) (0) (0) from ⟨by decide, by decide⟩) rfl)) (by decide) (by decide)), bσ36_752⟩
        · unfold F_X3_tryCut_180
          refine ok_nm (fun x24_753 hx24_753 => ?_)
          refine ok_nm (fun σ26_754 hσ26_754 => ?_)
          have bσ26_754 : BX m σ26_754 := by rw [hσ26_754]; exact bx_lf bσ22_745 l_i
          exact ok_some ⟨(rg_w (show rg (1 : Int32) (1) (1) from ⟨by decide, by decide⟩) (by decide) (by decide)), bσ26_754⟩
      · unfold F_X3_tryCut_180
        refine ok_nm (fun x24_755 hx24_755 => ?_)
        refine ok_nm (fun σ26_756 hσ26_756 => ?_)
        have bσ26_756 : BX m σ26_756 := by rw [hσ26_756]; exact bx_lf bσ22_745 l_i
        exact ok_some ⟨(rg_w (show rg (1 : Int32) (1) (1) from ⟨by decide, by decide⟩) (by decide) (by decide)), bσ26_756⟩
  · refine ok_nm (fun x38_757 hx38_757 => ?_)
    unfold F_X3_tryCut_80
    refine ok_gd k_z.1 ?_
    refine ok_gd k_z.1 ?_
    refine ok_bn (s_v_upBy k_z l_i qσ4_708 hQ) (fun r6_758 qr6_758 => ?_)
    refine ok_nm (fun x7_759 hx7_759 => ?_)
    refine ok_bn (s_X3_held qσ4_708 hQ) (fun r8_760 qr8_760 => ?_)
    refine ok_if (fun c_761 => ?_) (fun c_761 => ?_)
    · unfold F_X3_tryCut_111
      refine ok_gd k_z.1 ?_
      refine ok_bn (s_v_sideBy k_z l_i qσ4_708 hQ) (fun r10_762 qr10_762 => ?_)
      refine ok_nm (fun x11_763 hx11_763 => ?_)
      refine ok_bn (s_X3_held qσ4_708 hQ) (fun r12_764 qr12_764 => ?_)
      refine ok_nm (fun x13_765 hx13_765 => ?_)
      refine ok_nm (fun x14_766 hx14_766 => ?_)
      refine ok_bn (s_X3_weigh l_i qσ4_708 hQ) (fun σ15_767 qσ15_767 => ?_)
      refine ok_nm (fun x16_768 hx16_768 => ?_)
      refine ok_nm (fun σ18_769 hσ18_769 => ?_)
      have bσ18_769 : BX m σ18_769 := by rw [hσ18_769]; exact bx_lf qσ15_767 l_i
      refine ok_nm (fun σ20_770 hσ20_770 => ?_)
      have bσ20_770 : BX m σ20_770 := by rw [hσ20_770]; exact bx_lf bσ18_769 l_i
      refine ok_nm (fun σ22_771 hσ22_771 => ?_)
      have bσ22_771 : BX m σ22_771 := by rw [hσ22_771]; exact bx_lf bσ20_770 l_i
      refine ok_if (fun c_772 => ?_) (fun c_772 => ?_)
      · refine ok_bn (s_X3_leastCorner l_i bσ22_771 hQ) (fun r27_773 qr27_773 => ?_)
        refine ok_if (fun c_774 => ?_) (fun c_774 => ?_)
        · refine ok_nm (fun σ30_775 hσ30_775 => ?_)
          have bσ30_775 : BX m σ30_775 := by rw [hσ30_775]; exact bx_lf bσ22_771 l_i
          refine ok_nm (fun σ32_776 hσ32_776 => ?_)
          have bσ32_776 : BX m σ32_776 := by rw [hσ32_776]; exact bx_lf bσ30_775 l_i
          refine ok_nm (fun σ34_777 hσ34_777 => ?_)
          have bσ34_777 : BX m σ34_777 := by rw [hσ34_777]; exact bx_lf bσ32_776 l_i
          refine ok_nm (fun σ36_778 hσ36_778 => ?_)
          have bσ36_778 : BX m σ36_778 := by rw [hσ36_778]; exact bx_lf bσ34_777 l_i
          exact ok_some ⟨(rg_w (rg_eqr c_761 (rg_nel c_709 (rg_eql c_761 (show rg (0 : Int32) (0) (0) from ⟨by decide, by decide⟩)) (show rg (0 : Int32) (0) (0) from ⟨by decide, by decide⟩) rfl)) (by decide) (by decide)), bσ36_778⟩
        · unfold F_X3_tryCut_180
          refine ok_nm (fun x24_779 hx24_779 => ?_)
          refine ok_nm (fun σ26_780 hσ26_780 => ?_)
          have bσ26_780 : BX m σ26_780 := by rw [hσ26_780]; exact bx_lf bσ22_771 l_i
          exact ok_some ⟨(rg_w (show rg (1 : Int32) (1) (1) from ⟨by decide, by decide⟩) (by decide) (by decide)), bσ26_780⟩
      · unfold F_X3_tryCut_180
        refine ok_nm (fun x24_781 hx24_781 => ?_)
        refine ok_nm (fun σ26_782 hσ26_782 => ?_)
        have bσ26_782 : BX m σ26_782 := by rw [hσ26_782]; exact bx_lf bσ22_771 l_i
        exact ok_some ⟨(rg_w (show rg (1 : Int32) (1) (1) from ⟨by decide, by decide⟩) (by decide) (by decide)), bσ26_782⟩
    · refine ok_nm (fun x37_783 hx37_783 => ?_)
      unfold F_X3_tryCut_111
      refine ok_gd k_z.1 ?_
      refine ok_bn (s_v_sideBy k_z l_i qσ4_708 hQ) (fun r10_784 qr10_784 => ?_)
      refine ok_nm (fun x11_785 hx11_785 => ?_)
      refine ok_bn (s_X3_held qσ4_708 hQ) (fun r12_786 qr12_786 => ?_)
      refine ok_nm (fun x13_787 hx13_787 => ?_)
      refine ok_nm (fun x14_788 hx14_788 => ?_)
      refine ok_bn (s_X3_weigh l_i qσ4_708 hQ) (fun σ15_789 qσ15_789 => ?_)
      refine ok_nm (fun x16_790 hx16_790 => ?_)
      refine ok_nm (fun σ18_791 hσ18_791 => ?_)
      have bσ18_791 : BX m σ18_791 := by rw [hσ18_791]; exact bx_lf qσ15_789 l_i
      refine ok_nm (fun σ20_792 hσ20_792 => ?_)
      have bσ20_792 : BX m σ20_792 := by rw [hσ20_792]; exact bx_lf bσ18_791 l_i
      refine ok_nm (fun σ22_793 hσ22_793 => ?_)
      have bσ22_793 : BX m σ22_793 := by rw [hσ22_793]; exact bx_lf bσ20_792 l_i
      refine ok_if (fun c_794 => ?_) (fun c_794 => ?_)
      · refine ok_bn (s_X3_leastCorner l_i bσ22_793 hQ) (fun r27_795 qr27_795 => ?_)
        refine ok_if (fun c_796 => ?_) (fun c_796 => ?_)
        · refine ok_nm (fun σ30_797 hσ30_797 => ?_)
          have bσ30_797 : BX m σ30_797 := by rw [hσ30_797]; exact bx_lf bσ22_793 l_i
          refine ok_nm (fun σ32_798 hσ32_798 => ?_)
          have bσ32_798 : BX m σ32_798 := by rw [hσ32_798]; exact bx_lf bσ30_797 l_i
          refine ok_nm (fun σ34_799 hσ34_799 => ?_)
          have bσ34_799 : BX m σ34_799 := by rw [hσ34_799]; exact bx_lf bσ32_798 l_i
          refine ok_nm (fun σ36_800 hσ36_800 => ?_)
          have bσ36_800 : BX m σ36_800 := by rw [hσ36_800]; exact bx_lf bσ34_799 l_i
          exact ok_some ⟨(rg_w (show rg (0 : Int32) (0) (0) from ⟨by decide, by decide⟩) (by decide) (by decide)), bσ36_800⟩
        · unfold F_X3_tryCut_180
          refine ok_nm (fun x24_801 hx24_801 => ?_)
          refine ok_nm (fun σ26_802 hσ26_802 => ?_)
          have bσ26_802 : BX m σ26_802 := by rw [hσ26_802]; exact bx_lf bσ22_793 l_i
          exact ok_some ⟨(rg_w (show rg (1 : Int32) (1) (1) from ⟨by decide, by decide⟩) (by decide) (by decide)), bσ26_802⟩
      · unfold F_X3_tryCut_180
        refine ok_nm (fun x24_803 hx24_803 => ?_)
        refine ok_nm (fun σ26_804 hσ26_804 => ?_)
        have bσ26_804 : BX m σ26_804 := by rw [hσ26_804]; exact bx_lf bσ22_793 l_i
        exact ok_some ⟨(rg_w (show rg (1 : Int32) (1) (1) from ⟨by decide, by decide⟩) (by decide) (by decide)), bσ26_804⟩

set_option maxHeartbeats 4000000 in
set_option maxRecDepth 100000 in
theorem s_X11_of {m : Int} {N : Nat} {K len : Nat → Nat} {a1 : Int32} {a2 : Int32} {σ : SG} {ρ : RG} (hB : BX m σ) (hQ : PR N K len ρ) : ok (F_X11_of N K len a1 a2 σ ρ) (fun q => rg q (-2147483648) (2147483647)) := by
  unfold F_X11_of
  refine ok_bn (s_X8_cutterAt_1 hB hQ) (fun o1_815 qo1_815 => ?_)
  refine ok_oc (fun o_816 => ?_) (fun c2_817 o_816 => ?_)
  · exact ok_some (rg_w (show rg (-10001 : Int32) (-10001) (-10001) from ⟨by decide, by decide⟩) (by decide) (by decide))
  · refine ok_gd (qo1_815 _ o_816).1 ?_
    refine ok_if (fun c_818 => ?_) (fun c_818 => ?_)
    · refine ok_bn (s_v_kind (qo1_815 _ o_816) hB hQ) (fun r4_819 qr4_819 => ?_)
      exact ok_some (rg_w qr4_819 (by decide) (by decide))
    · refine ok_if (fun c_820 => ?_) (fun c_820 => ?_)
      · exact ok_some (rg_any _)
      · refine ok_if (fun c_821 => ?_) (fun c_821 => ?_)
        · exact ok_some (rg_any _)
        · refine ok_if (fun c_822 => ?_) (fun c_822 => ?_)
          · exact ok_some (rg_any _)
          · refine ok_if (fun c_823 => ?_) (fun c_823 => ?_)
            · exact ok_some (rg_any _)
            · refine ok_if (fun c_824 => ?_) (fun c_824 => ?_)
              · exact ok_some (rg_any _)
              · exact ok_some (rg_w (show rg (-10001 : Int32) (-10001) (-10001) from ⟨by decide, by decide⟩) (by decide) (by decide))

set_option maxHeartbeats 4000000 in
set_option maxRecDepth 100000 in
theorem s_X11_thick {m : Int} {N : Nat} {K len : Nat → Nat} {a1 : Int32} {a2 : Int32} {σ : SG} {ρ : RG} (hB : BX m σ) (hQ : PR N K len ρ) : ok (F_X11_thick N K len a1 a2 σ ρ) (fun q => rg q.1 (-2147483648) (2147483647) ∧ BX m q.2) := by
  unfold F_X11_thick
  refine ok_bn (s_X8_cutterAt_1 hB hQ) (fun o1_833 qo1_833 => ?_)
  refine ok_oc (fun o_834 => ?_) (fun c2_835 o_834 => ?_)
  · exact ok_some ⟨(rg_w (show rg (-1 : Int32) (-1) (-1) from ⟨by decide, by decide⟩) (by decide) (by decide)), hB⟩
  · refine ok_gd (qo1_833 _ o_834).1 ?_
    refine ok_bn (s_X11_isThick) (fun r3_836 qr3_836 => ?_)
    refine ok_if (fun c_837 => ?_) (fun c_837 => ?_)
    · exact ok_some ⟨(rg_w (show rg (-2 : Int32) (-2) (-2) from ⟨by decide, by decide⟩) (by decide) (by decide)), hB⟩
    · obtain ⟨w_838, w_839⟩ := qr3_836.2 c_837
      refine ok_nm (fun σ5_840 hσ5_840 => ?_)
      have bσ5_840 : BX m σ5_840 := by rw [hσ5_840]; exact bx_65 hB (ck_65 hQ.1 (qo1_833 _ o_834).1)
      exact ok_some ⟨(rg_any _), bσ5_840⟩

set_option maxHeartbeats 4000000 in
set_option maxRecDepth 100000 in
theorem s_X11_row {m : Int} {N : Nat} {K len : Nat → Nat} {a1 : Int32} {a2 : Int32} {a3 : Int32} {σ : SG} {ρ : RG} (hB : BX m σ) (hQ : PR N K len ρ) : ok (F_X11_row N K len a1 a2 a3 σ ρ) (fun q => rg q.1 (-2147483648) (2147483647) ∧ BX m q.2) := by
  unfold F_X11_row
  refine ok_bn (s_X8_cutterAt_1 hB hQ) (fun o1_858 qo1_858 => ?_)
  refine ok_oc (fun o_859 => ?_) (fun c2_860 o_859 => ?_)
  · exact ok_some ⟨(rg_w (show rg (-1 : Int32) (-1) (-1) from ⟨by decide, by decide⟩) (by decide) (by decide)), hB⟩
  · refine ok_gd (qo1_858 _ o_859).1 ?_
    refine ok_bn (s_X11_isWithin) (fun r3_861 qr3_861 => ?_)
    refine ok_if (fun c_862 => ?_) (fun c_862 => ?_)
    · exact ok_some ⟨(rg_w (show rg (-1 : Int32) (-1) (-1) from ⟨by decide, by decide⟩) (by decide) (by decide)), hB⟩
    · obtain ⟨w_863, w_864⟩ := qr3_861.2 c_862
      refine ok_bn (s_X11_isWithin) (fun r5_865 qr5_865 => ?_)
      refine ok_if (fun c_866 => ?_) (fun c_866 => ?_)
      · exact ok_some ⟨(rg_w (show rg (-2 : Int32) (-2) (-2) from ⟨by decide, by decide⟩) (by decide) (by decide)), hB⟩
      · obtain ⟨w_867, w_868⟩ := qr5_865.2 c_866
        refine ok_if (fun c_869 => ?_) (fun c_869 => ?_)
        · exact ok_some ⟨(rg_w (show rg (-3 : Int32) (-3) (-3) from ⟨by decide, by decide⟩) (by decide) (by decide)), hB⟩
        · refine ok_gd (beq_iff_eq.mpr (io9_k c_869)) ?_
          refine ok_gd (beq_iff_eq.mpr (io9_k c_869)) ?_
          refine ok_oc (fun o_870 => ?_) (fun c10_871 o_870 => ?_)
          · exact (ck_dn (qo1_858 _ o_859) (io9_k c_869) o_870).elim
          · refine ok_gd (ck_d (qo1_858 _ o_859) (io9_k c_869) o_870).1 ?_
            refine ok_gd (rg_inb (rg_le w_864 (rg_ge w_863 (show rg (0 : Int32) (0) (0) from ⟨by decide, by decide⟩) (rg_any _)) (show rg (3 : Int32) (3) (3) from ⟨by decide, by decide⟩)) (by decide) (by decide)) ?_
            refine ok_gd (beq_iff_eq.mpr (io9_k c_869)) ?_
            refine ok_oc (fun o_872 => ?_) (fun c13_873 o_872 => ?_)
            · exact (ck_dn (qo1_858 _ o_859) (io9_k c_869) o_872).elim
            · refine ok_gd (ck_d (qo1_858 _ o_859) (io9_k c_869) o_872).1 ?_
              refine ok_gd (rg_inb (rg_le w_864 (rg_ge w_863 (show rg (0 : Int32) (0) (0) from ⟨by decide, by decide⟩) (rg_any _)) (show rg (3 : Int32) (3) (3) from ⟨by decide, by decide⟩)) (by decide) (by decide)) ?_
              refine ok_nm (fun σ16_874 hσ16_874 => ?_)
              have bσ16_874 : BX m σ16_874 := by rw [hσ16_874]; exact bx_65 hB (ck_d (qo1_858 _ o_859) (io9_k c_869) o_872).2
              exact ok_some ⟨(rg_any _), bσ16_874⟩

set_option maxHeartbeats 4000000 in
set_option maxRecDepth 100000 in
theorem s_X11_cut {m : Int} {N : Nat} {K len : Nat → Nat} {a1 : Int32} {σ : SG} {ρ : RG} (hB : BX m σ) (hQ : PR N K len ρ) : ok (F_X11_cut N K len a1 σ ρ) (fun q => rg q.1 (-2147483648) (2147483647) ∧ BX m q.2) := by
  unfold F_X11_cut
  refine ok_bn (s_X8_cutterAt_1 hB hQ) (fun o1_884 qo1_884 => ?_)
  refine ok_oc (fun o_885 => ?_) (fun c2_886 o_885 => ?_)
  · exact ok_some ⟨(rg_w (show rg (-1 : Int32) (-1) (-1) from ⟨by decide, by decide⟩) (by decide) (by decide)), hB⟩
  · refine ok_gd (qo1_884 _ o_885).1 ?_
    refine ok_if (fun c_887 => ?_) (fun c_887 => ?_)
    · exact ok_some ⟨(rg_w (show rg (-3 : Int32) (-3) (-3) from ⟨by decide, by decide⟩) (by decide) (by decide)), hB⟩
    · refine ok_bn2 (s_X3_tryCut (by decide) (qo1_884 _ o_885) hB hQ) (fun r4_888 σ4_889 qr4_888 => ?_)
      obtain ⟨hr4_888, bσ4_889⟩ := qr4_888
      refine ok_if (fun c_890 => ?_) (fun c_890 => ?_)
      · exact ok_some ⟨(rg_w (show rg (-3 : Int32) (-3) (-3) from ⟨by decide, by decide⟩) (by decide) (by decide)), bσ4_889⟩
      · refine ok_nm (fun x6_891 hx6_891 => ?_)
        refine ok_nm (fun σ7_892 hσ7_892 => ?_)
        have bσ7_892 : BX m σ7_892 := by rw [hσ7_892]; exact bx_65 bσ4_889 (ck_65 hQ.1 (qo1_884 _ o_885).1)
        exact ok_some ⟨(rg_any _), bσ7_892⟩

set_option maxHeartbeats 4000000 in
set_option maxRecDepth 100000 in
theorem s_X11_tryStep {m : Int} {N : Nat} {K len : Nat → Nat} {a1 : Int32} {z : Nat} {a3 : Int32} {σ : SG} {ρ : RG} (r_a1 : rg a1 (0) (100)) (k_z : CK N K len ρ z) (hB : BX m σ) (hQ : PR N K len ρ) : ok (F_X11_tryStep N K len a1 z a3 σ ρ) (fun q => rg q.1 (0) (1) ∧ BX m q.2) := by
  unfold F_X11_tryStep
  refine ok_if (fun c_910 => ?_) (fun c_910 => ?_)
  · exact ok_some ⟨(rg_w (rg_gt c_910 (rg_lt c_910 r_a1 (show rg (0 : Int32) (0) (0) from ⟨by decide, by decide⟩)) (show rg (0 : Int32) (0) (0) from ⟨by decide, by decide⟩)) (by decide) (by decide)), hB⟩
  · refine ok_nm (fun x2_911 hx2_911 => ?_)
    refine ok_if (fun c_912 => ?_) (fun c_912 => ?_)
    · refine ok_nm (fun x4_913 hx4_913 => ?_)
      refine ok_gd (rg_inb (rg_eq (hx4_913.trans hx2_911.symm) (rg_eq hx2_911 (rg_add (l := 1) (h := 6) (rg_eq (una hx2_911) (rg_sub (l := 0) (h := 5) (rg_lt c_912 (rg_eq hx2_911 (rg_add (l := 1) (h := 101) r_a1 (show rg (1 : Int32) (1) (1) from ⟨by decide, by decide⟩) (by decide) (by decide) (by decide) (by decide))) (show rg (7 : Int32) (7) (7) from ⟨by decide, by decide⟩)) (show rg (1 : Int32) (1) (1) from ⟨by decide, by decide⟩) (by decide) (by decide) (by decide) (by decide))) (show rg (1 : Int32) (1) (1) from ⟨by decide, by decide⟩) (by decide) (by decide) (by decide) (by decide)))) (by decide) (by decide)) ?_
      refine ok_oc (fun o_914 => ?_) (fun c6_915 o_914 => ?_)
      · exact (lb_xn hQ.1 (rg_w (rg_eq (hx4_913.trans hx2_911.symm) (rg_eq hx2_911 (rg_add (l := 1) (h := 6) (rg_eq (una hx2_911) (rg_sub (l := 0) (h := 5) (rg_lt c_912 (rg_eq hx2_911 (rg_add (l := 1) (h := 101) r_a1 (show rg (1 : Int32) (1) (1) from ⟨by decide, by decide⟩) (by decide) (by decide) (by decide) (by decide))) (show rg (7 : Int32) (7) (7) from ⟨by decide, by decide⟩)) (show rg (1 : Int32) (1) (1) from ⟨by decide, by decide⟩) (by decide) (by decide) (by decide) (by decide))) (show rg (1 : Int32) (1) (1) from ⟨by decide, by decide⟩) (by decide) (by decide) (by decide) (by decide)))) (by decide) (by decide)) o_914).elim
      · refine ok_gd (lb_x hQ.1 (rg_w (rg_eq (hx4_913.trans hx2_911.symm) (rg_eq hx2_911 (rg_add (l := 1) (h := 6) (rg_eq (una hx2_911) (rg_sub (l := 0) (h := 5) (rg_lt c_912 (rg_eq hx2_911 (rg_add (l := 1) (h := 101) r_a1 (show rg (1 : Int32) (1) (1) from ⟨by decide, by decide⟩) (by decide) (by decide) (by decide) (by decide))) (show rg (7 : Int32) (7) (7) from ⟨by decide, by decide⟩)) (show rg (1 : Int32) (1) (1) from ⟨by decide, by decide⟩) (by decide) (by decide) (by decide) (by decide))) (show rg (1 : Int32) (1) (1) from ⟨by decide, by decide⟩) (by decide) (by decide) (by decide) (by decide)))) (by decide) (by decide)) o_914) ?_
        refine ok_gd (rg_inb (rg_eq (una hx2_911) (rg_sub (l := 0) (h := 5) (rg_lt c_912 (rg_eq (hx2_911.trans hx4_913.symm) (rg_eq hx4_913 (rg_add (l := 1) (h := 101) r_a1 (show rg (1 : Int32) (1) (1) from ⟨by decide, by decide⟩) (by decide) (by decide) (by decide) (by decide)))) (show rg (7 : Int32) (7) (7) from ⟨by decide, by decide⟩)) (show rg (1 : Int32) (1) (1) from ⟨by decide, by decide⟩) (by decide) (by decide) (by decide) (by decide))) (by decide) (by decide)) ?_
        refine ok_oc (fun o_916 => ?_) (fun c8_917 o_916 => ?_)
        · exact (lb_xn hQ.1 (rg_w (rg_eq (una hx2_911) (rg_sub (l := 0) (h := 5) (rg_lt c_912 (rg_eq (hx2_911.trans hx4_913.symm) (rg_eq hx4_913 (rg_add (l := 1) (h := 101) r_a1 (show rg (1 : Int32) (1) (1) from ⟨by decide, by decide⟩) (by decide) (by decide) (by decide) (by decide)))) (show rg (7 : Int32) (7) (7) from ⟨by decide, by decide⟩)) (show rg (1 : Int32) (1) (1) from ⟨by decide, by decide⟩) (by decide) (by decide) (by decide) (by decide))) (by decide) (by decide)) o_916).elim
        · refine ok_gd (lb_x hQ.1 (rg_w (rg_eq (una hx2_911) (rg_sub (l := 0) (h := 5) (rg_lt c_912 (rg_eq (hx2_911.trans hx4_913.symm) (rg_eq hx4_913 (rg_add (l := 1) (h := 101) r_a1 (show rg (1 : Int32) (1) (1) from ⟨by decide, by decide⟩) (by decide) (by decide) (by decide) (by decide)))) (show rg (7 : Int32) (7) (7) from ⟨by decide, by decide⟩)) (show rg (1 : Int32) (1) (1) from ⟨by decide, by decide⟩) (by decide) (by decide) (by decide) (by decide))) (by decide) (by decide)) o_916) ?_
          refine ok_bn (s_X3_takes (lb_x hQ.1 (rg_w (rg_eq (hx4_913.trans hx2_911.symm) (rg_eq hx2_911 (rg_add (l := 1) (h := 6) (rg_eq (una hx2_911) (rg_sub (l := 0) (h := 5) (rg_lt c_912 (rg_eq hx2_911 (rg_add (l := 1) (h := 101) r_a1 (show rg (1 : Int32) (1) (1) from ⟨by decide, by decide⟩) (by decide) (by decide) (by decide) (by decide))) (show rg (7 : Int32) (7) (7) from ⟨by decide, by decide⟩)) (show rg (1 : Int32) (1) (1) from ⟨by decide, by decide⟩) (by decide) (by decide) (by decide) (by decide))) (show rg (1 : Int32) (1) (1) from ⟨by decide, by decide⟩) (by decide) (by decide) (by decide) (by decide)))) (by decide) (by decide)) o_914) (lb_x hQ.1 (rg_w (rg_eq (una hx2_911) (rg_sub (l := 0) (h := 5) (rg_lt c_912 (rg_eq (hx2_911.trans hx4_913.symm) (rg_eq hx4_913 (rg_add (l := 1) (h := 101) r_a1 (show rg (1 : Int32) (1) (1) from ⟨by decide, by decide⟩) (by decide) (by decide) (by decide) (by decide)))) (show rg (7 : Int32) (7) (7) from ⟨by decide, by decide⟩)) (show rg (1 : Int32) (1) (1) from ⟨by decide, by decide⟩) (by decide) (by decide) (by decide) (by decide))) (by decide) (by decide)) o_916) hB hQ) (fun σ9_918 qσ9_918 => ?_)
          refine ok_nm (fun x10_919 hx10_919 => ?_)
          refine ok_gd (rg_inb (rg_eq (hx10_919.trans hx4_913.symm) (rg_eq (hx4_913.trans hx2_911.symm) (rg_eq hx2_911 (rg_add (l := 1) (h := 6) (rg_eq (una hx2_911) (rg_sub (l := 0) (h := 5) (rg_lt c_912 (rg_eq hx2_911 (rg_add (l := 1) (h := 101) r_a1 (show rg (1 : Int32) (1) (1) from ⟨by decide, by decide⟩) (by decide) (by decide) (by decide) (by decide))) (show rg (7 : Int32) (7) (7) from ⟨by decide, by decide⟩)) (show rg (1 : Int32) (1) (1) from ⟨by decide, by decide⟩) (by decide) (by decide) (by decide) (by decide))) (show rg (1 : Int32) (1) (1) from ⟨by decide, by decide⟩) (by decide) (by decide) (by decide) (by decide))))) (by decide) (by decide)) ?_
          refine ok_oc (fun o_920 => ?_) (fun c12_921 o_920 => ?_)
          · exact (lb_xn hQ.1 (rg_w (rg_eq (hx10_919.trans hx4_913.symm) (rg_eq (hx4_913.trans hx2_911.symm) (rg_eq hx2_911 (rg_add (l := 1) (h := 6) (rg_eq (una hx2_911) (rg_sub (l := 0) (h := 5) (rg_lt c_912 (rg_eq hx2_911 (rg_add (l := 1) (h := 101) r_a1 (show rg (1 : Int32) (1) (1) from ⟨by decide, by decide⟩) (by decide) (by decide) (by decide) (by decide))) (show rg (7 : Int32) (7) (7) from ⟨by decide, by decide⟩)) (show rg (1 : Int32) (1) (1) from ⟨by decide, by decide⟩) (by decide) (by decide) (by decide) (by decide))) (show rg (1 : Int32) (1) (1) from ⟨by decide, by decide⟩) (by decide) (by decide) (by decide) (by decide))))) (by decide) (by decide)) o_920).elim
          · refine ok_gd (lb_x hQ.1 (rg_w (rg_eq (hx10_919.trans hx4_913.symm) (rg_eq (hx4_913.trans hx2_911.symm) (rg_eq hx2_911 (rg_add (l := 1) (h := 6) (rg_eq (una hx2_911) (rg_sub (l := 0) (h := 5) (rg_lt c_912 (rg_eq hx2_911 (rg_add (l := 1) (h := 101) r_a1 (show rg (1 : Int32) (1) (1) from ⟨by decide, by decide⟩) (by decide) (by decide) (by decide) (by decide))) (show rg (7 : Int32) (7) (7) from ⟨by decide, by decide⟩)) (show rg (1 : Int32) (1) (1) from ⟨by decide, by decide⟩) (by decide) (by decide) (by decide) (by decide))) (show rg (1 : Int32) (1) (1) from ⟨by decide, by decide⟩) (by decide) (by decide) (by decide) (by decide))))) (by decide) (by decide)) o_920) ?_
            refine ok_if (fun c_922 => ?_) (fun c_922 => ?_)
            · unfold F_X11_tryStep_59
              refine ok_gd (lb_x hQ.1 (rg_w (rg_eq (hx10_919.trans hx4_913.symm) (rg_eq (hx4_913.trans hx2_911.symm) (rg_eq hx2_911 (rg_add (l := 1) (h := 6) (rg_eq (una hx2_911) (rg_sub (l := 0) (h := 5) (rg_lt c_912 (rg_eq hx2_911 (rg_add (l := 1) (h := 101) r_a1 (show rg (1 : Int32) (1) (1) from ⟨by decide, by decide⟩) (by decide) (by decide) (by decide) (by decide))) (show rg (7 : Int32) (7) (7) from ⟨by decide, by decide⟩)) (show rg (1 : Int32) (1) (1) from ⟨by decide, by decide⟩) (by decide) (by decide) (by decide) (by decide))) (show rg (1 : Int32) (1) (1) from ⟨by decide, by decide⟩) (by decide) (by decide) (by decide) (by decide))))) (by decide) (by decide)) o_920) ?_
              refine ok_gd k_z.1 ?_
              refine ok_bn2 (s_X3_tryCut (lb_x hQ.1 (rg_w (rg_eq (hx10_919.trans hx4_913.symm) (rg_eq (hx4_913.trans hx2_911.symm) (rg_eq hx2_911 (rg_add (l := 1) (h := 6) (rg_eq (una hx2_911) (rg_sub (l := 0) (h := 5) (rg_lt c_912 (rg_eq hx2_911 (rg_add (l := 1) (h := 101) r_a1 (show rg (1 : Int32) (1) (1) from ⟨by decide, by decide⟩) (by decide) (by decide) (by decide) (by decide))) (show rg (7 : Int32) (7) (7) from ⟨by decide, by decide⟩)) (show rg (1 : Int32) (1) (1) from ⟨by decide, by decide⟩) (by decide) (by decide) (by decide) (by decide))) (show rg (1 : Int32) (1) (1) from ⟨by decide, by decide⟩) (by decide) (by decide) (by decide) (by decide))))) (by decide) (by decide)) o_920) k_z qσ9_918 hQ) (fun r14_923 σ14_924 qr14_923 => ?_)
              obtain ⟨hr14_923, bσ14_924⟩ := qr14_923
              refine ok_gd (rg_isb (rg_w hr14_923 (by decide) (by decide))) ?_
              exact ok_some ⟨hr14_923, bσ14_924⟩
            · unfold F_X11_tryStep_59
              refine ok_gd (lb_x hQ.1 (rg_w (rg_eq (hx10_919.trans hx4_913.symm) (rg_eq (hx4_913.trans hx2_911.symm) (rg_eq hx2_911 (rg_add (l := 1) (h := 6) (rg_eq (una hx2_911) (rg_sub (l := 0) (h := 5) (rg_lt c_912 (rg_eq hx2_911 (rg_add (l := 1) (h := 101) r_a1 (show rg (1 : Int32) (1) (1) from ⟨by decide, by decide⟩) (by decide) (by decide) (by decide) (by decide))) (show rg (7 : Int32) (7) (7) from ⟨by decide, by decide⟩)) (show rg (1 : Int32) (1) (1) from ⟨by decide, by decide⟩) (by decide) (by decide) (by decide) (by decide))) (show rg (1 : Int32) (1) (1) from ⟨by decide, by decide⟩) (by decide) (by decide) (by decide) (by decide))))) (by decide) (by decide)) o_920) ?_
              refine ok_gd k_z.1 ?_
              refine ok_bn2 (s_X3_tryCut (lb_x hQ.1 (rg_w (rg_eq (hx10_919.trans hx4_913.symm) (rg_eq (hx4_913.trans hx2_911.symm) (rg_eq hx2_911 (rg_add (l := 1) (h := 6) (rg_eq (una hx2_911) (rg_sub (l := 0) (h := 5) (rg_lt c_912 (rg_eq hx2_911 (rg_add (l := 1) (h := 101) r_a1 (show rg (1 : Int32) (1) (1) from ⟨by decide, by decide⟩) (by decide) (by decide) (by decide) (by decide))) (show rg (7 : Int32) (7) (7) from ⟨by decide, by decide⟩)) (show rg (1 : Int32) (1) (1) from ⟨by decide, by decide⟩) (by decide) (by decide) (by decide) (by decide))) (show rg (1 : Int32) (1) (1) from ⟨by decide, by decide⟩) (by decide) (by decide) (by decide) (by decide))))) (by decide) (by decide)) o_920) k_z qσ9_918 hQ) (fun r14_925 σ14_926 qr14_925 => ?_)
              obtain ⟨hr14_925, bσ14_926⟩ := qr14_925
              refine ok_gd (rg_isb (rg_w hr14_925 (by decide) (by decide))) ?_
              exact ok_some ⟨hr14_925, bσ14_926⟩
    · exact ok_some ⟨(rg_w (show rg (0 : Int32) (0) (0) from ⟨by decide, by decide⟩) (by decide) (by decide)), hB⟩

set_option maxHeartbeats 4000000 in
set_option maxRecDepth 100000 in
theorem s_X11_tryStep_n {m : Int} {N : Nat} {K len : Nat → Nat} {a1 : Int32} {a3 : Int32} {σ : SG} {ρ : RG} (hB : BX m σ) (hQ : PR N K len ρ) : ok (F_X11_tryStep_n a1 a3 σ ρ) (fun q => rg q (0) (0)) := by
  unfold F_X11_tryStep_n
  exact ok_some (show rg (0 : Int32) (0) (0) from ⟨by decide, by decide⟩)

set_option maxHeartbeats 4000000 in
set_option maxRecDepth 100000 in
theorem s_X11_would {m : Int} {N : Nat} {K len : Nat → Nat} {a1 : Int32} {a2 : Int32} {σ : SG} {ρ : RG} (hB : BX m σ) (hQ : PR N K len ρ) : ok (F_X11_would N K len a1 a2 σ ρ) (fun q => rg q.1 (-2147483648) (2147483647) ∧ BX m q.2) := by
  unfold F_X11_would
  refine ok_bn (s_X8_cutterAt_1 hB hQ) (fun o1_957 qo1_957 => ?_)
  refine ok_oc (fun o_958 => ?_) (fun c2_959 o_958 => ?_)
  · exact ok_some ⟨(rg_w (show rg (-10001 : Int32) (-10001) (-10001) from ⟨by decide, by decide⟩) (by decide) (by decide)), hB⟩
  · refine ok_gd (qo1_957 _ o_958).1 ?_
    refine ok_bn (s_X11_isWithin) (fun r3_960 qr3_960 => ?_)
    refine ok_if (fun c_961 => ?_) (fun c_961 => ?_)
    · exact ok_some ⟨(rg_w (show rg (-10001 : Int32) (-10001) (-10001) from ⟨by decide, by decide⟩) (by decide) (by decide)), hB⟩
    · obtain ⟨w_962, w_963⟩ := qr3_960.2 c_961
      refine ok_bn (s_X11_startSteps hB hQ) (fun σ5_964 qσ5_964 => ?_)
      refine ok_bn (s_X8_cutterAt_1 qσ5_964 hQ) (fun o6_965 qo6_965 => ?_)
      refine ok_oc (fun o_966 => ?_) (fun c7_967 o_966 => ?_)
      · refine ok_bn (s_X11_tryStep_n qσ5_964 hQ) (fun r8_968 qr8_968 => ?_)
        refine ok_if (fun c_969 => ?_) (fun c_969 => ?_)
        · exact ok_some ⟨(rg_w (show rg (-10005 : Int32) (-10005) (-10005) from ⟨by decide, by decide⟩) (by decide) (by decide)), qσ5_964⟩
        · refine ok_if (fun c_970 => ?_) (fun c_970 => ?_)
          · exact ok_some ⟨(rg_any _), qσ5_964⟩
          · refine ok_if (fun c_971 => ?_) (fun c_971 => ?_)
            · exact ok_some ⟨(rg_any _), qσ5_964⟩
            · refine ok_if (fun c_972 => ?_) (fun c_972 => ?_)
              · exact ok_some ⟨(rg_any _), qσ5_964⟩
              · refine ok_if (fun c_973 => ?_) (fun c_973 => ?_)
                · exact ok_some ⟨(rg_any _), qσ5_964⟩
                · refine ok_if (fun c_974 => ?_) (fun c_974 => ?_)
                  · exact ok_some ⟨(rg_any _), qσ5_964⟩
                  · refine ok_if (fun c_975 => ?_) (fun c_975 => ?_)
                    · exact ok_some ⟨(rg_any _), qσ5_964⟩
                    · refine ok_nm (fun x11_976 hx11_976 => ?_)
                      exact ok_some ⟨(rg_any _), qσ5_964⟩
      · refine ok_gd (qo6_965 _ o_966).1 ?_
        refine ok_bn2 (s_X11_tryStep (rg_w (show rg (0 : Int32) (0) (0) from ⟨by decide, by decide⟩) (by decide) (by decide)) (qo6_965 _ o_966) qσ5_964 hQ) (fun r12_977 σ12_978 qr12_977 => ?_)
        obtain ⟨hr12_977, bσ12_978⟩ := qr12_977
        refine ok_if (fun c_979 => ?_) (fun c_979 => ?_)
        · exact ok_some ⟨(rg_w (show rg (-10005 : Int32) (-10005) (-10005) from ⟨by decide, by decide⟩) (by decide) (by decide)), bσ12_978⟩
        · refine ok_if (fun c_980 => ?_) (fun c_980 => ?_)
          · exact ok_some ⟨(rg_any _), bσ12_978⟩
          · refine ok_if (fun c_981 => ?_) (fun c_981 => ?_)
            · exact ok_some ⟨(rg_any _), bσ12_978⟩
            · refine ok_if (fun c_982 => ?_) (fun c_982 => ?_)
              · exact ok_some ⟨(rg_any _), bσ12_978⟩
              · refine ok_if (fun c_983 => ?_) (fun c_983 => ?_)
                · exact ok_some ⟨(rg_any _), bσ12_978⟩
                · refine ok_if (fun c_984 => ?_) (fun c_984 => ?_)
                  · exact ok_some ⟨(rg_any _), bσ12_978⟩
                  · refine ok_if (fun c_985 => ?_) (fun c_985 => ?_)
                    · exact ok_some ⟨(rg_any _), bσ12_978⟩
                    · refine ok_nm (fun x15_986 hx15_986 => ?_)
                      exact ok_some ⟨(rg_any _), bσ12_978⟩

set_option maxHeartbeats 4000000 in
set_option maxRecDepth 100000 in
theorem s_X11_goOn_54 {m : Int} {N : Nat} {K len : Nat → Nat} {a1 : Int32} {a2 : Int32} {a3 : Int32} {a4 : Int32} {ρ : RG} (r_a1 : rg a1 (0) (200)) (hQ : PR N K len ρ) : ∀ (n : Nat) (σ : SG) (v1 : Int32) (v2 : Int32) (v3 : Int32) (v4 : Int32) (v5 : Int32), rg v1 (0) (200) → rg v5 (0) (200) → (200 : Int) - v5.toInt < (n : Int) → BX m σ → ok (F_X11_goOn_54 N K len a1 a2 a3 a4 n σ ρ v1 v2 v3 v4 v5) (fun q => BX m q) := by
  intro n
  induction n with
  | zero => intro σ v1 v2 v3 v4 v5 r_v1 r_v5 hm hB; exact (ms_z r_v5 (by decide) hm).elim
  | succ n ih =>
    intro σ v1 v2 v3 v4 v5 r_v1 r_v5 hm hB
    unfold F_X11_goOn_54
    refine ok_if (fun c_1142 => ?_) (fun c_1142 => ?_)
    · exact ok_some hB
    · refine ok_if (fun c_1143 => ?_) (fun c_1143 => ?_)
      · exact ok_some hB
      · refine ok_if (fun c_1144 => ?_) (fun c_1144 => ?_)
        · refine ok_bn (s_X3_leastCorner (by decide) hB hQ) (fun r31_1145 qr31_1145 => ?_)
          refine ok_if (fun c_1146 => ?_) (fun c_1146 => ?_)
          · unfold F_X11_goOn_104
            refine ok_gd (rg_ne0 (rg_gt (nle c_1143) (show rg (0 : Int32) (0) (0) from ⟨by decide, by decide⟩) (bx_get hB (r := 1) (a := 1) (b := 1) (k := 1) (l := 0) (h := 6) (by decide) (by decide) (by decide))) (by decide)) ?_
            refine ok_nm (fun x11_1147 hx11_1147 => ?_)
            refine ok_bn (s_X8_cutterAt_1 hB hQ) (fun o12_1148 qo12_1148 => ?_)
            refine ok_oc (fun o_1149 => ?_) (fun c13_1150 o_1149 => ?_)
            · exact ok_some hB
            · refine ok_gd (qo12_1148 _ o_1149).1 ?_
              refine ok_bn2 (s_X3_tryCut (by decide) (qo12_1148 _ o_1149) hB hQ) (fun r14_1151 σ14_1152 qr14_1151 => ?_)
              obtain ⟨hr14_1151, bσ14_1152⟩ := qr14_1151
              refine ok_if (fun c_1153 => ?_) (fun c_1153 => ?_)
              · exact ok_some bσ14_1152
              · refine ok_if (fun c_1154 => ?_) (fun c_1154 => ?_)
                · unfold F_X11_goOn_186
                  refine ok_if (fun c_1155 => ?_) (fun c_1155 => ?_)
                  · unfold F_X11_goOn_216
                    refine ok_nm (fun x18_1156 hx18_1156 => ?_)
                    refine ok_nm (fun σ20_1157 hσ20_1157 => ?_)
                    have bσ20_1157 : BX m σ20_1157 := by rw [hσ20_1157]; exact bx_far bσ14_1152 (by decide) (by decide) (by decide) (by decide)
                    refine ok_if (fun c_1158 => ?_) (fun c_1158 => ?_)
                    · unfold F_X11_goOn_242
                      refine ok_nm (fun x22_1159 hx22_1159 => ?_)
                      refine ok_nm (fun σ24_1160 hσ24_1160 => ?_)
                      have bσ24_1160 : BX m σ24_1160 := by rw [hσ24_1160]; exact bx_far bσ20_1157 (by decide) (by decide) (by decide) (by decide)
                      refine ok_nm (fun x25_1161 hx25_1161 => ?_)
                      exact ih _ _ _ _ _ _ (rg_w (rg_gt (nle c_1142) (rg_lt (nle c_1142) r_v5 r_v1) r_v1) (by decide) (by decide)) (rg_w (rg_eq hx25_1161 (rg_add (l := 1) (h := 200) (rg_lt (nle c_1142) r_v5 (rg_gt (nle c_1142) r_v5 r_v1)) (show rg (1 : Int32) (1) (1) from ⟨by decide, by decide⟩) (by decide) (by decide) (by decide) (by decide))) (by decide) (by decide)) (ms_s hx25_1161 (rg_lt (nle c_1142) r_v5 (rg_gt (nle c_1142) r_v5 r_v1)) (by decide) (by decide) hm) bσ24_1160
                    · unfold F_X11_goOn_242
                      refine ok_nm (fun x22_1162 hx22_1162 => ?_)
                      refine ok_nm (fun σ24_1163 hσ24_1163 => ?_)
                      have bσ24_1163 : BX m σ24_1163 := by rw [hσ24_1163]; exact bx_far bσ20_1157 (by decide) (by decide) (by decide) (by decide)
                      refine ok_nm (fun x25_1164 hx25_1164 => ?_)
                      exact ih _ _ _ _ _ _ (rg_w (rg_gt (nle c_1142) (rg_lt (nle c_1142) r_v5 r_v1) r_v1) (by decide) (by decide)) (rg_w (rg_eq hx25_1164 (rg_add (l := 1) (h := 200) (rg_lt (nle c_1142) r_v5 (rg_gt (nle c_1142) r_v5 r_v1)) (show rg (1 : Int32) (1) (1) from ⟨by decide, by decide⟩) (by decide) (by decide) (by decide) (by decide))) (by decide) (by decide)) (ms_s hx25_1164 (rg_lt (nle c_1142) r_v5 (rg_gt (nle c_1142) r_v5 r_v1)) (by decide) (by decide) hm) bσ24_1163
                  · unfold F_X11_goOn_216
                    refine ok_nm (fun x18_1165 hx18_1165 => ?_)
                    refine ok_nm (fun σ20_1166 hσ20_1166 => ?_)
                    have bσ20_1166 : BX m σ20_1166 := by rw [hσ20_1166]; exact bx_far bσ14_1152 (by decide) (by decide) (by decide) (by decide)
                    refine ok_if (fun c_1167 => ?_) (fun c_1167 => ?_)
                    · unfold F_X11_goOn_242
                      refine ok_nm (fun x22_1168 hx22_1168 => ?_)
                      refine ok_nm (fun σ24_1169 hσ24_1169 => ?_)
                      have bσ24_1169 : BX m σ24_1169 := by rw [hσ24_1169]; exact bx_far bσ20_1166 (by decide) (by decide) (by decide) (by decide)
                      refine ok_nm (fun x25_1170 hx25_1170 => ?_)
                      exact ih _ _ _ _ _ _ (rg_w (rg_gt (nle c_1142) (rg_lt (nle c_1142) r_v5 r_v1) r_v1) (by decide) (by decide)) (rg_w (rg_eq hx25_1170 (rg_add (l := 1) (h := 200) (rg_lt (nle c_1142) r_v5 (rg_gt (nle c_1142) r_v5 r_v1)) (show rg (1 : Int32) (1) (1) from ⟨by decide, by decide⟩) (by decide) (by decide) (by decide) (by decide))) (by decide) (by decide)) (ms_s hx25_1170 (rg_lt (nle c_1142) r_v5 (rg_gt (nle c_1142) r_v5 r_v1)) (by decide) (by decide) hm) bσ24_1169
                    · unfold F_X11_goOn_242
                      refine ok_nm (fun x22_1171 hx22_1171 => ?_)
                      refine ok_nm (fun σ24_1172 hσ24_1172 => ?_)
                      have bσ24_1172 : BX m σ24_1172 := by rw [hσ24_1172]; exact bx_far bσ20_1166 (by decide) (by decide) (by decide) (by decide)
                      refine ok_nm (fun x25_1173 hx25_1173 => ?_)
                      exact ih _ _ _ _ _ _ (rg_w (rg_gt (nle c_1142) (rg_lt (nle c_1142) r_v5 r_v1) r_v1) (by decide) (by decide)) (rg_w (rg_eq hx25_1173 (rg_add (l := 1) (h := 200) (rg_lt (nle c_1142) r_v5 (rg_gt (nle c_1142) r_v5 r_v1)) (show rg (1 : Int32) (1) (1) from ⟨by decide, by decide⟩) (by decide) (by decide) (by decide) (by decide))) (by decide) (by decide)) (ms_s hx25_1173 (rg_lt (nle c_1142) r_v5 (rg_gt (nle c_1142) r_v5 r_v1)) (by decide) (by decide) hm) bσ24_1172
                · refine ok_gd (rg_inb (rg_eq hx11_1147 (rg_rem0 (rg_lt (nle c_1142) r_v5 (rg_gt (nle c_1142) r_v5 r_v1)) (rg_gt (nle c_1143) (show rg (0 : Int32) (0) (0) from ⟨by decide, by decide⟩) (bx_get hB (r := 1) (a := 1) (b := 1) (k := 1) (l := 0) (h := 6) (by decide) (by decide) (by decide))) (by decide) (by decide))) (by decide) (by decide)) ?_
                  refine ok_nm (fun x27_1174 hx27_1174 => ?_)
                  refine ok_gd (rg_inb (rg_eq hx11_1147 (rg_rem0 (rg_lt (nle c_1142) r_v5 (rg_gt (nle c_1142) r_v5 r_v1)) (rg_gt (nle c_1143) (show rg (0 : Int32) (0) (0) from ⟨by decide, by decide⟩) (bx_get hB (r := 1) (a := 1) (b := 1) (k := 1) (l := 0) (h := 6) (by decide) (by decide) (by decide))) (by decide) (by decide))) (by decide) (by decide)) ?_
                  refine ok_nm (fun σ30_1175 hσ30_1175 => ?_)
                  have bσ30_1175 : BX m σ30_1175 := by rw [hσ30_1175]; exact bx_far bσ14_1152 (by decide) (by decide) (by decide) (by decide)
                  unfold F_X11_goOn_186
                  refine ok_if (fun c_1176 => ?_) (fun c_1176 => ?_)
                  · unfold F_X11_goOn_216
                    refine ok_nm (fun x18_1177 hx18_1177 => ?_)
                    refine ok_nm (fun σ20_1178 hσ20_1178 => ?_)
                    have bσ20_1178 : BX m σ20_1178 := by rw [hσ20_1178]; exact bx_far bσ30_1175 (by decide) (by decide) (by decide) (by decide)
                    refine ok_if (fun c_1179 => ?_) (fun c_1179 => ?_)
                    · unfold F_X11_goOn_242
                      refine ok_nm (fun x22_1180 hx22_1180 => ?_)
                      refine ok_nm (fun σ24_1181 hσ24_1181 => ?_)
                      have bσ24_1181 : BX m σ24_1181 := by rw [hσ24_1181]; exact bx_far bσ20_1178 (by decide) (by decide) (by decide) (by decide)
                      refine ok_nm (fun x25_1182 hx25_1182 => ?_)
                      exact ih _ _ _ _ _ _ (rg_w (rg_gt (nle c_1142) (rg_lt (nle c_1142) r_v5 r_v1) r_v1) (by decide) (by decide)) (rg_w (rg_eq hx25_1182 (rg_add (l := 1) (h := 200) (rg_lt (nle c_1142) r_v5 (rg_gt (nle c_1142) r_v5 r_v1)) (show rg (1 : Int32) (1) (1) from ⟨by decide, by decide⟩) (by decide) (by decide) (by decide) (by decide))) (by decide) (by decide)) (ms_s hx25_1182 (rg_lt (nle c_1142) r_v5 (rg_gt (nle c_1142) r_v5 r_v1)) (by decide) (by decide) hm) bσ24_1181
                    · unfold F_X11_goOn_242
                      refine ok_nm (fun x22_1183 hx22_1183 => ?_)
                      refine ok_nm (fun σ24_1184 hσ24_1184 => ?_)
                      have bσ24_1184 : BX m σ24_1184 := by rw [hσ24_1184]; exact bx_far bσ20_1178 (by decide) (by decide) (by decide) (by decide)
                      refine ok_nm (fun x25_1185 hx25_1185 => ?_)
                      exact ih _ _ _ _ _ _ (rg_w (rg_gt (nle c_1142) (rg_lt (nle c_1142) r_v5 r_v1) r_v1) (by decide) (by decide)) (rg_w (rg_eq hx25_1185 (rg_add (l := 1) (h := 200) (rg_lt (nle c_1142) r_v5 (rg_gt (nle c_1142) r_v5 r_v1)) (show rg (1 : Int32) (1) (1) from ⟨by decide, by decide⟩) (by decide) (by decide) (by decide) (by decide))) (by decide) (by decide)) (ms_s hx25_1185 (rg_lt (nle c_1142) r_v5 (rg_gt (nle c_1142) r_v5 r_v1)) (by decide) (by decide) hm) bσ24_1184
                  · unfold F_X11_goOn_216
                    refine ok_nm (fun x18_1186 hx18_1186 => ?_)
                    refine ok_nm (fun σ20_1187 hσ20_1187 => ?_)
                    have bσ20_1187 : BX m σ20_1187 := by rw [hσ20_1187]; exact bx_far bσ30_1175 (by decide) (by decide) (by decide) (by decide)
                    refine ok_if (fun c_1188 => ?_) (fun c_1188 => ?_)
                    · unfold F_X11_goOn_242
                      refine ok_nm (fun x22_1189 hx22_1189 => ?_)
                      refine ok_nm (fun σ24_1190 hσ24_1190 => ?_)
                      have bσ24_1190 : BX m σ24_1190 := by rw [hσ24_1190]; exact bx_far bσ20_1187 (by decide) (by decide) (by decide) (by decide)
                      refine ok_nm (fun x25_1191 hx25_1191 => ?_)
                      exact ih _ _ _ _ _ _ (rg_w (rg_gt (nle c_1142) (rg_lt (nle c_1142) r_v5 r_v1) r_v1) (by decide) (by decide)) (rg_w (rg_eq hx25_1191 (rg_add (l := 1) (h := 200) (rg_lt (nle c_1142) r_v5 (rg_gt (nle c_1142) r_v5 r_v1)) (show rg (1 : Int32) (1) (1) from ⟨by decide, by decide⟩) (by decide) (by decide) (by decide) (by decide))) (by decide) (by decide)) (ms_s hx25_1191 (rg_lt (nle c_1142) r_v5 (rg_gt (nle c_1142) r_v5 r_v1)) (by decide) (by decide) hm) bσ24_1190
                    · unfold F_X11_goOn_242
                      refine ok_nm (fun x22_1192 hx22_1192 => ?_)
                      refine ok_nm (fun σ24_1193 hσ24_1193 => ?_)
                      have bσ24_1193 : BX m σ24_1193 := by rw [hσ24_1193]; exact bx_far bσ20_1187 (by decide) (by decide) (by decide) (by decide)
                      refine ok_nm (fun x25_1194 hx25_1194 => ?_)
                      exact ih _ _ _ _ _ _ (rg_w (rg_gt (nle c_1142) (rg_lt (nle c_1142) r_v5 r_v1) r_v1) (by decide) (by decide)) (rg_w (rg_eq hx25_1194 (rg_add (l := 1) (h := 200) (rg_lt (nle c_1142) r_v5 (rg_gt (nle c_1142) r_v5 r_v1)) (show rg (1 : Int32) (1) (1) from ⟨by decide, by decide⟩) (by decide) (by decide) (by decide) (by decide))) (by decide) (by decide)) (ms_s hx25_1194 (rg_lt (nle c_1142) r_v5 (rg_gt (nle c_1142) r_v5 r_v1)) (by decide) (by decide) hm) bσ24_1193
          · refine ok_bn2 (s_X3_straighten (by decide) hB hQ) (fun r33_1195 σ33_1196 qr33_1195 => ?_)
            obtain ⟨hr33_1195, bσ33_1196, fσ33_1196_0⟩ := qr33_1195
            unfold F_X11_goOn_104
            refine ok_gd (rg_ne0 (rg_eq fσ33_1196_0 (rg_gt (nle c_1143) (show rg (0 : Int32) (0) (0) from ⟨by decide, by decide⟩) (bx_get hB (r := 1) (a := 1) (b := 1) (k := 1) (l := 0) (h := 6) (by decide) (by decide) (by decide)))) (by decide)) ?_
            refine ok_nm (fun x11_1197 hx11_1197 => ?_)
            refine ok_bn (s_X8_cutterAt_1 bσ33_1196 hQ) (fun o12_1198 qo12_1198 => ?_)
            refine ok_oc (fun o_1199 => ?_) (fun c13_1200 o_1199 => ?_)
            · exact ok_some bσ33_1196
            · refine ok_gd (qo12_1198 _ o_1199).1 ?_
              refine ok_bn2 (s_X3_tryCut (by decide) (qo12_1198 _ o_1199) bσ33_1196 hQ) (fun r14_1201 σ14_1202 qr14_1201 => ?_)
              obtain ⟨hr14_1201, bσ14_1202⟩ := qr14_1201
              refine ok_if (fun c_1203 => ?_) (fun c_1203 => ?_)
              · exact ok_some bσ14_1202
              · refine ok_if (fun c_1204 => ?_) (fun c_1204 => ?_)
                · unfold F_X11_goOn_186
                  refine ok_if (fun c_1205 => ?_) (fun c_1205 => ?_)
                  · unfold F_X11_goOn_216
                    refine ok_nm (fun x18_1206 hx18_1206 => ?_)
                    refine ok_nm (fun σ20_1207 hσ20_1207 => ?_)
                    have bσ20_1207 : BX m σ20_1207 := by rw [hσ20_1207]; exact bx_far bσ14_1202 (by decide) (by decide) (by decide) (by decide)
                    refine ok_if (fun c_1208 => ?_) (fun c_1208 => ?_)
                    · unfold F_X11_goOn_242
                      refine ok_nm (fun x22_1209 hx22_1209 => ?_)
                      refine ok_nm (fun σ24_1210 hσ24_1210 => ?_)
                      have bσ24_1210 : BX m σ24_1210 := by rw [hσ24_1210]; exact bx_far bσ20_1207 (by decide) (by decide) (by decide) (by decide)
                      refine ok_nm (fun x25_1211 hx25_1211 => ?_)
                      exact ih _ _ _ _ _ _ (rg_w (rg_gt (nle c_1142) (rg_lt (nle c_1142) r_v5 r_v1) r_v1) (by decide) (by decide)) (rg_w (rg_eq hx25_1211 (rg_add (l := 1) (h := 200) (rg_lt (nle c_1142) r_v5 (rg_gt (nle c_1142) r_v5 r_v1)) (show rg (1 : Int32) (1) (1) from ⟨by decide, by decide⟩) (by decide) (by decide) (by decide) (by decide))) (by decide) (by decide)) (ms_s hx25_1211 (rg_lt (nle c_1142) r_v5 (rg_gt (nle c_1142) r_v5 r_v1)) (by decide) (by decide) hm) bσ24_1210
                    · unfold F_X11_goOn_242
                      refine ok_nm (fun x22_1212 hx22_1212 => ?_)
                      refine ok_nm (fun σ24_1213 hσ24_1213 => ?_)
                      have bσ24_1213 : BX m σ24_1213 := by rw [hσ24_1213]; exact bx_far bσ20_1207 (by decide) (by decide) (by decide) (by decide)
                      refine ok_nm (fun x25_1214 hx25_1214 => ?_)
                      exact ih _ _ _ _ _ _ (rg_w (rg_gt (nle c_1142) (rg_lt (nle c_1142) r_v5 r_v1) r_v1) (by decide) (by decide)) (rg_w (rg_eq hx25_1214 (rg_add (l := 1) (h := 200) (rg_lt (nle c_1142) r_v5 (rg_gt (nle c_1142) r_v5 r_v1)) (show rg (1 : Int32) (1) (1) from ⟨by decide, by decide⟩) (by decide) (by decide) (by decide) (by decide))) (by decide) (by decide)) (ms_s hx25_1214 (rg_lt (nle c_1142) r_v5 (rg_gt (nle c_1142) r_v5 r_v1)) (by decide) (by decide) hm) bσ24_1213
                  · unfold F_X11_goOn_216
                    refine ok_nm (fun x18_1215 hx18_1215 => ?_)
                    refine ok_nm (fun σ20_1216 hσ20_1216 => ?_)
                    have bσ20_1216 : BX m σ20_1216 := by rw [hσ20_1216]; exact bx_far bσ14_1202 (by decide) (by decide) (by decide) (by decide)
                    refine ok_if (fun c_1217 => ?_) (fun c_1217 => ?_)
                    · unfold F_X11_goOn_242
                      refine ok_nm (fun x22_1218 hx22_1218 => ?_)
                      refine ok_nm (fun σ24_1219 hσ24_1219 => ?_)
                      have bσ24_1219 : BX m σ24_1219 := by rw [hσ24_1219]; exact bx_far bσ20_1216 (by decide) (by decide) (by decide) (by decide)
                      refine ok_nm (fun x25_1220 hx25_1220 => ?_)
                      exact ih _ _ _ _ _ _ (rg_w (rg_gt (nle c_1142) (rg_lt (nle c_1142) r_v5 r_v1) r_v1) (by decide) (by decide)) (rg_w (rg_eq hx25_1220 (rg_add (l := 1) (h := 200) (rg_lt (nle c_1142) r_v5 (rg_gt (nle c_1142) r_v5 r_v1)) (show rg (1 : Int32) (1) (1) from ⟨by decide, by decide⟩) (by decide) (by decide) (by decide) (by decide))) (by decide) (by decide)) (ms_s hx25_1220 (rg_lt (nle c_1142) r_v5 (rg_gt (nle c_1142) r_v5 r_v1)) (by decide) (by decide) hm) bσ24_1219
                    · unfold F_X11_goOn_242
                      refine ok_nm (fun x22_1221 hx22_1221 => ?_)
                      refine ok_nm (fun σ24_1222 hσ24_1222 => ?_)
                      have bσ24_1222 : BX m σ24_1222 := by rw [hσ24_1222]; exact bx_far bσ20_1216 (by decide) (by decide) (by decide) (by decide)
                      refine ok_nm (fun x25_1223 hx25_1223 => ?_)
                      exact ih _ _ _ _ _ _ (rg_w (rg_gt (nle c_1142) (rg_lt (nle c_1142) r_v5 r_v1) r_v1) (by decide) (by decide)) (rg_w (rg_eq hx25_1223 (rg_add (l := 1) (h := 200) (rg_lt (nle c_1142) r_v5 (rg_gt (nle c_1142) r_v5 r_v1)) (show rg (1 : Int32) (1) (1) from ⟨by decide, by decide⟩) (by decide) (by decide) (by decide) (by decide))) (by decide) (by decide)) (ms_s hx25_1223 (rg_lt (nle c_1142) r_v5 (rg_gt (nle c_1142) r_v5 r_v1)) (by decide) (by decide) hm) bσ24_1222
                · refine ok_gd (rg_inb (rg_eq hx11_1197 (rg_rem0 (rg_lt (nle c_1142) r_v5 (rg_gt (nle c_1142) r_v5 r_v1)) (rg_eq fσ33_1196_0 (rg_gt (nle c_1143) (show rg (0 : Int32) (0) (0) from ⟨by decide, by decide⟩) (bx_get hB (r := 1) (a := 1) (b := 1) (k := 1) (l := 0) (h := 6) (by decide) (by decide) (by decide)))) (by decide) (by decide))) (by decide) (by decide)) ?_
                  refine ok_nm (fun x27_1224 hx27_1224 => ?_)
                  refine ok_gd (rg_inb (rg_eq hx11_1197 (rg_rem0 (rg_lt (nle c_1142) r_v5 (rg_gt (nle c_1142) r_v5 r_v1)) (rg_eq fσ33_1196_0 (rg_gt (nle c_1143) (show rg (0 : Int32) (0) (0) from ⟨by decide, by decide⟩) (bx_get hB (r := 1) (a := 1) (b := 1) (k := 1) (l := 0) (h := 6) (by decide) (by decide) (by decide)))) (by decide) (by decide))) (by decide) (by decide)) ?_
                  refine ok_nm (fun σ30_1225 hσ30_1225 => ?_)
                  have bσ30_1225 : BX m σ30_1225 := by rw [hσ30_1225]; exact bx_far bσ14_1202 (by decide) (by decide) (by decide) (by decide)
                  unfold F_X11_goOn_186
                  refine ok_if (fun c_1226 => ?_) (fun c_1226 => ?_)
                  · unfold F_X11_goOn_216
                    refine ok_nm (fun x18_1227 hx18_1227 => ?_)
                    refine ok_nm (fun σ20_1228 hσ20_1228 => ?_)
                    have bσ20_1228 : BX m σ20_1228 := by rw [hσ20_1228]; exact bx_far bσ30_1225 (by decide) (by decide) (by decide) (by decide)
                    refine ok_if (fun c_1229 => ?_) (fun c_1229 => ?_)
                    · unfold F_X11_goOn_242
                      refine ok_nm (fun x22_1230 hx22_1230 => ?_)
                      refine ok_nm (fun σ24_1231 hσ24_1231 => ?_)
                      have bσ24_1231 : BX m σ24_1231 := by rw [hσ24_1231]; exact bx_far bσ20_1228 (by decide) (by decide) (by decide) (by decide)
                      refine ok_nm (fun x25_1232 hx25_1232 => ?_)
                      exact ih _ _ _ _ _ _ (rg_w (rg_gt (nle c_1142) (rg_lt (nle c_1142) r_v5 r_v1) r_v1) (by decide) (by decide)) (rg_w (rg_eq hx25_1232 (rg_add (l := 1) (h := 200) (rg_lt (nle c_1142) r_v5 (rg_gt (nle c_1142) r_v5 r_v1)) (show rg (1 : Int32) (1) (1) from ⟨by decide, by decide⟩) (by decide) (by decide) (by decide) (by decide))) (by decide) (by decide)) (ms_s hx25_1232 (rg_lt (nle c_1142) r_v5 (rg_gt (nle c_1142) r_v5 r_v1)) (by decide) (by decide) hm) bσ24_1231
                    · unfold F_X11_goOn_242
                      refine ok_nm (fun x22_1233 hx22_1233 => ?_)
                      refine ok_nm (fun σ24_1234 hσ24_1234 => ?_)
                      have bσ24_1234 : BX m σ24_1234 := by rw [hσ24_1234]; exact bx_far bσ20_1228 (by decide) (by decide) (by decide) (by decide)
                      refine ok_nm (fun x25_1235 hx25_1235 => ?_)
                      exact ih _ _ _ _ _ _ (rg_w (rg_gt (nle c_1142) (rg_lt (nle c_1142) r_v5 r_v1) r_v1) (by decide) (by decide)) (rg_w (rg_eq hx25_1235 (rg_add (l := 1) (h := 200) (rg_lt (nle c_1142) r_v5 (rg_gt (nle c_1142) r_v5 r_v1)) (show rg (1 : Int32) (1) (1) from ⟨by decide, by decide⟩) (by decide) (by decide) (by decide) (by decide))) (by decide) (by decide)) (ms_s hx25_1235 (rg_lt (nle c_1142) r_v5 (rg_gt (nle c_1142) r_v5 r_v1)) (by decide) (by decide) hm) bσ24_1234
                  · unfold F_X11_goOn_216
                    refine ok_nm (fun x18_1236 hx18_1236 => ?_)
                    refine ok_nm (fun σ20_1237 hσ20_1237 => ?_)
                    have bσ20_1237 : BX m σ20_1237 := by rw [hσ20_1237]; exact bx_far bσ30_1225 (by decide) (by decide) (by decide) (by decide)
                    refine ok_if (fun c_1238 => ?_) (fun c_1238 => ?_)
                    · unfold F_X11_goOn_242
                      refine ok_nm (fun x22_1239 hx22_1239 => ?_)
                      refine ok_nm (fun σ24_1240 hσ24_1240 => ?_)
                      have bσ24_1240 : BX m σ24_1240 := by rw [hσ24_1240]; exact bx_far bσ20_1237 (by decide) (by decide) (by decide) (by decide)
                      refine ok_nm (fun x25_1241 hx25_1241 => ?_)
                      exact ih _ _ _ _ _ _ (rg_w (rg_gt (nle c_1142) (rg_lt (nle c_1142) r_v5 r_v1) r_v1) (by decide) (by decide)) (rg_w (rg_eq hx25_1241 (rg_add (l := 1) (h := 200) (rg_lt (nle c_1142) r_v5 (rg_gt (nle c_1142) r_v5 r_v1)) (show rg (1 : Int32) (1) (1) from ⟨by decide, by decide⟩) (by decide) (by decide) (by decide) (by decide))) (by decide) (by decide)) (ms_s hx25_1241 (rg_lt (nle c_1142) r_v5 (rg_gt (nle c_1142) r_v5 r_v1)) (by decide) (by decide) hm) bσ24_1240
                    · unfold F_X11_goOn_242
                      refine ok_nm (fun x22_1242 hx22_1242 => ?_)
                      refine ok_nm (fun σ24_1243 hσ24_1243 => ?_)
                      have bσ24_1243 : BX m σ24_1243 := by rw [hσ24_1243]; exact bx_far bσ20_1237 (by decide) (by decide) (by decide) (by decide)
                      refine ok_nm (fun x25_1244 hx25_1244 => ?_)
                      exact ih _ _ _ _ _ _ (rg_w (rg_gt (nle c_1142) (rg_lt (nle c_1142) r_v5 r_v1) r_v1) (by decide) (by decide)) (rg_w (rg_eq hx25_1244 (rg_add (l := 1) (h := 200) (rg_lt (nle c_1142) r_v5 (rg_gt (nle c_1142) r_v5 r_v1)) (show rg (1 : Int32) (1) (1) from ⟨by decide, by decide⟩) (by decide) (by decide) (by decide) (by decide))) (by decide) (by decide)) (ms_s hx25_1244 (rg_lt (nle c_1142) r_v5 (rg_gt (nle c_1142) r_v5 r_v1)) (by decide) (by decide) hm) bσ24_1243
        · unfold F_X11_goOn_104
          refine ok_gd (rg_ne0 (rg_gt (nle c_1143) (show rg (0 : Int32) (0) (0) from ⟨by decide, by decide⟩) (bx_get hB (r := 1) (a := 1) (b := 1) (k := 1) (l := 0) (h := 6) (by decide) (by decide) (by decide))) (by decide)) ?_
          refine ok_nm (fun x11_1245 hx11_1245 => ?_)
          refine ok_bn (s_X8_cutterAt_1 hB hQ) (fun o12_1246 qo12_1246 => ?_)
          refine ok_oc (fun o_1247 => ?_) (fun c13_1248 o_1247 => ?_)
          · exact ok_some hB
          · refine ok_gd (qo12_1246 _ o_1247).1 ?_
            refine ok_bn2 (s_X3_tryCut (by decide) (qo12_1246 _ o_1247) hB hQ) (fun r14_1249 σ14_1250 qr14_1249 => ?_)
            obtain ⟨hr14_1249, bσ14_1250⟩ := qr14_1249
            refine ok_if (fun c_1251 => ?_) (fun c_1251 => ?_)
            · exact ok_some bσ14_1250
            · refine ok_if (fun c_1252 => ?_) (fun c_1252 => ?_)
              · unfold F_X11_goOn_186
                refine ok_if (fun c_1253 => ?_) (fun c_1253 => ?_)
                · unfold F_X11_goOn_216
                  refine ok_nm (fun x18_1254 hx18_1254 => ?_)
                  refine ok_nm (fun σ20_1255 hσ20_1255 => ?_)
                  have bσ20_1255 : BX m σ20_1255 := by rw [hσ20_1255]; exact bx_far bσ14_1250 (by decide) (by decide) (by decide) (by decide)
                  refine ok_if (fun c_1256 => ?_) (fun c_1256 => ?_)
                  · unfold F_X11_goOn_242
                    refine ok_nm (fun x22_1257 hx22_1257 => ?_)
                    refine ok_nm (fun σ24_1258 hσ24_1258 => ?_)
                    have bσ24_1258 : BX m σ24_1258 := by rw [hσ24_1258]; exact bx_far bσ20_1255 (by decide) (by decide) (by decide) (by decide)
                    refine ok_nm (fun x25_1259 hx25_1259 => ?_)
                    exact ih _ _ _ _ _ _ (rg_w (rg_gt (nle c_1142) (rg_lt (nle c_1142) r_v5 r_v1) r_v1) (by decide) (by decide)) (rg_w (rg_eq hx25_1259 (rg_add (l := 1) (h := 200) (rg_lt (nle c_1142) r_v5 (rg_gt (nle c_1142) r_v5 r_v1)) (show rg (1 : Int32) (1) (1) from ⟨by decide, by decide⟩) (by decide) (by decide) (by decide) (by decide))) (by decide) (by decide)) (ms_s hx25_1259 (rg_lt (nle c_1142) r_v5 (rg_gt (nle c_1142) r_v5 r_v1)) (by decide) (by decide) hm) bσ24_1258
                  · unfold F_X11_goOn_242
                    refine ok_nm (fun x22_1260 hx22_1260 => ?_)
                    refine ok_nm (fun σ24_1261 hσ24_1261 => ?_)
                    have bσ24_1261 : BX m σ24_1261 := by rw [hσ24_1261]; exact bx_far bσ20_1255 (by decide) (by decide) (by decide) (by decide)
                    refine ok_nm (fun x25_1262 hx25_1262 => ?_)
                    exact ih _ _ _ _ _ _ (rg_w (rg_gt (nle c_1142) (rg_lt (nle c_1142) r_v5 r_v1) r_v1) (by decide) (by decide)) (rg_w (rg_eq hx25_1262 (rg_add (l := 1) (h := 200) (rg_lt (nle c_1142) r_v5 (rg_gt (nle c_1142) r_v5 r_v1)) (show rg (1 : Int32) (1) (1) from ⟨by decide, by decide⟩) (by decide) (by decide) (by decide) (by decide))) (by decide) (by decide)) (ms_s hx25_1262 (rg_lt (nle c_1142) r_v5 (rg_gt (nle c_1142) r_v5 r_v1)) (by decide) (by decide) hm) bσ24_1261
                · unfold F_X11_goOn_216
                  refine ok_nm (fun x18_1263 hx18_1263 => ?_)
                  refine ok_nm (fun σ20_1264 hσ20_1264 => ?_)
                  have bσ20_1264 : BX m σ20_1264 := by rw [hσ20_1264]; exact bx_far bσ14_1250 (by decide) (by decide) (by decide) (by decide)
                  refine ok_if (fun c_1265 => ?_) (fun c_1265 => ?_)
                  · unfold F_X11_goOn_242
                    refine ok_nm (fun x22_1266 hx22_1266 => ?_)
                    refine ok_nm (fun σ24_1267 hσ24_1267 => ?_)
                    have bσ24_1267 : BX m σ24_1267 := by rw [hσ24_1267]; exact bx_far bσ20_1264 (by decide) (by decide) (by decide) (by decide)
                    refine ok_nm (fun x25_1268 hx25_1268 => ?_)
                    exact ih _ _ _ _ _ _ (rg_w (rg_gt (nle c_1142) (rg_lt (nle c_1142) r_v5 r_v1) r_v1) (by decide) (by decide)) (rg_w (rg_eq hx25_1268 (rg_add (l := 1) (h := 200) (rg_lt (nle c_1142) r_v5 (rg_gt (nle c_1142) r_v5 r_v1)) (show rg (1 : Int32) (1) (1) from ⟨by decide, by decide⟩) (by decide) (by decide) (by decide) (by decide))) (by decide) (by decide)) (ms_s hx25_1268 (rg_lt (nle c_1142) r_v5 (rg_gt (nle c_1142) r_v5 r_v1)) (by decide) (by decide) hm) bσ24_1267
                  · unfold F_X11_goOn_242
                    refine ok_nm (fun x22_1269 hx22_1269 => ?_)
                    refine ok_nm (fun σ24_1270 hσ24_1270 => ?_)
                    have bσ24_1270 : BX m σ24_1270 := by rw [hσ24_1270]; exact bx_far bσ20_1264 (by decide) (by decide) (by decide) (by decide)
                    refine ok_nm (fun x25_1271 hx25_1271 => ?_)
                    exact ih _ _ _ _ _ _ (rg_w (rg_gt (nle c_1142) (rg_lt (nle c_1142) r_v5 r_v1) r_v1) (by decide) (by decide)) (rg_w (rg_eq hx25_1271 (rg_add (l := 1) (h := 200) (rg_lt (nle c_1142) r_v5 (rg_gt (nle c_1142) r_v5 r_v1)) (show rg (1 : Int32) (1) (1) from ⟨by decide, by decide⟩) (by decide) (by decide) (by decide) (by decide))) (by decide) (by decide)) (ms_s hx25_1271 (rg_lt (nle c_1142) r_v5 (rg_gt (nle c_1142) r_v5 r_v1)) (by decide) (by decide) hm) bσ24_1270
              · refine ok_gd (rg_inb (rg_eq hx11_1245 (rg_rem0 (rg_lt (nle c_1142) r_v5 (rg_gt (nle c_1142) r_v5 r_v1)) (rg_gt (nle c_1143) (show rg (0 : Int32) (0) (0) from ⟨by decide, by decide⟩) (bx_get hB (r := 1) (a := 1) (b := 1) (k := 1) (l := 0) (h := 6) (by decide) (by decide) (by decide))) (by decide) (by decide))) (by decide) (by decide)) ?_
                refine ok_nm (fun x27_1272 hx27_1272 => ?_)
                refine ok_gd (rg_inb (rg_eq hx11_1245 (rg_rem0 (rg_lt (nle c_1142) r_v5 (rg_gt (nle c_1142) r_v5 r_v1)) (rg_gt (nle c_1143) (show rg (0 : Int32) (0) (0) from ⟨by decide, by decide⟩) (bx_get hB (r := 1) (a := 1) (b := 1) (k := 1) (l := 0) (h := 6) (by decide) (by decide) (by decide))) (by decide) (by decide))) (by decide) (by decide)) ?_
                refine ok_nm (fun σ30_1273 hσ30_1273 => ?_)
                have bσ30_1273 : BX m σ30_1273 := by rw [hσ30_1273]; exact bx_far bσ14_1250 (by decide) (by decide) (by decide) (by decide)
                unfold F_X11_goOn_186
                refine ok_if (fun c_1274 => ?_) (fun c_1274 => ?_)
                · unfold F_X11_goOn_216
                  refine ok_nm (fun x18_1275 hx18_1275 => ?_)
                  refine ok_nm (fun σ20_1276 hσ20_1276 => ?_)
                  have bσ20_1276 : BX m σ20_1276 := by rw [hσ20_1276]; exact bx_far bσ30_1273 (by decide) (by decide) (by decide) (by decide)
                  refine ok_if (fun c_1277 => ?_) (fun c_1277 => ?_)
                  · unfold F_X11_goOn_242
                    refine ok_nm (fun x22_1278 hx22_1278 => ?_)
                    refine ok_nm (fun σ24_1279 hσ24_1279 => ?_)
                    have bσ24_1279 : BX m σ24_1279 := by rw [hσ24_1279]; exact bx_far bσ20_1276 (by decide) (by decide) (by decide) (by decide)
                    refine ok_nm (fun x25_1280 hx25_1280 => ?_)
                    exact ih _ _ _ _ _ _ (rg_w (rg_gt (nle c_1142) (rg_lt (nle c_1142) r_v5 r_v1) r_v1) (by decide) (by decide)) (rg_w (rg_eq hx25_1280 (rg_add (l := 1) (h := 200) (rg_lt (nle c_1142) r_v5 (rg_gt (nle c_1142) r_v5 r_v1)) (show rg (1 : Int32) (1) (1) from ⟨by decide, by decide⟩) (by decide) (by decide) (by decide) (by decide))) (by decide) (by decide)) (ms_s hx25_1280 (rg_lt (nle c_1142) r_v5 (rg_gt (nle c_1142) r_v5 r_v1)) (by decide) (by decide) hm) bσ24_1279
                  · unfold F_X11_goOn_242
                    refine ok_nm (fun x22_1281 hx22_1281 => ?_)
                    refine ok_nm (fun σ24_1282 hσ24_1282 => ?_)
                    have bσ24_1282 : BX m σ24_1282 := by rw [hσ24_1282]; exact bx_far bσ20_1276 (by decide) (by decide) (by decide) (by decide)
                    refine ok_nm (fun x25_1283 hx25_1283 => ?_)
                    exact ih _ _ _ _ _ _ (rg_w (rg_gt (nle c_1142) (rg_lt (nle c_1142) r_v5 r_v1) r_v1) (by decide) (by decide)) (rg_w (rg_eq hx25_1283 (rg_add (l := 1) (h := 200) (rg_lt (nle c_1142) r_v5 (rg_gt (nle c_1142) r_v5 r_v1)) (show rg (1 : Int32) (1) (1) from ⟨by decide, by decide⟩) (by decide) (by decide) (by decide) (by decide))) (by decide) (by decide)) (ms_s hx25_1283 (rg_lt (nle c_1142) r_v5 (rg_gt (nle c_1142) r_v5 r_v1)) (by decide) (by decide) hm) bσ24_1282
                · unfold F_X11_goOn_216
                  refine ok_nm (fun x18_1284 hx18_1284 => ?_)
                  refine ok_nm (fun σ20_1285 hσ20_1285 => ?_)
                  have bσ20_1285 : BX m σ20_1285 := by rw [hσ20_1285]; exact bx_far bσ30_1273 (by decide) (by decide) (by decide) (by decide)
                  refine ok_if (fun c_1286 => ?_) (fun c_1286 => ?_)
                  · unfold F_X11_goOn_242
                    refine ok_nm (fun x22_1287 hx22_1287 => ?_)
                    refine ok_nm (fun σ24_1288 hσ24_1288 => ?_)
                    have bσ24_1288 : BX m σ24_1288 := by rw [hσ24_1288]; exact bx_far bσ20_1285 (by decide) (by decide) (by decide) (by decide)
                    refine ok_nm (fun x25_1289 hx25_1289 => ?_)
                    exact ih _ _ _ _ _ _ (rg_w (rg_gt (nle c_1142) (rg_lt (nle c_1142) r_v5 r_v1) r_v1) (by decide) (by decide)) (rg_w (rg_eq hx25_1289 (rg_add (l := 1) (h := 200) (rg_lt (nle c_1142) r_v5 (rg_gt (nle c_1142) r_v5 r_v1)) (show rg (1 : Int32) (1) (1) from ⟨by decide, by decide⟩) (by decide) (by decide) (by decide) (by decide))) (by decide) (by decide)) (ms_s hx25_1289 (rg_lt (nle c_1142) r_v5 (rg_gt (nle c_1142) r_v5 r_v1)) (by decide) (by decide) hm) bσ24_1288
                  · unfold F_X11_goOn_242
                    refine ok_nm (fun x22_1290 hx22_1290 => ?_)
                    refine ok_nm (fun σ24_1291 hσ24_1291 => ?_)
                    have bσ24_1291 : BX m σ24_1291 := by rw [hσ24_1291]; exact bx_far bσ20_1285 (by decide) (by decide) (by decide) (by decide)
                    refine ok_nm (fun x25_1292 hx25_1292 => ?_)
                    exact ih _ _ _ _ _ _ (rg_w (rg_gt (nle c_1142) (rg_lt (nle c_1142) r_v5 r_v1) r_v1) (by decide) (by decide)) (rg_w (rg_eq hx25_1292 (rg_add (l := 1) (h := 200) (rg_lt (nle c_1142) r_v5 (rg_gt (nle c_1142) r_v5 r_v1)) (show rg (1 : Int32) (1) (1) from ⟨by decide, by decide⟩) (by decide) (by decide) (by decide) (by decide))) (by decide) (by decide)) (ms_s hx25_1292 (rg_lt (nle c_1142) r_v5 (rg_gt (nle c_1142) r_v5 r_v1)) (by decide) (by decide) hm) bσ24_1291

set_option maxHeartbeats 4000000 in
set_option maxRecDepth 100000 in
theorem s_X11_goOn_27 {m : Int} {N : Nat} {K len : Nat → Nat} {a1 : Int32} {a2 : Int32} {a3 : Int32} {a4 : Int32} {ρ : RG} (r_a1 : rg a1 (0) (200)) (hQ : PR N K len ρ) : ∀ (n : Nat) (σ : SG) (v1 : Int32) (v2 : Int32) (v3 : Int32) (v4 : Int32) (v5 : Int32), rg v1 (0) (200) → rg v5 (0) (6) → (6 : Int) - v5.toInt < (n : Int) → BX m σ → ok (F_X11_goOn_27 N K len a1 a2 a3 a4 n σ ρ v1 v2 v3 v4 v5) (fun q => BX m q) := by
  intro n
  induction n with
  | zero => intro σ v1 v2 v3 v4 v5 r_v1 r_v5 hm hB; exact (ms_z r_v5 (by decide) hm).elim
  | succ n ih =>
    intro σ v1 v2 v3 v4 v5 r_v1 r_v5 hm hB
    unfold F_X11_goOn_27
    refine ok_if (fun c_1295 => ?_) (fun c_1295 => ?_)
    · exact (s_X11_goOn_54 r_a1 hQ 1024 _ _ _ _ _ _ r_v1 (rg_w (show rg (0 : Int32) (0) (0) from ⟨by decide, by decide⟩) (by decide) (by decide)) (ms_0 (show rg (0 : Int32) (0) (0) from ⟨by decide, by decide⟩) (by decide)) hB)
    · refine ok_gd (rg_inb (rg_lt (nle c_1295) r_v5 (show rg (6 : Int32) (6) (6) from ⟨by decide, by decide⟩)) (by decide) (by decide)) ?_
      refine ok_nm (fun σ36_1296 hσ36_1296 => ?_)
      have bσ36_1296 : BX m σ36_1296 := by rw [hσ36_1296]; exact bx_far hB (by decide) (by decide) (by decide) (by decide)
      refine ok_nm (fun x37_1297 hx37_1297 => ?_)
      exact ih _ _ _ _ _ _ r_v1 (rg_w (rg_eq hx37_1297 (rg_add (l := 1) (h := 6) (rg_lt (nle c_1295) r_v5 (show rg (6 : Int32) (6) (6) from ⟨by decide, by decide⟩)) (show rg (1 : Int32) (1) (1) from ⟨by decide, by decide⟩) (by decide) (by decide) (by decide) (by decide))) (by decide) (by decide)) (ms_s hx37_1297 (rg_lt (nle c_1295) r_v5 (show rg (6 : Int32) (6) (6) from ⟨by decide, by decide⟩)) (by decide) (by decide) hm) bσ36_1296

set_option maxHeartbeats 4000000 in
set_option maxRecDepth 100000 in
theorem s_X11_goOn {m : Int} {N : Nat} {K len : Nat → Nat} {a1 : Int32} {a2 : Int32} {a3 : Int32} {a4 : Int32} {σ : SG} {ρ : RG} (r_a1 : rg a1 (0) (200)) (hB : BX m σ) (hQ : PR N K len ρ) : ok (F_X11_goOn N K len a1 a2 a3 a4 σ ρ) (fun q => BX m q) := by
  unfold F_X11_goOn
  refine ok_bn (s_X3_takes (by decide) (by decide) hB hQ) (fun σ1_1298 qσ1_1298 => ?_)
  refine ok_nm (fun σ3_1299 hσ3_1299 => ?_)
  have bσ3_1299 : BX m σ3_1299 := by rw [hσ3_1299]; exact bx_far qσ1_1298 (by decide) (by decide) (by decide) (by decide)
  refine ok_nm (fun σ5_1300 hσ5_1300 => ?_)
  have bσ5_1300 : BX m σ5_1300 := by rw [hσ5_1300]; exact bx_far bσ3_1299 (by decide) (by decide) (by decide) (by decide)
  exact (s_X11_goOn_27 r_a1 hQ 1024 _ _ _ _ _ _ r_a1 (rg_w (show rg (0 : Int32) (0) (0) from ⟨by decide, by decide⟩) (by decide) (by decide)) (ms_0 (show rg (0 : Int32) (0) (0) from ⟨by decide, by decide⟩) (by decide)) bσ5_1300)

set_option maxHeartbeats 4000000 in
set_option maxRecDepth 100000 in
theorem s_X11_on {m : Int} {N : Nat} {K len : Nat → Nat} {a1 : Int32} {a2 : Int32} {σ : SG} {ρ : RG} (hB : BX m σ) (hQ : PR N K len ρ) : ok (F_X11_on N K len a1 a2 σ ρ) (fun q => rg q.1 (-2147483648) (2147483647) ∧ BX m q.2) := by
  unfold F_X11_on
  refine ok_nm (fun x1_1360 hx1_1360 => ?_)
  refine ok_bn (s_X8_cutterAt_1 hB hQ) (fun o2_1361 qo2_1361 => ?_)
  refine ok_oc (fun o_1362 => ?_) (fun c3_1363 o_1362 => ?_)
  · unfold F_X11_on_19
    refine ok_bn (s_X11_isWithin) (fun r4_1364 qr4_1364 => ?_)
    refine ok_if (fun c_1365 => ?_) (fun c_1365 => ?_)
    · refine ok_if (fun c_1366 => ?_) (fun c_1366 => ?_)
      · exact ok_some ⟨(rg_w (show rg (-10001 : Int32) (-10001) (-10001) from ⟨by decide, by decide⟩) (by decide) (by decide)), hB⟩
      · exact absurd (by decide) c_1366
    · obtain ⟨w_1367, w_1368⟩ := qr4_1364.2 c_1365
      unfold F_X11_on_37
      refine ok_bn (s_X11_isWithin) (fun r6_1369 qr6_1369 => ?_)
      refine ok_if (fun c_1370 => ?_) (fun c_1370 => ?_)
      · exact ok_some ⟨(rg_w (show rg (-10002 : Int32) (-10002) (-10002) from ⟨by decide, by decide⟩) (by decide) (by decide)), hB⟩
      · obtain ⟨w_1371, w_1372⟩ := qr6_1369.2 c_1370
        refine ok_bn (s_X11_goOn (rg_w (rg_le w_1372 (rg_ge w_1371 (show rg (0 : Int32) (0) (0) from ⟨by decide, by decide⟩) (rg_any _)) (show rg (40 : Int32) (40) (40) from ⟨by decide, by decide⟩)) (by decide) (by decide)) hB hQ) (fun σ8_1373 qσ8_1373 => ?_)
        refine ok_if (fun c_1374 => ?_) (fun c_1374 => ?_)
        · exact ok_some ⟨(rg_any _), qσ8_1373⟩
        · refine ok_if (fun c_1375 => ?_) (fun c_1375 => ?_)
          · exact ok_some ⟨(rg_any _), qσ8_1373⟩
          · refine ok_if (fun c_1376 => ?_) (fun c_1376 => ?_)
            · exact ok_some ⟨(rg_any _), qσ8_1373⟩
            · refine ok_if (fun c_1377 => ?_) (fun c_1377 => ?_)
              · refine ok_nm (fun x10_1378 hx10_1378 => ?_)
                exact ok_some ⟨(rg_any _), qσ8_1373⟩
              · refine ok_if (fun c_1379 => ?_) (fun c_1379 => ?_)
                · refine ok_nm (fun x11_1380 hx11_1380 => ?_)
                  exact ok_some ⟨(rg_any _), qσ8_1373⟩
                · refine ok_if (fun c_1381 => ?_) (fun c_1381 => ?_)
                  · exact ok_some ⟨(rg_any _), qσ8_1373⟩
                  · refine ok_nm (fun x12_1382 hx12_1382 => ?_)
                    refine ok_bn (s_X11_valueAt (by decide)) (fun r13_1383 qr13_1383 => ?_)
                    exact ok_some ⟨qr13_1383, qσ8_1373⟩
  · refine ok_gd (qo2_1361 _ o_1362).1 ?_
    unfold F_X11_on_19
    refine ok_bn (s_X11_isWithin) (fun r4_1384 qr4_1384 => ?_)
    refine ok_if (fun c_1385 => ?_) (fun c_1385 => ?_)
    · refine ok_if (fun c_1386 => ?_) (fun c_1386 => ?_)
      · exact absurd c_1386 (by decide)
      · unfold F_X11_on_37
        refine ok_bn (s_X11_isWithin) (fun r6_1387 qr6_1387 => ?_)
        refine ok_if (fun c_1388 => ?_) (fun c_1388 => ?_)
        · exact ok_some ⟨(rg_w (show rg (-10002 : Int32) (-10002) (-10002) from ⟨by decide, by decide⟩) (by decide) (by decide)), hB⟩
        · obtain ⟨w_1389, w_1390⟩ := qr6_1387.2 c_1388
          refine ok_bn (s_X11_goOn (rg_w (rg_le w_1390 (rg_ge w_1389 (show rg (0 : Int32) (0) (0) from ⟨by decide, by decide⟩) (rg_any _)) (show rg (40 : Int32) (40) (40) from ⟨by decide, by decide⟩)) (by decide) (by decide)) hB hQ) (fun σ8_1391 qσ8_1391 => ?_)
          refine ok_if (fun c_1392 => ?_) (fun c_1392 => ?_)
          · exact ok_some ⟨(rg_any _), qσ8_1391⟩
          · refine ok_if (fun c_1393 => ?_) (fun c_1393 => ?_)
            · exact ok_some ⟨(rg_any _), qσ8_1391⟩
            · refine ok_if (fun c_1394 => ?_) (fun c_1394 => ?_)
              · exact ok_some ⟨(rg_any _), qσ8_1391⟩
              · refine ok_if (fun c_1395 => ?_) (fun c_1395 => ?_)
                · refine ok_nm (fun x10_1396 hx10_1396 => ?_)
                  exact ok_some ⟨(rg_any _), qσ8_1391⟩
                · refine ok_if (fun c_1397 => ?_) (fun c_1397 => ?_)
                  · refine ok_nm (fun x11_1398 hx11_1398 => ?_)
                    exact ok_some ⟨(rg_any _), qσ8_1391⟩
                  · refine ok_if (fun c_1399 => ?_) (fun c_1399 => ?_)
                    · exact ok_some ⟨(rg_any _), qσ8_1391⟩
                    · refine ok_nm (fun x12_1400 hx12_1400 => ?_)
                      refine ok_bn (s_X11_valueAt (by decide)) (fun r13_1401 qr13_1401 => ?_)
                      exact ok_some ⟨qr13_1401, qσ8_1391⟩
    · obtain ⟨w_1402, w_1403⟩ := qr4_1384.2 c_1385
      unfold F_X11_on_37
      refine ok_bn (s_X11_isWithin) (fun r6_1404 qr6_1404 => ?_)
      refine ok_if (fun c_1405 => ?_) (fun c_1405 => ?_)
      · exact ok_some ⟨(rg_w (show rg (-10002 : Int32) (-10002) (-10002) from ⟨by decide, by decide⟩) (by decide) (by decide)), hB⟩
      · obtain ⟨w_1406, w_1407⟩ := qr6_1404.2 c_1405
        refine ok_bn (s_X11_goOn (rg_w (rg_le w_1407 (rg_ge w_1406 (show rg (0 : Int32) (0) (0) from ⟨by decide, by decide⟩) (rg_any _)) (show rg (40 : Int32) (40) (40) from ⟨by decide, by decide⟩)) (by decide) (by decide)) hB hQ) (fun σ8_1408 qσ8_1408 => ?_)
        refine ok_if (fun c_1409 => ?_) (fun c_1409 => ?_)
        · exact ok_some ⟨(rg_any _), qσ8_1408⟩
        · refine ok_if (fun c_1410 => ?_) (fun c_1410 => ?_)
          · exact ok_some ⟨(rg_any _), qσ8_1408⟩
          · refine ok_if (fun c_1411 => ?_) (fun c_1411 => ?_)
            · exact ok_some ⟨(rg_any _), qσ8_1408⟩
            · refine ok_if (fun c_1412 => ?_) (fun c_1412 => ?_)
              · refine ok_nm (fun x10_1413 hx10_1413 => ?_)
                exact ok_some ⟨(rg_any _), qσ8_1408⟩
              · refine ok_if (fun c_1414 => ?_) (fun c_1414 => ?_)
                · refine ok_nm (fun x11_1415 hx11_1415 => ?_)
                  exact ok_some ⟨(rg_any _), qσ8_1408⟩
                · refine ok_if (fun c_1416 => ?_) (fun c_1416 => ?_)
                  · exact ok_some ⟨(rg_any _), qσ8_1408⟩
                  · refine ok_nm (fun x12_1417 hx12_1417 => ?_)
                    refine ok_bn (s_X11_valueAt (by decide)) (fun r13_1418 qr13_1418 => ?_)
                    exact ok_some ⟨qr13_1418, qσ8_1408⟩

set_option maxHeartbeats 4000000 in
set_option maxRecDepth 100000 in
theorem s_X11_toasted {m : Int} {N : Nat} {K len : Nat → Nat} {a1 : Int32} {a2 : Int32} {σ : SG} {ρ : RG} (hB : BX m σ) (hQ : PR N K len ρ) : ok (F_X11_toasted N K len a1 a2 σ ρ) (fun q => rg q.1 (-2147483648) (2147483647) ∧ BX m q.2) := by
  unfold F_X11_toasted
  refine ok_bn (s_X11_isWithin) (fun r1_1428 qr1_1428 => ?_)
  refine ok_if (fun c_1429 => ?_) (fun c_1429 => ?_)
  · exact ok_some ⟨(rg_w (show rg (-2 : Int32) (-2) (-2) from ⟨by decide, by decide⟩) (by decide) (by decide)), hB⟩
  · obtain ⟨w_1430, w_1431⟩ := qr1_1428.2 c_1429
    refine ok_bn (s_X11_isWithin) (fun r3_1432 qr3_1432 => ?_)
    refine ok_if (fun c_1433 => ?_) (fun c_1433 => ?_)
    · exact ok_some ⟨(rg_w (show rg (-2 : Int32) (-2) (-2) from ⟨by decide, by decide⟩) (by decide) (by decide)), hB⟩
    · obtain ⟨w_1434, w_1435⟩ := qr3_1432.2 c_1433
      refine ok_bn (s_X11_goOn (rg_w (rg_le w_1431 (rg_ge w_1430 (show rg (0 : Int32) (0) (0) from ⟨by decide, by decide⟩) (rg_any _)) (show rg (40 : Int32) (40) (40) from ⟨by decide, by decide⟩)) (by decide) (by decide)) hB hQ) (fun σ5_1436 qσ5_1436 => ?_)
      exact ok_some ⟨(rg_any _), qσ5_1436⟩

set_option maxHeartbeats 4000000 in
set_option maxRecDepth 100000 in
theorem s_X11_lasts {m : Int} {N : Nat} {K len : Nat → Nat} {σ : SG} {ρ : RG} (hB : BX m σ) (hQ : PR N K len ρ) : ok (F_X11_lasts N K len σ ρ) (fun q => rg q.1 (-2147483648) (2147483647) ∧ BX m q.2) := by
  unfold F_X11_lasts
  refine ok_bn (s_X11_goOn (rg_w (show rg (200 : Int32) (200) (200) from ⟨by decide, by decide⟩) (by decide) (by decide)) hB hQ) (fun σ1_1439 qσ1_1439 => ?_)
  refine ok_nm (fun x2_1440 hx2_1440 => ?_)
  exact ok_some ⟨(rg_any _), qσ1_1439⟩

set_option maxHeartbeats 4000000 in
set_option maxRecDepth 100000 in
theorem s_X11_enough_21 {m : Int} {N : Nat} {K len : Nat → Nat} {a1 : Int32} {ρ : RG} (hQ : PR N K len ρ) : ∀ (n : Nat) (σ : SG) (r2 : Nat) (v3 : Int32), CK N K len ρ r2 → rg v3 (1) (41) → (41 : Int) - v3.toInt < (n : Int) → BX m σ → ok (F_X11_enough_21 N K len a1 n σ ρ r2 v3) (fun q => rg q.1 (-5) (40) ∧ BX m q.2) := by
  intro n
  induction n with
  | zero => intro σ r2 v3 k_r2 r_v3 hm hB; exact (ms_z r_v3 (by decide) hm).elim
  | succ n ih =>
    intro σ r2 v3 k_r2 r_v3 hm hB
    unfold F_X11_enough_21
    refine ok_gd k_r2.1 ?_
    refine ok_if (fun c_1452 => ?_) (fun c_1452 => ?_)
    · exact ok_some ⟨(rg_w (show rg (-5 : Int32) (-5) (-5) from ⟨by decide, by decide⟩) (by decide) (by decide)), hB⟩
    · refine ok_bn2 (s_X11_tryStep (rg_w (show rg (0 : Int32) (0) (0) from ⟨by decide, by decide⟩) (by decide) (by decide)) k_r2 hB hQ) (fun r5_1453 σ5_1454 qr5_1453 => ?_)
      obtain ⟨hr5_1453, bσ5_1454⟩ := qr5_1453
      refine ok_if (fun c_1455 => ?_) (fun c_1455 => ?_)
      · unfold F_X11_enough_61
        refine ok_gd k_r2.1 ?_
        refine ok_nm (fun x7_1456 hx7_1456 => ?_)
        exact ih _ _ _ k_r2 (rg_w (rg_eq hx7_1456 (rg_add (l := 2) (h := 41) (rg_le (nlt c_1452) r_v3 (show rg (40 : Int32) (40) (40) from ⟨by decide, by decide⟩)) (show rg (1 : Int32) (1) (1) from ⟨by decide, by decide⟩) (by decide) (by decide) (by decide) (by decide))) (by decide) (by decide)) (ms_s hx7_1456 (rg_le (nlt c_1452) r_v3 (show rg (40 : Int32) (40) (40) from ⟨by decide, by decide⟩)) (by decide) (by decide) hm) bσ5_1454
      · refine ok_if (fun c_1457 => ?_) (fun c_1457 => ?_)
        · unfold F_X11_enough_61
          refine ok_gd k_r2.1 ?_
          refine ok_nm (fun x7_1458 hx7_1458 => ?_)
          exact ih _ _ _ k_r2 (rg_w (rg_eq hx7_1458 (rg_add (l := 2) (h := 41) (rg_le (nlt c_1452) r_v3 (show rg (40 : Int32) (40) (40) from ⟨by decide, by decide⟩)) (show rg (1 : Int32) (1) (1) from ⟨by decide, by decide⟩) (by decide) (by decide) (by decide) (by decide))) (by decide) (by decide)) (ms_s hx7_1458 (rg_le (nlt c_1452) r_v3 (show rg (40 : Int32) (40) (40) from ⟨by decide, by decide⟩)) (by decide) (by decide) hm) bσ5_1454
        · exact ok_some ⟨(rg_w (rg_le (nlt c_1452) r_v3 (show rg (40 : Int32) (40) (40) from ⟨by decide, by decide⟩)) (by decide) (by decide)), bσ5_1454⟩

set_option maxHeartbeats 4000000 in
set_option maxRecDepth 100000 in
theorem s_X11_enough {m : Int} {N : Nat} {K len : Nat → Nat} {a1 : Int32} {σ : SG} {ρ : RG} (hB : BX m σ) (hQ : PR N K len ρ) : ok (F_X11_enough N K len a1 σ ρ) (fun q => rg q.1 (-5) (40) ∧ BX m q.2) := by
  unfold F_X11_enough
  refine ok_bn (s_X8_cutterAt_1 hB hQ) (fun o1_1459 qo1_1459 => ?_)
  refine ok_oc (fun o_1460 => ?_) (fun c2_1461 o_1460 => ?_)
  · exact ok_some ⟨(rg_w (show rg (-1 : Int32) (-1) (-1) from ⟨by decide, by decide⟩) (by decide) (by decide)), hB⟩
  · refine ok_gd (qo1_1459 _ o_1460).1 ?_
    refine ok_bn (s_X11_startSteps hB hQ) (fun σ3_1462 qσ3_1462 => ?_)
    exact (s_X11_enough_21 hQ 1024 _ _ _ (qo1_1459 _ o_1460) (rg_w (show rg (1 : Int32) (1) (1) from ⟨by decide, by decide⟩) (by decide) (by decide)) (ms_0 (show rg (1 : Int32) (1) (1) from ⟨by decide, by decide⟩) (by decide)) qσ3_1462)

set_option maxHeartbeats 4000000 in
set_option maxRecDepth 100000 in
theorem s_X11_when_44 {m : Int} {N : Nat} {K len : Nat → Nat} {a1 : Int32} {a2 : Int32} {ρ : RG} (r_a1 : rg a1 (1) (20)) (r_a2 : rg a2 (0) (1)) (hQ : PR N K len ρ) : ∀ (n : Nat) (σ : SG) (v1 : Int32) (v2 : Int32) (v3 : Int32) (v4 : Int32) (v5 : Int32), rg v1 (1) (20) → rg v2 (0) (1) → rg v5 (0) (20) → (20 : Int) - v5.toInt < (n : Int) → BX m σ → ok (F_X11_when_44 N K len a1 a2 n σ ρ v1 v2 v3 v4 v5) (fun q => rg q.1 (-2147483648) (2147483647) ∧ BX m q.2) := by
  intro n
  induction n with
  | zero => intro σ v1 v2 v3 v4 v5 r_v1 r_v2 r_v5 hm hB; exact (ms_z r_v5 (by decide) hm).elim
  | succ n ih =>
    intro σ v1 v2 v3 v4 v5 r_v1 r_v2 r_v5 hm hB
    unfold F_X11_when_44
    refine ok_if (fun c_1479 => ?_) (fun c_1479 => ?_)
    · refine ok_if (fun c_1480 => ?_) (fun c_1480 => ?_)
      · exact ok_some ⟨(rg_any _), hB⟩
      · refine ok_if (fun c_1481 => ?_) (fun c_1481 => ?_)
        · exact ok_some ⟨(rg_w (rg_eql c_1481 (show rg (-5 : Int32) (-5) (-5) from ⟨by decide, by decide⟩)) (by decide) (by decide)), hB⟩
        · exact ok_some ⟨(rg_any _), hB⟩
    · refine ok_bn (s_X11_goOn (rg_w r_v1 (by decide) (by decide)) hB hQ) (fun σ9_1482 qσ9_1482 => ?_)
      refine ok_if (fun c_1483 => ?_) (fun c_1483 => ?_)
      · unfold F_X11_when_76
        refine ok_nm (fun x11_1484 hx11_1484 => ?_)
        exact ih _ _ _ _ _ _ r_v1 r_v2 (rg_w (rg_eq hx11_1484 (rg_add (l := 1) (h := 20) (rg_lt (nle c_1479) r_v5 r_v1) (show rg (1 : Int32) (1) (1) from ⟨by decide, by decide⟩) (by decide) (by decide) (by decide) (by decide))) (by decide) (by decide)) (ms_s hx11_1484 (rg_lt (nle c_1479) r_v5 r_v1) (by decide) (by decide) hm) qσ9_1482
      · unfold F_X11_when_76
        refine ok_nm (fun x11_1485 hx11_1485 => ?_)
        exact ih _ _ _ _ _ _ r_v1 r_v2 (rg_w (rg_eq hx11_1485 (rg_add (l := 1) (h := 20) (rg_lt (nle c_1479) r_v5 r_v1) (show rg (1 : Int32) (1) (1) from ⟨by decide, by decide⟩) (by decide) (by decide) (by decide) (by decide))) (by decide) (by decide)) (ms_s hx11_1485 (rg_lt (nle c_1479) r_v5 r_v1) (by decide) (by decide) hm) qσ9_1482

set_option maxHeartbeats 4000000 in
set_option maxRecDepth 100000 in
theorem s_X11_when {m : Int} {N : Nat} {K len : Nat → Nat} {a1 : Int32} {a2 : Int32} {σ : SG} {ρ : RG} (hB : BX m σ) (hQ : PR N K len ρ) : ok (F_X11_when N K len a1 a2 σ ρ) (fun q => rg q.1 (-2147483648) (2147483647) ∧ BX m q.2) := by
  unfold F_X11_when
  refine ok_bn (s_X11_isWithin) (fun r1_1486 qr1_1486 => ?_)
  refine ok_if (fun c_1487 => ?_) (fun c_1487 => ?_)
  · exact ok_some ⟨(rg_w (show rg (-1 : Int32) (-1) (-1) from ⟨by decide, by decide⟩) (by decide) (by decide)), hB⟩
  · obtain ⟨w_1488, w_1489⟩ := qr1_1486.2 c_1487
    refine ok_bn (s_X11_isWithin) (fun r3_1490 qr3_1490 => ?_)
    refine ok_if (fun c_1491 => ?_) (fun c_1491 => ?_)
    · exact ok_some ⟨(rg_w (show rg (-2 : Int32) (-2) (-2) from ⟨by decide, by decide⟩) (by decide) (by decide)), hB⟩
    · obtain ⟨w_1492, w_1493⟩ := qr3_1490.2 c_1491
      refine ok_bn (s_X11_goOn (rg_w (rg_le w_1493 (rg_ge w_1492 (show rg (1 : Int32) (1) (1) from ⟨by decide, by decide⟩) (rg_any _)) (show rg (20 : Int32) (20) (20) from ⟨by decide, by decide⟩)) (by decide) (by decide)) hB hQ) (fun σ5_1494 qσ5_1494 => ?_)
      exact (s_X11_when_44 (rg_le w_1493 (rg_ge w_1492 (show rg (1 : Int32) (1) (1) from ⟨by decide, by decide⟩) (rg_any _)) (show rg (20 : Int32) (20) (20) from ⟨by decide, by decide⟩)) (rg_le w_1489 (rg_ge w_1488 (show rg (0 : Int32) (0) (0) from ⟨by decide, by decide⟩) (rg_any _)) (show rg (1 : Int32) (1) (1) from ⟨by decide, by decide⟩)) hQ 1024 _ _ _ _ _ _ (rg_le w_1493 (rg_ge w_1492 (show rg (1 : Int32) (1) (1) from ⟨by decide, by decide⟩) (rg_any _)) (show rg (20 : Int32) (20) (20) from ⟨by decide, by decide⟩)) (rg_le w_1489 (rg_ge w_1488 (show rg (0 : Int32) (0) (0) from ⟨by decide, by decide⟩) (rg_any _)) (show rg (1 : Int32) (1) (1) from ⟨by decide, by decide⟩)) (rg_w (show rg (0 : Int32) (0) (0) from ⟨by decide, by decide⟩) (by decide) (by decide)) (ms_0 (show rg (0 : Int32) (0) (0) from ⟨by decide, by decide⟩) (by decide)) qσ5_1494)

set_option maxHeartbeats 4000000 in
set_option maxRecDepth 100000 in
theorem s_X11_guide {m : Int} {N : Nat} {K len : Nat → Nat} {a1 : Int32} {σ : SG} {ρ : RG} (hB : BX m σ) (hQ : PR N K len ρ) : ok (F_X11_guide N K len a1 σ ρ) (fun q => rg q.1 (-2147483648) (2147483647) ∧ BX m q.2) := by
  unfold F_X11_guide
  refine ok_bn (s_X11_isWithin) (fun r1_1502 qr1_1502 => ?_)
  refine ok_if (fun c_1503 => ?_) (fun c_1503 => ?_)
  · exact ok_some ⟨(rg_w (show rg (-10002 : Int32) (-10002) (-10002) from ⟨by decide, by decide⟩) (by decide) (by decide)), hB⟩
  · obtain ⟨w_1504, w_1505⟩ := qr1_1502.2 c_1503
    refine ok_bn (s_X11_goOn (rg_w (rg_le w_1505 (rg_ge w_1504 (show rg (0 : Int32) (0) (0) from ⟨by decide, by decide⟩) (rg_any _)) (show rg (40 : Int32) (40) (40) from ⟨by decide, by decide⟩)) (by decide) (by decide)) hB hQ) (fun σ3_1506 qσ3_1506 => ?_)
    refine ok_bn (s_X11_goOn (rg_w (rg_le w_1505 (rg_ge w_1504 (show rg (0 : Int32) (0) (0) from ⟨by decide, by decide⟩) (rg_any _)) (show rg (40 : Int32) (40) (40) from ⟨by decide, by decide⟩)) (by decide) (by decide)) qσ3_1506 hQ) (fun σ4_1507 qσ4_1507 => ?_)
    refine ok_nm (fun x5_1508 hx5_1508 => ?_)
    exact ok_some ⟨(rg_any _), qσ4_1507⟩

set_option maxHeartbeats 4000000 in
set_option maxRecDepth 100000 in
theorem s_X11_again_31 {m : Int} {N : Nat} {K len : Nat → Nat} {a1 : Int32} {ρ : RG} (hQ : PR N K len ρ) : ∀ (n : Nat) (σ : SG) (r2 : Nat) (v3 : Int32), CK N K len ρ r2 → rg v3 (1) (21) → (21 : Int) - v3.toInt < (n : Int) → BX m σ → ok (F_X11_again_31 N K len a1 n σ ρ r2 v3) (fun q => rg q.1 (-5) (20) ∧ BX m q.2) := by
  intro n
  induction n with
  | zero => intro σ r2 v3 k_r2 r_v3 hm hB; exact (ms_z r_v3 (by decide) hm).elim
  | succ n ih =>
    intro σ r2 v3 k_r2 r_v3 hm hB
    unfold F_X11_again_31
    refine ok_gd k_r2.1 ?_
    refine ok_if (fun c_1521 => ?_) (fun c_1521 => ?_)
    · exact ok_some ⟨(rg_w (show rg (-5 : Int32) (-5) (-5) from ⟨by decide, by decide⟩) (by decide) (by decide)), hB⟩
    · refine ok_bn2 (s_X3_tryCut (by decide) k_r2 hB hQ) (fun r5_1522 σ5_1523 qr5_1522 => ?_)
      obtain ⟨hr5_1522, bσ5_1523⟩ := qr5_1522
      refine ok_nm (fun σ7_1524 hσ7_1524 => ?_)
      have bσ7_1524 : BX m σ7_1524 := by rw [hσ7_1524]; exact bx_far bσ5_1523 (by decide) (by decide) (by decide) (by decide)
      refine ok_if (fun c_1525 => ?_) (fun c_1525 => ?_)
      · refine ok_if (fun c_1526 => ?_) (fun c_1526 => ?_)
        · exact ok_some ⟨(rg_w (rg_le (nlt c_1521) r_v3 (show rg (20 : Int32) (20) (20) from ⟨by decide, by decide⟩)) (by decide) (by decide)), bσ7_1524⟩
        · unfold F_X11_again_118
          refine ok_gd k_r2.1 ?_
          refine ok_nm (fun x9_1527 hx9_1527 => ?_)
          exact ih _ _ _ k_r2 (rg_w (rg_eq hx9_1527 (rg_add (l := 2) (h := 21) (rg_le (nlt c_1521) r_v3 (show rg (20 : Int32) (20) (20) from ⟨by decide, by decide⟩)) (show rg (1 : Int32) (1) (1) from ⟨by decide, by decide⟩) (by decide) (by decide) (by decide) (by decide))) (by decide) (by decide)) (ms_s hx9_1527 (rg_le (nlt c_1521) r_v3 (show rg (20 : Int32) (20) (20) from ⟨by decide, by decide⟩)) (by decide) (by decide) hm) bσ7_1524
      · unfold F_X11_again_118
        refine ok_gd k_r2.1 ?_
        refine ok_nm (fun x9_1528 hx9_1528 => ?_)
        exact ih _ _ _ k_r2 (rg_w (rg_eq hx9_1528 (rg_add (l := 2) (h := 21) (rg_le (nlt c_1521) r_v3 (show rg (20 : Int32) (20) (20) from ⟨by decide, by decide⟩)) (show rg (1 : Int32) (1) (1) from ⟨by decide, by decide⟩) (by decide) (by decide) (by decide) (by decide))) (by decide) (by decide)) (ms_s hx9_1528 (rg_le (nlt c_1521) r_v3 (show rg (20 : Int32) (20) (20) from ⟨by decide, by decide⟩)) (by decide) (by decide) hm) bσ7_1524

set_option maxHeartbeats 4000000 in
set_option maxRecDepth 100000 in
theorem s_X11_again {m : Int} {N : Nat} {K len : Nat → Nat} {a1 : Int32} {σ : SG} {ρ : RG} (hB : BX m σ) (hQ : PR N K len ρ) : ok (F_X11_again N K len a1 σ ρ) (fun q => rg q.1 (-5) (20) ∧ BX m q.2) := by
  unfold F_X11_again
  refine ok_bn (s_X8_cutterAt_1 hB hQ) (fun o1_1529 qo1_1529 => ?_)
  refine ok_oc (fun o_1530 => ?_) (fun c2_1531 o_1530 => ?_)
  · exact ok_some ⟨(rg_w (show rg (-1 : Int32) (-1) (-1) from ⟨by decide, by decide⟩) (by decide) (by decide)), hB⟩
  · refine ok_gd (qo1_1529 _ o_1530).1 ?_
    refine ok_bn (s_X3_takes (by decide) (by decide) hB hQ) (fun σ3_1532 qσ3_1532 => ?_)
    exact (s_X11_again_31 hQ 1024 _ _ _ (qo1_1529 _ o_1530) (rg_w (show rg (1 : Int32) (1) (1) from ⟨by decide, by decide⟩) (by decide) (by decide)) (ms_0 (show rg (1 : Int32) (1) (1) from ⟨by decide, by decide⟩) (by decide)) qσ3_1532)

set_option maxHeartbeats 4000000 in
set_option maxRecDepth 100000 in
theorem s_X11_evener_44 {m : Int} {N : Nat} {K len : Nat → Nat} {a1 : Int32} {a2 : Int32} {ρ : RG} (r_a1 : rg a1 (0) (40)) (r_a2 : rg a2 (0) (1)) (hQ : PR N K len ρ) : ∀ (n : Nat) (σ : SG) (v2 : Int32) (v3 : Int32) (v4 : Int32) (v5 : Int32) (v6 : Int32), rg v2 (0) (1) → rg v6 (0) (6) → (6 : Int) - v6.toInt < (n : Int) → BX m σ → ok (F_X11_evener_44 N K len a1 a2 n σ ρ v2 v3 v4 v5 v6) (fun q => rg q.1 (-2147483648) (2147483647) ∧ BX m q.2) := by
  intro n
  induction n with
  | zero => intro σ v2 v3 v4 v5 v6 r_v2 r_v6 hm hB; exact (ms_z r_v6 (by decide) hm).elim
  | succ n ih =>
    intro σ v2 v3 v4 v5 v6 r_v2 r_v6 hm hB
    unfold F_X11_evener_44
    refine ok_if (fun c_1575 => ?_) (fun c_1575 => ?_)
    · refine ok_if (fun c_1576 => ?_) (fun c_1576 => ?_)
      · exact ok_some ⟨(rg_any _), hB⟩
      · refine ok_if (fun c_1577 => ?_) (fun c_1577 => ?_)
        · exact ok_some ⟨(rg_w (rg_eql c_1577 (show rg (-5 : Int32) (-5) (-5) from ⟨by decide, by decide⟩)) (by decide) (by decide)), hB⟩
        · refine ok_nm (fun x9_1578 hx9_1578 => ?_)
          exact ok_some ⟨(rg_any _), hB⟩
    · refine ok_bn (s_X8_cutterAt_1 hB hQ) (fun o10_1579 qo10_1579 => ?_)
      refine ok_oc (fun o_1580 => ?_) (fun c11_1581 o_1580 => ?_)
      · unfold F_X11_evener_91
        refine ok_if (fun c_1582 => ?_) (fun c_1582 => ?_)
        · unfold F_X11_evener_110
          refine ok_if (fun c_1583 => ?_) (fun c_1583 => ?_)
          · unfold F_X11_evener_125
            unfold F_X11_evener_132
            refine ok_nm (fun x15_1584 hx15_1584 => ?_)
            exact ih _ _ _ _ _ _ r_v2 (rg_w (rg_eq hx15_1584 (rg_add (l := 1) (h := 1) (rg_eql c_1582 (show rg (0 : Int32) (0) (0) from ⟨by decide, by decide⟩)) (show rg (1 : Int32) (1) (1) from ⟨by decide, by decide⟩) (by decide) (by decide) (by decide) (by decide))) (by decide) (by decide)) (ms_s hx15_1584 (rg_eql c_1582 (show rg (0 : Int32) (0) (0) from ⟨by decide, by decide⟩)) (by decide) (by decide) hm) hB
          · refine ok_if (fun c_1585 => ?_) (fun c_1585 => ?_)
            · unfold F_X11_evener_132
              refine ok_nm (fun x15_1586 hx15_1586 => ?_)
              exact ih _ _ _ _ _ _ r_v2 (rg_w (rg_eq hx15_1586 (rg_add (l := 1) (h := 1) (rg_eql c_1582 (show rg (0 : Int32) (0) (0) from ⟨by decide, by decide⟩)) (show rg (1 : Int32) (1) (1) from ⟨by decide, by decide⟩) (by decide) (by decide) (by decide) (by decide))) (by decide) (by decide)) (ms_s hx15_1586 (rg_eql c_1582 (show rg (0 : Int32) (0) (0) from ⟨by decide, by decide⟩)) (by decide) (by decide) hm) hB
            · unfold F_X11_evener_125
              unfold F_X11_evener_132
              refine ok_nm (fun x15_1587 hx15_1587 => ?_)
              exact ih _ _ _ _ _ _ r_v2 (rg_w (rg_eq hx15_1587 (rg_add (l := 1) (h := 1) (rg_eql c_1582 (show rg (0 : Int32) (0) (0) from ⟨by decide, by decide⟩)) (show rg (1 : Int32) (1) (1) from ⟨by decide, by decide⟩) (by decide) (by decide) (by decide) (by decide))) (by decide) (by decide)) (ms_s hx15_1587 (rg_eql c_1582 (show rg (0 : Int32) (0) (0) from ⟨by decide, by decide⟩)) (by decide) (by decide) hm) hB
        · refine ok_nm (fun x13_1588 hx13_1588 => ?_)
          unfold F_X11_evener_110
          refine ok_if (fun c_1589 => ?_) (fun c_1589 => ?_)
          · unfold F_X11_evener_125
            unfold F_X11_evener_132
            refine ok_nm (fun x15_1590 hx15_1590 => ?_)
            exact ih _ _ _ _ _ _ r_v2 (rg_w (rg_eq hx15_1590 (rg_add (l := 2) (h := 6) (rg_nel c_1582 (rg_lt (nle c_1575) r_v6 (rg_gt (nle c_1575) r_v6 (bx_get hB (r := 1) (a := 1) (b := 1) (k := 1) (l := 0) (h := 6) (by decide) (by decide) (by decide)))) (show rg (0 : Int32) (0) (0) from ⟨by decide, by decide⟩) rfl) (show rg (1 : Int32) (1) (1) from ⟨by decide, by decide⟩) (by decide) (by decide) (by decide) (by decide))) (by decide) (by decide)) (ms_s hx15_1590 (rg_nel c_1582 (rg_lt (nle c_1575) r_v6 (rg_gt (nle c_1575) r_v6 (bx_get hB (r := 1) (a := 1) (b := 1) (k := 1) (l := 0) (h := 6) (by decide) (by decide) (by decide)))) (show rg (0 : Int32) (0) (0) from ⟨by decide, by decide⟩) rfl) (by decide) (by decide) hm) hB
          · refine ok_if (fun c_1591 => ?_) (fun c_1591 => ?_)
            · unfold F_X11_evener_132
              refine ok_nm (fun x15_1592 hx15_1592 => ?_)
              exact ih _ _ _ _ _ _ r_v2 (rg_w (rg_eq hx15_1592 (rg_add (l := 2) (h := 6) (rg_nel c_1582 (rg_lt (nle c_1575) r_v6 (rg_gt (nle c_1575) r_v6 (bx_get hB (r := 1) (a := 1) (b := 1) (k := 1) (l := 0) (h := 6) (by decide) (by decide) (by decide)))) (show rg (0 : Int32) (0) (0) from ⟨by decide, by decide⟩) rfl) (show rg (1 : Int32) (1) (1) from ⟨by decide, by decide⟩) (by decide) (by decide) (by decide) (by decide))) (by decide) (by decide)) (ms_s hx15_1592 (rg_nel c_1582 (rg_lt (nle c_1575) r_v6 (rg_gt (nle c_1575) r_v6 (bx_get hB (r := 1) (a := 1) (b := 1) (k := 1) (l := 0) (h := 6) (by decide) (by decide) (by decide)))) (show rg (0 : Int32) (0) (0) from ⟨by decide, by decide⟩) rfl) (by decide) (by decide) hm) hB
            · unfold F_X11_evener_125
              unfold F_X11_evener_132
              refine ok_nm (fun x15_1593 hx15_1593 => ?_)
              exact ih _ _ _ _ _ _ r_v2 (rg_w (rg_eq hx15_1593 (rg_add (l := 2) (h := 6) (rg_nel c_1582 (rg_lt (nle c_1575) r_v6 (rg_gt (nle c_1575) r_v6 (bx_get hB (r := 1) (a := 1) (b := 1) (k := 1) (l := 0) (h := 6) (by decide) (by decide) (by decide)))) (show rg (0 : Int32) (0) (0) from ⟨by decide, by decide⟩) rfl) (show rg (1 : Int32) (1) (1) from ⟨by decide, by decide⟩) (by decide) (by decide) (by decide) (by decide))) (by decide) (by decide)) (ms_s hx15_1593 (rg_nel c_1582 (rg_lt (nle c_1575) r_v6 (rg_gt (nle c_1575) r_v6 (bx_get hB (r := 1) (a := 1) (b := 1) (k := 1) (l := 0) (h := 6) (by decide) (by decide) (by decide)))) (show rg (0 : Int32) (0) (0) from ⟨by decide, by decide⟩) rfl) (by decide) (by decide) hm) hB
      · refine ok_gd (qo10_1579 _ o_1580).1 ?_
        refine ok_bn (s_X11_valueAt (by decide)) (fun r17_1594 qr17_1594 => ?_)
        refine ok_nm (fun x18_1595 hx18_1595 => ?_)
        unfold F_X11_evener_91
        refine ok_if (fun c_1596 => ?_) (fun c_1596 => ?_)
        · unfold F_X11_evener_110
          refine ok_if (fun c_1597 => ?_) (fun c_1597 => ?_)
          · unfold F_X11_evener_125
            unfold F_X11_evener_132
            refine ok_nm (fun x15_1598 hx15_1598 => ?_)
            exact ih _ _ _ _ _ _ r_v2 (rg_w (rg_eq hx15_1598 (rg_add (l := 1) (h := 1) (rg_eql c_1596 (show rg (0 : Int32) (0) (0) from ⟨by decide, by decide⟩)) (show rg (1 : Int32) (1) (1) from ⟨by decide, by decide⟩) (by decide) (by decide) (by decide) (by decide))) (by decide) (by decide)) (ms_s hx15_1598 (rg_eql c_1596 (show rg (0 : Int32) (0) (0) from ⟨by decide, by decide⟩)) (by decide) (by decide) hm) hB
          · refine ok_if (fun c_1599 => ?_) (fun c_1599 => ?_)
            · unfold F_X11_evener_132
              refine ok_nm (fun x15_1600 hx15_1600 => ?_)
              exact ih _ _ _ _ _ _ r_v2 (rg_w (rg_eq hx15_1600 (rg_add (l := 1) (h := 1) (rg_eql c_1596 (show rg (0 : Int32) (0) (0) from ⟨by decide, by decide⟩)) (show rg (1 : Int32) (1) (1) from ⟨by decide, by decide⟩) (by decide) (by decide) (by decide) (by decide))) (by decide) (by decide)) (ms_s hx15_1600 (rg_eql c_1596 (show rg (0 : Int32) (0) (0) from ⟨by decide, by decide⟩)) (by decide) (by decide) hm) hB
            · unfold F_X11_evener_125
              unfold F_X11_evener_132
              refine ok_nm (fun x15_1601 hx15_1601 => ?_)
              exact ih _ _ _ _ _ _ r_v2 (rg_w (rg_eq hx15_1601 (rg_add (l := 1) (h := 1) (rg_eql c_1596 (show rg (0 : Int32) (0) (0) from ⟨by decide, by decide⟩)) (show rg (1 : Int32) (1) (1) from ⟨by decide, by decide⟩) (by decide) (by decide) (by decide) (by decide))) (by decide) (by decide)) (ms_s hx15_1601 (rg_eql c_1596 (show rg (0 : Int32) (0) (0) from ⟨by decide, by decide⟩)) (by decide) (by decide) hm) hB
        · refine ok_nm (fun x13_1602 hx13_1602 => ?_)
          unfold F_X11_evener_110
          refine ok_if (fun c_1603 => ?_) (fun c_1603 => ?_)
          · unfold F_X11_evener_125
            unfold F_X11_evener_132
            refine ok_nm (fun x15_1604 hx15_1604 => ?_)
            exact ih _ _ _ _ _ _ r_v2 (rg_w (rg_eq hx15_1604 (rg_add (l := 2) (h := 6) (rg_nel c_1596 (rg_lt (nle c_1575) r_v6 (rg_gt (nle c_1575) r_v6 (bx_get hB (r := 1) (a := 1) (b := 1) (k := 1) (l := 0) (h := 6) (by decide) (by decide) (by decide)))) (show rg (0 : Int32) (0) (0) from ⟨by decide, by decide⟩) rfl) (show rg (1 : Int32) (1) (1) from ⟨by decide, by decide⟩) (by decide) (by decide) (by decide) (by decide))) (by decide) (by decide)) (ms_s hx15_1604 (rg_nel c_1596 (rg_lt (nle c_1575) r_v6 (rg_gt (nle c_1575) r_v6 (bx_get hB (r := 1) (a := 1) (b := 1) (k := 1) (l := 0) (h := 6) (by decide) (by decide) (by decide)))) (show rg (0 : Int32) (0) (0) from ⟨by decide, by decide⟩) rfl) (by decide) (by decide) hm) hB
          · refine ok_if (fun c_1605 => ?_) (fun c_1605 => ?_)
            · unfold F_X11_evener_132
              refine ok_nm (fun x15_1606 hx15_1606 => ?_)
              exact ih _ _ _ _ _ _ r_v2 (rg_w (rg_eq hx15_1606 (rg_add (l := 2) (h := 6) (rg_nel c_1596 (rg_lt (nle c_1575) r_v6 (rg_gt (nle c_1575) r_v6 (bx_get hB (r := 1) (a := 1) (b := 1) (k := 1) (l := 0) (h := 6) (by decide) (by decide) (by decide)))) (show rg (0 : Int32) (0) (0) from ⟨by decide, by decide⟩) rfl) (show rg (1 : Int32) (1) (1) from ⟨by decide, by decide⟩) (by decide) (by decide) (by decide) (by decide))) (by decide) (by decide)) (ms_s hx15_1606 (rg_nel c_1596 (rg_lt (nle c_1575) r_v6 (rg_gt (nle c_1575) r_v6 (bx_get hB (r := 1) (a := 1) (b := 1) (k := 1) (l := 0) (h := 6) (by decide) (by decide) (by decide)))) (show rg (0 : Int32) (0) (0) from ⟨by decide, by decide⟩) rfl) (by decide) (by decide) hm) hB
            · unfold F_X11_evener_125
              unfold F_X11_evener_132
              refine ok_nm (fun x15_1607 hx15_1607 => ?_)
              exact ih _ _ _ _ _ _ r_v2 (rg_w (rg_eq hx15_1607 (rg_add (l := 2) (h := 6) (rg_nel c_1596 (rg_lt (nle c_1575) r_v6 (rg_gt (nle c_1575) r_v6 (bx_get hB (r := 1) (a := 1) (b := 1) (k := 1) (l := 0) (h := 6) (by decide) (by decide) (by decide)))) (show rg (0 : Int32) (0) (0) from ⟨by decide, by decide⟩) rfl) (show rg (1 : Int32) (1) (1) from ⟨by decide, by decide⟩) (by decide) (by decide) (by decide) (by decide))) (by decide) (by decide)) (ms_s hx15_1607 (rg_nel c_1596 (rg_lt (nle c_1575) r_v6 (rg_gt (nle c_1575) r_v6 (bx_get hB (r := 1) (a := 1) (b := 1) (k := 1) (l := 0) (h := 6) (by decide) (by decide) (by decide)))) (show rg (0 : Int32) (0) (0) from ⟨by decide, by decide⟩) rfl) (by decide) (by decide) hm) hB

set_option maxHeartbeats 4000000 in
set_option maxRecDepth 100000 in
theorem s_X11_evener {m : Int} {N : Nat} {K len : Nat → Nat} {a1 : Int32} {a2 : Int32} {σ : SG} {ρ : RG} (hB : BX m σ) (hQ : PR N K len ρ) : ok (F_X11_evener N K len a1 a2 σ ρ) (fun q => rg q.1 (-2147483648) (2147483647) ∧ BX m q.2) := by
  unfold F_X11_evener
  refine ok_bn (s_X11_isWithin) (fun r1_1608 qr1_1608 => ?_)
  refine ok_if (fun c_1609 => ?_) (fun c_1609 => ?_)
  · exact ok_some ⟨(rg_w (show rg (-1 : Int32) (-1) (-1) from ⟨by decide, by decide⟩) (by decide) (by decide)), hB⟩
  · obtain ⟨w_1610, w_1611⟩ := qr1_1608.2 c_1609
    refine ok_bn (s_X11_isWithin) (fun r3_1612 qr3_1612 => ?_)
    refine ok_if (fun c_1613 => ?_) (fun c_1613 => ?_)
    · exact ok_some ⟨(rg_w (show rg (-2 : Int32) (-2) (-2) from ⟨by decide, by decide⟩) (by decide) (by decide)), hB⟩
    · obtain ⟨w_1614, w_1615⟩ := qr3_1612.2 c_1613
      refine ok_bn (s_X11_goOn (rg_w (rg_le w_1615 (rg_ge w_1614 (show rg (0 : Int32) (0) (0) from ⟨by decide, by decide⟩) (rg_any _)) (show rg (40 : Int32) (40) (40) from ⟨by decide, by decide⟩)) (by decide) (by decide)) hB hQ) (fun σ5_1616 qσ5_1616 => ?_)
      exact (s_X11_evener_44 (rg_le w_1615 (rg_ge w_1614 (show rg (0 : Int32) (0) (0) from ⟨by decide, by decide⟩) (rg_any _)) (show rg (40 : Int32) (40) (40) from ⟨by decide, by decide⟩)) (rg_le w_1611 (rg_ge w_1610 (show rg (0 : Int32) (0) (0) from ⟨by decide, by decide⟩) (rg_any _)) (show rg (1 : Int32) (1) (1) from ⟨by decide, by decide⟩)) hQ 1024 _ _ _ _ _ _ (rg_le w_1611 (rg_ge w_1610 (show rg (0 : Int32) (0) (0) from ⟨by decide, by decide⟩) (rg_any _)) (show rg (1 : Int32) (1) (1) from ⟨by decide, by decide⟩)) (rg_w (show rg (0 : Int32) (0) (0) from ⟨by decide, by decide⟩) (by decide) (by decide)) (ms_0 (show rg (0 : Int32) (0) (0) from ⟨by decide, by decide⟩) (by decide)) qσ5_1616)

set_option maxHeartbeats 4000000 in
set_option maxRecDepth 100000 in
theorem s_X11_cheese_62 {m : Int} {N : Nat} {K len : Nat → Nat} {a1 : Int32} {a2 : Int32} {ρ : RG} (r_a1 : rg a1 (12) (360)) (hQ : PR N K len ρ) : ∀ (n : Nat) (σ : SG) (v1 : Int32) (v2 : Int32) (v3 : Int32) (v4 : Int32) (v5 : Int32) (v6 : Int32) (v7 : Int32), rg v1 (12) (360) → rg v7 (0) (360) → (360 : Int) - v7.toInt < (n : Int) → BX m σ → ok (F_X11_cheese_62 N K len a1 a2 n σ ρ v1 v2 v3 v4 v5 v6 v7) (fun q => rg q (-2147483648) (2147483647)) := by
  intro n
  induction n with
  | zero => intro σ v1 v2 v3 v4 v5 v6 v7 r_v1 r_v7 hm hB; exact (ms_z r_v7 (by decide) hm).elim
  | succ n ih =>
    intro σ v1 v2 v3 v4 v5 v6 v7 r_v1 r_v7 hm hB
    unfold F_X11_cheese_62
    refine ok_if (fun c_1653 => ?_) (fun c_1653 => ?_)
    · unfold F_X11_cheese_161
      refine ok_if (fun c_1654 => ?_) (fun c_1654 => ?_)
      · refine ok_if (fun c_1655 => ?_) (fun c_1655 => ?_)
        · exact ok_some (rg_any _)
        · exact ok_some (rg_any _)
      · exact ok_some (rg_any _)
    · refine ok_if (fun c_1656 => ?_) (fun c_1656 => ?_)
      · unfold F_X11_cheese_161
        refine ok_if (fun c_1657 => ?_) (fun c_1657 => ?_)
        · refine ok_if (fun c_1658 => ?_) (fun c_1658 => ?_)
          · exact ok_some (rg_any _)
          · exact ok_some (rg_any _)
        · exact ok_some (rg_any _)
      · refine ok_gd (rg_ne0 (rg_gt (nle c_1656) (show rg (0 : Int32) (0) (0) from ⟨by decide, by decide⟩) (bx_get hB (r := 1) (a := 1) (b := 1) (k := 1) (l := 0) (h := 6) (by decide) (by decide) (by decide))) (by decide)) ?_
        refine ok_nm (fun x13_1659 hx13_1659 => ?_)
        refine ok_bn (s_X8_cutterAt_1 hB hQ) (fun o14_1660 qo14_1660 => ?_)
        refine ok_oc (fun o_1661 => ?_) (fun c15_1662 o_1661 => ?_)
        · unfold F_X11_cheese_161
          refine ok_if (fun c_1663 => ?_) (fun c_1663 => ?_)
          · refine ok_if (fun c_1664 => ?_) (fun c_1664 => ?_)
            · exact ok_some (rg_any _)
            · exact ok_some (rg_any _)
          · exact ok_some (rg_any _)
        · refine ok_gd (qo14_1660 _ o_1661).1 ?_
          refine ok_if (fun c_1665 => ?_) (fun c_1665 => ?_)
          · refine ok_nm (fun x17_1666 hx17_1666 => ?_)
            refine ok_nm (fun x18_1667 hx18_1667 => ?_)
            refine ok_nm (fun x19_1668 hx19_1668 => ?_)
            refine ok_if (fun c_1669 => ?_) (fun c_1669 => ?_)
            · unfold F_X11_cheese_152
              refine ok_nm (fun x21_1670 hx21_1670 => ?_)
              refine ok_nm (fun x22_1671 hx22_1671 => ?_)
              exact ih _ _ _ _ _ _ _ _ r_v1 (rg_w (rg_eq hx22_1671 (rg_add (l := 1) (h := 360) (rg_lt (nle c_1653) r_v7 r_v1) (show rg (1 : Int32) (1) (1) from ⟨by decide, by decide⟩) (by decide) (by decide) (by decide) (by decide))) (by decide) (by decide)) (ms_s hx22_1671 (rg_lt (nle c_1653) r_v7 r_v1) (by decide) (by decide) hm) hB
            · unfold F_X11_cheese_152
              refine ok_nm (fun x21_1672 hx21_1672 => ?_)
              refine ok_nm (fun x22_1673 hx22_1673 => ?_)
              exact ih _ _ _ _ _ _ _ _ r_v1 (rg_w (rg_eq hx22_1673 (rg_add (l := 1) (h := 360) (rg_lt (nle c_1653) r_v7 r_v1) (show rg (1 : Int32) (1) (1) from ⟨by decide, by decide⟩) (by decide) (by decide) (by decide) (by decide))) (by decide) (by decide)) (ms_s hx22_1673 (rg_lt (nle c_1653) r_v7 r_v1) (by decide) (by decide) hm) hB
          · unfold F_X11_cheese_161
            refine ok_if (fun c_1674 => ?_) (fun c_1674 => ?_)
            · refine ok_if (fun c_1675 => ?_) (fun c_1675 => ?_)
              · exact ok_some (rg_any _)
              · exact ok_some (rg_w (rg_lt (nle c_1665) (rg_any _) (rg_gt (nle c_1665) (rg_any _) (rg_any _))) (by decide) (by decide))
            · exact ok_some (rg_any _)

set_option maxHeartbeats 4000000 in
set_option maxRecDepth 100000 in
theorem s_X11_cheese {m : Int} {N : Nat} {K len : Nat → Nat} {a1 : Int32} {a2 : Int32} {σ : SG} {ρ : RG} (hB : BX m σ) (hQ : PR N K len ρ) : ok (F_X11_cheese N K len a1 a2 σ ρ) (fun q => rg q (-2147483648) (2147483647)) := by
  unfold F_X11_cheese
  refine ok_nm (fun x1_1689 hx1_1689 => ?_)
  refine ok_bn (s_X8_cutterAt_1 hB hQ) (fun o2_1690 qo2_1690 => ?_)
  refine ok_oc (fun o_1691 => ?_) (fun c3_1692 o_1691 => ?_)
  · unfold F_X11_cheese_19
    refine ok_bn (s_X11_isWithin) (fun r4_1693 qr4_1693 => ?_)
    refine ok_if (fun c_1694 => ?_) (fun c_1694 => ?_)
    · refine ok_if (fun c_1695 => ?_) (fun c_1695 => ?_)
      · exact ok_some (rg_w (show rg (-1 : Int32) (-1) (-1) from ⟨by decide, by decide⟩) (by decide) (by decide))
      · exact absurd (by decide) c_1695
    · obtain ⟨w_1696, w_1697⟩ := qr4_1693.2 c_1694
      unfold F_X11_cheese_35
      refine ok_bn (s_X11_isWithin) (fun r6_1698 qr6_1698 => ?_)
      refine ok_if (fun c_1699 => ?_) (fun c_1699 => ?_)
      · exact ok_some (rg_w (show rg (-2 : Int32) (-2) (-2) from ⟨by decide, by decide⟩) (by decide) (by decide))
      · obtain ⟨w_1700, w_1701⟩ := qr6_1698.2 c_1699
        exact (s_X11_cheese_62 (rg_le w_1701 (rg_ge w_1700 (show rg (12 : Int32) (12) (12) from ⟨by decide, by decide⟩) (rg_any _)) (show rg (360 : Int32) (360) (360) from ⟨by decide, by decide⟩)) hQ 1024 _ _ _ _ _ _ _ _ (rg_le w_1701 (rg_ge w_1700 (show rg (12 : Int32) (12) (12) from ⟨by decide, by decide⟩) (rg_any _)) (show rg (360 : Int32) (360) (360) from ⟨by decide, by decide⟩)) (rg_w (show rg (0 : Int32) (0) (0) from ⟨by decide, by decide⟩) (by decide) (by decide)) (ms_0 (show rg (0 : Int32) (0) (0) from ⟨by decide, by decide⟩) (by decide)) hB)
  · refine ok_gd (qo2_1690 _ o_1691).1 ?_
    unfold F_X11_cheese_19
    refine ok_bn (s_X11_isWithin) (fun r4_1702 qr4_1702 => ?_)
    refine ok_if (fun c_1703 => ?_) (fun c_1703 => ?_)
    · refine ok_if (fun c_1704 => ?_) (fun c_1704 => ?_)
      · exact absurd c_1704 (by decide)
      · unfold F_X11_cheese_35
        refine ok_bn (s_X11_isWithin) (fun r6_1705 qr6_1705 => ?_)
        refine ok_if (fun c_1706 => ?_) (fun c_1706 => ?_)
        · exact ok_some (rg_w (show rg (-2 : Int32) (-2) (-2) from ⟨by decide, by decide⟩) (by decide) (by decide))
        · obtain ⟨w_1707, w_1708⟩ := qr6_1705.2 c_1706
          exact (s_X11_cheese_62 (rg_le w_1708 (rg_ge w_1707 (show rg (12 : Int32) (12) (12) from ⟨by decide, by decide⟩) (rg_any _)) (show rg (360 : Int32) (360) (360) from ⟨by decide, by decide⟩)) hQ 1024 _ _ _ _ _ _ _ _ (rg_le w_1708 (rg_ge w_1707 (show rg (12 : Int32) (12) (12) from ⟨by decide, by decide⟩) (rg_any _)) (show rg (360 : Int32) (360) (360) from ⟨by decide, by decide⟩)) (rg_w (show rg (0 : Int32) (0) (0) from ⟨by decide, by decide⟩) (by decide) (by decide)) (ms_0 (show rg (0 : Int32) (0) (0) from ⟨by decide, by decide⟩) (by decide)) hB)
    · obtain ⟨w_1709, w_1710⟩ := qr4_1702.2 c_1703
      unfold F_X11_cheese_35
      refine ok_bn (s_X11_isWithin) (fun r6_1711 qr6_1711 => ?_)
      refine ok_if (fun c_1712 => ?_) (fun c_1712 => ?_)
      · exact ok_some (rg_w (show rg (-2 : Int32) (-2) (-2) from ⟨by decide, by decide⟩) (by decide) (by decide))
      · obtain ⟨w_1713, w_1714⟩ := qr6_1711.2 c_1712
        exact (s_X11_cheese_62 (rg_le w_1714 (rg_ge w_1713 (show rg (12 : Int32) (12) (12) from ⟨by decide, by decide⟩) (rg_any _)) (show rg (360 : Int32) (360) (360) from ⟨by decide, by decide⟩)) hQ 1024 _ _ _ _ _ _ _ _ (rg_le w_1714 (rg_ge w_1713 (show rg (12 : Int32) (12) (12) from ⟨by decide, by decide⟩) (rg_any _)) (show rg (360 : Int32) (360) (360) from ⟨by decide, by decide⟩)) (rg_w (show rg (0 : Int32) (0) (0) from ⟨by decide, by decide⟩) (by decide) (by decide)) (ms_0 (show rg (0 : Int32) (0) (0) from ⟨by decide, by decide⟩) (by decide)) hB)

set_option maxHeartbeats 4000000 in
set_option maxRecDepth 100000 in
theorem s_X11_who_8 {m : Int} {N : Nat} {K len : Nat → Nat} {ρ : RG} (hQ : PR N K len ρ) : ∀ (n : Nat) (σ : SG) (v1 : Int32) (v2 : Int32), rg v2 (0) (6) → (6 : Int) - v2.toInt < (n : Int) → BX m σ → ok (F_X11_who_8 N K len n σ ρ v1 v2) (fun q => rg q.1 (-2147483648) (2147483647) ∧ BX m q.2) := by
  intro n
  induction n with
  | zero => intro σ v1 v2 r_v2 hm hB; exact (ms_z r_v2 (by decide) hm).elim
  | succ n ih =>
    intro σ v1 v2 r_v2 hm hB
    unfold F_X11_who_8
    refine ok_if (fun c_1741 => ?_) (fun c_1741 => ?_)
    · exact ok_some ⟨(rg_any _), hB⟩
    · refine ok_bn (s_X8_cutterAt_1 hB hQ) (fun o3_1742 qo3_1742 => ?_)
      refine ok_oc (fun o_1743 => ?_) (fun c4_1744 o_1743 => ?_)
      · refine ok_bn (s_X11_tryStep_n hB hQ) (fun r5_1745 qr5_1745 => ?_)
        refine ok_if (fun c_1746 => ?_) (fun c_1746 => ?_)
        · unfold F_X11_who_80
          refine ok_nm (fun x7_1747 hx7_1747 => ?_)
          exact ih _ _ _ (rg_w (rg_eq hx7_1747 (rg_add (l := 1) (h := 6) (rg_lt (nle c_1741) r_v2 (rg_gt (nle c_1741) r_v2 (bx_get hB (r := 1) (a := 1) (b := 1) (k := 1) (l := 0) (h := 6) (by decide) (by decide) (by decide)))) (show rg (1 : Int32) (1) (1) from ⟨by decide, by decide⟩) (by decide) (by decide) (by decide) (by decide))) (by decide) (by decide)) (ms_s hx7_1747 (rg_lt (nle c_1741) r_v2 (rg_gt (nle c_1741) r_v2 (bx_get hB (r := 1) (a := 1) (b := 1) (k := 1) (l := 0) (h := 6) (by decide) (by decide) (by decide)))) (by decide) (by decide) hm) hB
        · refine ok_if (fun c_1748 => ?_) (fun c_1748 => ?_)
          · refine ok_if (fun c_1749 => ?_) (fun c_1749 => ?_)
            · refine ok_nm (fun x10_1750 hx10_1750 => ?_)
              refine ok_nm (fun x11_1751 hx11_1751 => ?_)
              unfold F_X11_who_80
              refine ok_nm (fun x7_1752 hx7_1752 => ?_)
              exact ih _ _ _ (rg_w (rg_eq hx7_1752 (rg_add (l := 1) (h := 6) (rg_lt (nle c_1741) r_v2 (rg_gt (nle c_1741) r_v2 (bx_get hB (r := 1) (a := 1) (b := 1) (k := 1) (l := 0) (h := 6) (by decide) (by decide) (by decide)))) (show rg (1 : Int32) (1) (1) from ⟨by decide, by decide⟩) (by decide) (by decide) (by decide) (by decide))) (by decide) (by decide)) (ms_s hx7_1752 (rg_lt (nle c_1741) r_v2 (rg_gt (nle c_1741) r_v2 (bx_get hB (r := 1) (a := 1) (b := 1) (k := 1) (l := 0) (h := 6) (by decide) (by decide) (by decide)))) (by decide) (by decide) hm) hB
            · unfold F_X11_who_80
              refine ok_nm (fun x7_1753 hx7_1753 => ?_)
              exact ih _ _ _ (rg_w (rg_eq hx7_1753 (rg_add (l := 1) (h := 6) (rg_lt (nle c_1741) r_v2 (rg_gt (nle c_1741) r_v2 (bx_get hB (r := 1) (a := 1) (b := 1) (k := 1) (l := 0) (h := 6) (by decide) (by decide) (by decide)))) (show rg (1 : Int32) (1) (1) from ⟨by decide, by decide⟩) (by decide) (by decide) (by decide) (by decide))) (by decide) (by decide)) (ms_s hx7_1753 (rg_lt (nle c_1741) r_v2 (rg_gt (nle c_1741) r_v2 (bx_get hB (r := 1) (a := 1) (b := 1) (k := 1) (l := 0) (h := 6) (by decide) (by decide) (by decide)))) (by decide) (by decide) hm) hB
          · unfold F_X11_who_80
            refine ok_nm (fun x7_1754 hx7_1754 => ?_)
            exact ih _ _ _ (rg_w (rg_eq hx7_1754 (rg_add (l := 1) (h := 6) (rg_lt (nle c_1741) r_v2 (rg_gt (nle c_1741) r_v2 (bx_get hB (r := 1) (a := 1) (b := 1) (k := 1) (l := 0) (h := 6) (by decide) (by decide) (by decide)))) (show rg (1 : Int32) (1) (1) from ⟨by decide, by decide⟩) (by decide) (by decide) (by decide) (by decide))) (by decide) (by decide)) (ms_s hx7_1754 (rg_lt (nle c_1741) r_v2 (rg_gt (nle c_1741) r_v2 (bx_get hB (r := 1) (a := 1) (b := 1) (k := 1) (l := 0) (h := 6) (by decide) (by decide) (by decide)))) (by decide) (by decide) hm) hB
      · refine ok_gd (qo3_1742 _ o_1743).1 ?_
        refine ok_bn2 (s_X11_tryStep (rg_w (show rg (0 : Int32) (0) (0) from ⟨by decide, by decide⟩) (by decide) (by decide)) (qo3_1742 _ o_1743) hB hQ) (fun r12_1755 σ12_1756 qr12_1755 => ?_)
        obtain ⟨hr12_1755, bσ12_1756⟩ := qr12_1755
        refine ok_if (fun c_1757 => ?_) (fun c_1757 => ?_)
        · unfold F_X11_who_80
          refine ok_nm (fun x7_1758 hx7_1758 => ?_)
          exact ih _ _ _ (rg_w (rg_eq hx7_1758 (rg_add (l := 1) (h := 6) (rg_lt (nle c_1741) r_v2 (rg_gt (nle c_1741) r_v2 (bx_get hB (r := 1) (a := 1) (b := 1) (k := 1) (l := 0) (h := 6) (by decide) (by decide) (by decide)))) (show rg (1 : Int32) (1) (1) from ⟨by decide, by decide⟩) (by decide) (by decide) (by decide) (by decide))) (by decide) (by decide)) (ms_s hx7_1758 (rg_lt (nle c_1741) r_v2 (rg_gt (nle c_1741) r_v2 (bx_get hB (r := 1) (a := 1) (b := 1) (k := 1) (l := 0) (h := 6) (by decide) (by decide) (by decide)))) (by decide) (by decide) hm) bσ12_1756
        · refine ok_if (fun c_1759 => ?_) (fun c_1759 => ?_)
          · refine ok_if (fun c_1760 => ?_) (fun c_1760 => ?_)
            · refine ok_nm (fun x16_1761 hx16_1761 => ?_)
              refine ok_nm (fun x17_1762 hx17_1762 => ?_)
              unfold F_X11_who_80
              refine ok_nm (fun x7_1763 hx7_1763 => ?_)
              exact ih _ _ _ (rg_w (rg_eq hx7_1763 (rg_add (l := 1) (h := 6) (rg_lt (nle c_1741) r_v2 (rg_gt (nle c_1741) r_v2 (bx_get hB (r := 1) (a := 1) (b := 1) (k := 1) (l := 0) (h := 6) (by decide) (by decide) (by decide)))) (show rg (1 : Int32) (1) (1) from ⟨by decide, by decide⟩) (by decide) (by decide) (by decide) (by decide))) (by decide) (by decide)) (ms_s hx7_1763 (rg_lt (nle c_1741) r_v2 (rg_gt (nle c_1741) r_v2 (bx_get hB (r := 1) (a := 1) (b := 1) (k := 1) (l := 0) (h := 6) (by decide) (by decide) (by decide)))) (by decide) (by decide) hm) bσ12_1756
            · unfold F_X11_who_80
              refine ok_nm (fun x7_1764 hx7_1764 => ?_)
              exact ih _ _ _ (rg_w (rg_eq hx7_1764 (rg_add (l := 1) (h := 6) (rg_lt (nle c_1741) r_v2 (rg_gt (nle c_1741) r_v2 (bx_get hB (r := 1) (a := 1) (b := 1) (k := 1) (l := 0) (h := 6) (by decide) (by decide) (by decide)))) (show rg (1 : Int32) (1) (1) from ⟨by decide, by decide⟩) (by decide) (by decide) (by decide) (by decide))) (by decide) (by decide)) (ms_s hx7_1764 (rg_lt (nle c_1741) r_v2 (rg_gt (nle c_1741) r_v2 (bx_get hB (r := 1) (a := 1) (b := 1) (k := 1) (l := 0) (h := 6) (by decide) (by decide) (by decide)))) (by decide) (by decide) hm) bσ12_1756
          · unfold F_X11_who_80
            refine ok_nm (fun x7_1765 hx7_1765 => ?_)
            exact ih _ _ _ (rg_w (rg_eq hx7_1765 (rg_add (l := 1) (h := 6) (rg_lt (nle c_1741) r_v2 (rg_gt (nle c_1741) r_v2 (bx_get hB (r := 1) (a := 1) (b := 1) (k := 1) (l := 0) (h := 6) (by decide) (by decide) (by decide)))) (show rg (1 : Int32) (1) (1) from ⟨by decide, by decide⟩) (by decide) (by decide) (by decide) (by decide))) (by decide) (by decide)) (ms_s hx7_1765 (rg_lt (nle c_1741) r_v2 (rg_gt (nle c_1741) r_v2 (bx_get hB (r := 1) (a := 1) (b := 1) (k := 1) (l := 0) (h := 6) (by decide) (by decide) (by decide)))) (by decide) (by decide) hm) bσ12_1756

set_option maxHeartbeats 4000000 in
set_option maxRecDepth 100000 in
theorem s_X11_who {m : Int} {N : Nat} {K len : Nat → Nat} {σ : SG} {ρ : RG} (hB : BX m σ) (hQ : PR N K len ρ) : ok (F_X11_who N K len σ ρ) (fun q => rg q.1 (-2147483648) (2147483647) ∧ BX m q.2) := by
  unfold F_X11_who
  refine ok_bn (s_X11_startSteps hB hQ) (fun σ1_1766 qσ1_1766 => ?_)
  exact (s_X11_who_8 hQ 1024 _ _ _ (rg_w (show rg (0 : Int32) (0) (0) from ⟨by decide, by decide⟩) (by decide) (by decide)) (ms_0 (show rg (0 : Int32) (0) (0) from ⟨by decide, by decide⟩) (by decide)) qσ1_1766)

set_option maxHeartbeats 4000000 in
set_option maxRecDepth 100000 in
theorem s_X11_book {m : Int} {N : Nat} {K len : Nat → Nat} {a1 : Int32} {a2 : Int32} {σ : SG} {ρ : RG} (hB : BX m σ) (hQ : PR N K len ρ) : ok (F_X11_book N K len a1 a2 σ ρ) (fun q => rg q.1 (-4) (8) ∧ BX m q.2) := by
  unfold F_X11_book
  refine ok_if (fun c_1782 => ?_) (fun c_1782 => ?_)
  · refine ok_nm (fun σ18_1783 hσ18_1783 => ?_)
    have bσ18_1783 : BX m σ18_1783 := by rw [hσ18_1783]; exact bx_set hB (show rg (0 : Int32) (0) (0) from ⟨by decide, by decide⟩) (by decide)
    exact ok_some ⟨(rg_w (show rg (0 : Int32) (0) (0) from ⟨by decide, by decide⟩) (by decide) (by decide)), bσ18_1783⟩
  · refine ok_bn (s_X8_cutterAt_1 hB hQ) (fun o2_1784 qo2_1784 => ?_)
    refine ok_oc (fun o_1785 => ?_) (fun c3_1786 o_1785 => ?_)
    · exact ok_some ⟨(rg_w (show rg (-1 : Int32) (-1) (-1) from ⟨by decide, by decide⟩) (by decide) (by decide)), hB⟩
    · refine ok_gd (qo2_1784 _ o_1785).1 ?_
      refine ok_bn (s_X11_isWithin) (fun r4_1787 qr4_1787 => ?_)
      refine ok_if (fun c_1788 => ?_) (fun c_1788 => ?_)
      · exact ok_some ⟨(rg_w (show rg (-2 : Int32) (-2) (-2) from ⟨by decide, by decide⟩) (by decide) (by decide)), hB⟩
      · obtain ⟨w_1789, w_1790⟩ := qr4_1787.2 c_1788
        refine ok_if (fun c_1791 => ?_) (fun c_1791 => ?_)
        · exact ok_some ⟨(rg_w (show rg (-4 : Int32) (-4) (-4) from ⟨by decide, by decide⟩) (by decide) (by decide)), hB⟩
        · refine ok_if (fun c_1792 => ?_) (fun c_1792 => ?_)
          · refine ok_gd (rg_inb (rg_lt (nle c_1791) (bx_get hB (r := 1) (a := 13) (b := 13) (k := 13) (l := 0) (h := 8) (by decide) (by decide) (by decide)) (show rg (8 : Int32) (8) (8) from ⟨by decide, by decide⟩)) (by decide) (by decide)) ?_
            refine ok_nm (fun σ10_1793 hσ10_1793 => ?_)
            have bσ10_1793 : BX m σ10_1793 := by rw [hσ10_1793]; exact bx_far hB (by decide) (by decide) (by decide) (by decide)
            refine ok_gd (rg_inb (rg_lt (nle c_1791) (bx_get hB (r := 1) (a := 13) (b := 13) (k := 13) (l := 0) (h := 8) (by decide) (by decide) (by decide)) (show rg (8 : Int32) (8) (8) from ⟨by decide, by decide⟩)) (by decide) (by decide)) ?_
            refine ok_nm (fun σ13_1794 hσ13_1794 => ?_)
            have bσ13_1794 : BX m σ13_1794 := by rw [hσ13_1794]; exact bx_far bσ10_1793 (by decide) (by decide) (by decide) (by decide)
            refine ok_nm (fun x14_1795 hx14_1795 => ?_)
            refine ok_nm (fun σ16_1796 hσ16_1796 => ?_)
            have bσ16_1796 : BX m σ16_1796 := by rw [hσ16_1796]; exact bx_set bσ13_1794 (rg_eq hx14_1795 (rg_add (l := 1) (h := 8) (rg_eq (s2_o hσ13_1794 (by decide)) (rg_eq (s2_o hσ10_1793 (by decide)) (rg_lt (nle c_1791) (bx_get hB (r := 1) (a := 13) (b := 13) (k := 13) (l := 0) (h := 8) (by decide) (by decide) (by decide)) (show rg (8 : Int32) (8) (8) from ⟨by decide, by decide⟩)))) (show rg (1 : Int32) (1) (1) from ⟨by decide, by decide⟩) (by decide) (by decide) (by decide) (by decide))) (by decide)
            exact ok_some ⟨(rg_w (rg_eq (s2_v hσ16_1796) (rg_eq hx14_1795 (rg_add (l := 1) (h := 8) (rg_eq (s2_o hσ13_1794 (by decide)) (rg_eq (s2_o hσ10_1793 (by decide)) (rg_lt (nle c_1791) (bx_get hB (r := 1) (a := 13) (b := 13) (k := 13) (l := 0) (h := 8) (by decide) (by decide) (by decide)) (show rg (8 : Int32) (8) (8) from ⟨by decide, by decide⟩)))) (show rg (1 : Int32) (1) (1) from ⟨by decide, by decide⟩) (by decide) (by decide) (by decide) (by decide)))) (by decide) (by decide)), bσ16_1796⟩
          · exact ok_some ⟨(rg_w (show rg (-4 : Int32) (-4) (-4) from ⟨by decide, by decide⟩) (by decide) (by decide)), hB⟩

set_option maxHeartbeats 4000000 in
set_option maxRecDepth 100000 in
theorem s_X11_looked_16 {m : Int} {N : Nat} {K len : Nat → Nat} {ρ : RG} (hQ : PR N K len ρ) : ∀ (n : Nat) (σ : SG) (v1 : Int32), rg v1 (0) (8) → (8 : Int) - v1.toInt < (n : Int) → BX m σ → ok (F_X11_looked_16 N K len n σ ρ v1) (fun q => rg q.1 (-5) (7) ∧ BX m q.2) := by
  intro n
  induction n with
  | zero => intro σ v1 r_v1 hm hB; exact (ms_z r_v1 (by decide) hm).elim
  | succ n ih =>
    intro σ v1 r_v1 hm hB
    unfold F_X11_looked_16
    refine ok_if (fun c_1809 => ?_) (fun c_1809 => ?_)
    · exact ok_some ⟨(rg_w (show rg (-5 : Int32) (-5) (-5) from ⟨by decide, by decide⟩) (by decide) (by decide)), hB⟩
    · refine ok_bn (s_X11_valueAt (by decide)) (fun r3_1810 qr3_1810 => ?_)
      refine ok_bn (s_X8_cutterAt_1 hB hQ) (fun o4_1811 qo4_1811 => ?_)
      refine ok_oc (fun o_1812 => ?_) (fun c5_1813 o_1812 => ?_)
      · exact ok_some ⟨(rg_w (rg_lt (nle c_1809) r_v1 (rg_gt (nle c_1809) r_v1 (bx_get hB (r := 1) (a := 13) (b := 13) (k := 13) (l := 0) (h := 8) (by decide) (by decide) (by decide)))) (by decide) (by decide)), hB⟩
      · refine ok_gd (qo4_1811 _ o_1812).1 ?_
        refine ok_bn2 (s_X3_tryCut (by decide) (qo4_1811 _ o_1812) hB hQ) (fun r6_1814 σ6_1815 qr6_1814 => ?_)
        obtain ⟨hr6_1814, bσ6_1815⟩ := qr6_1814
        refine ok_if (fun c_1816 => ?_) (fun c_1816 => ?_)
        · exact ok_some ⟨(rg_w (rg_lt (nle c_1809) r_v1 (rg_gt (nle c_1809) r_v1 (bx_get hB (r := 1) (a := 13) (b := 13) (k := 13) (l := 0) (h := 8) (by decide) (by decide) (by decide)))) (by decide) (by decide)), bσ6_1815⟩
        · refine ok_bn (s_X11_valueAt (by decide)) (fun r8_1817 qr8_1817 => ?_)
          refine ok_if (fun c_1818 => ?_) (fun c_1818 => ?_)
          · refine ok_nm (fun x10_1819 hx10_1819 => ?_)
            exact ih _ _ (rg_w (rg_eq hx10_1819 (rg_add (l := 1) (h := 8) (rg_lt (nle c_1809) r_v1 (rg_gt (nle c_1809) r_v1 (bx_get hB (r := 1) (a := 13) (b := 13) (k := 13) (l := 0) (h := 8) (by decide) (by decide) (by decide)))) (show rg (1 : Int32) (1) (1) from ⟨by decide, by decide⟩) (by decide) (by decide) (by decide) (by decide))) (by decide) (by decide)) (ms_s hx10_1819 (rg_lt (nle c_1809) r_v1 (rg_gt (nle c_1809) r_v1 (bx_get hB (r := 1) (a := 13) (b := 13) (k := 13) (l := 0) (h := 8) (by decide) (by decide) (by decide)))) (by decide) (by decide) hm) bσ6_1815
          · exact ok_some ⟨(rg_w (rg_lt (nle c_1809) r_v1 (rg_gt (nle c_1809) r_v1 (bx_get hB (r := 1) (a := 13) (b := 13) (k := 13) (l := 0) (h := 8) (by decide) (by decide) (by decide)))) (by decide) (by decide)), bσ6_1815⟩

set_option maxHeartbeats 4000000 in
set_option maxRecDepth 100000 in
theorem s_X11_looked {m : Int} {N : Nat} {K len : Nat → Nat} {σ : SG} {ρ : RG} (hB : BX m σ) (hQ : PR N K len ρ) : ok (F_X11_looked N K len σ ρ) (fun q => rg q.1 (-5) (7) ∧ BX m q.2) := by
  unfold F_X11_looked
  refine ok_bn (s_X3_takes (by decide) (by decide) hB hQ) (fun σ1_1820 qσ1_1820 => ?_)
  exact (s_X11_looked_16 hQ 1024 _ _ (rg_w (show rg (0 : Int32) (0) (0) from ⟨by decide, by decide⟩) (by decide) (by decide)) (ms_0 (show rg (0 : Int32) (0) (0) from ⟨by decide, by decide⟩) (by decide)) qσ1_1820)

set_option maxHeartbeats 4000000 in
set_option maxRecDepth 100000 in
theorem s_X11_cancel_45 {m : Int} {N : Nat} {K len : Nat → Nat} {rec_11 : SG → RG → Int32 → Int32 → Int32 → Option (Int32 × SG)} {ρ : RG} {no : Nat} (hrec : ∀ (σ : SG) (v1 : Int32) (v2 : Int32) (v3 : Int32), rg v3 (0) (6) → (6 : Int) - v3.toInt < (no : Int) → BX m σ → ok (rec_11 σ ρ v1 v2 v3) (fun q => rg q.1 (-2147483648) (2147483647) ∧ BX m q.2)) (hQ : PR N K len ρ) : ∀ (n : Nat) (σ : SG) (v1 : Int32) (v2 : Int32) (v3 : Int32) (v4 : Int32), rg v3 (0) (5) → rg v4 (0) (6) → (6 : Int) - v4.toInt < (n : Int) → (6 : Int) - v3.toInt < ((no + 1 : Nat) : Int) → BX m σ → ok (F_X11_cancel_45 N K len rec_11 n σ ρ v1 v2 v3 v4) (fun q => rg q.1 (-2147483648) (2147483647) ∧ BX m q.2) := by
  intro n
  induction n with
  | zero => intro σ v1 v2 v3 v4 r_v3 r_v4 hm hmo hB; exact (ms_z r_v4 (by decide) hm).elim
  | succ n ih =>
    intro σ v1 v2 v3 v4 r_v3 r_v4 hm hmo hB
    unfold F_X11_cancel_45
    refine ok_if (fun c_1865 => ?_) (fun c_1865 => ?_)
    · unfold F_X11_cancel_118
      refine ok_nm (fun x8_1866 hx8_1866 => ?_)
      exact hrec _ _ _ _ (rg_w (rg_eq hx8_1866 (rg_add (l := 1) (h := 6) r_v3 (show rg (1 : Int32) (1) (1) from ⟨by decide, by decide⟩) (by decide) (by decide) (by decide) (by decide))) (by decide) (by decide)) (ms_s hx8_1866 r_v3 (by decide) (by decide) hmo) hB
    · refine ok_bn (s_X8_cutterAt_1 hB hQ) (fun o9_1867 qo9_1867 => ?_)
      refine ok_oc (fun o_1868 => ?_) (fun c10_1869 o_1868 => ?_)
      · refine ok_bn (s_X11_tryStep_n hB hQ) (fun r11_1870 qr11_1870 => ?_)
        refine ok_if (fun c_1871 => ?_) (fun c_1871 => ?_)
        · unfold F_X11_cancel_112
          refine ok_nm (fun x13_1872 hx13_1872 => ?_)
          exact ih _ _ _ _ _ r_v3 (rg_w (rg_eq hx13_1872 (rg_add (l := 1) (h := 6) (rg_lt (nle c_1865) r_v4 (rg_gt (nle c_1865) r_v4 (bx_get hB (r := 1) (a := 1) (b := 1) (k := 1) (l := 0) (h := 6) (by decide) (by decide) (by decide)))) (show rg (1 : Int32) (1) (1) from ⟨by decide, by decide⟩) (by decide) (by decide) (by decide) (by decide))) (by decide) (by decide)) (ms_s hx13_1872 (rg_lt (nle c_1865) r_v4 (rg_gt (nle c_1865) r_v4 (bx_get hB (r := 1) (a := 1) (b := 1) (k := 1) (l := 0) (h := 6) (by decide) (by decide) (by decide)))) (by decide) (by decide) hm) hmo hB
        · refine ok_if (fun c_1873 => ?_) (fun c_1873 => ?_)
          · unfold F_X11_cancel_94
            refine ok_bn (s_X3_slope (by decide) hB hQ) (fun r15_1874 qr15_1874 => ?_)
            refine ok_nm (fun x16_1875 hx16_1875 => ?_)
            refine ok_nm (fun x17_1876 hx17_1876 => ?_)
            unfold F_X11_cancel_112
            refine ok_nm (fun x13_1877 hx13_1877 => ?_)
            exact ih _ _ _ _ _ r_v3 (rg_w (rg_eq hx13_1877 (rg_add (l := 1) (h := 6) (rg_lt (nle c_1865) r_v4 (rg_gt (nle c_1865) r_v4 (bx_get hB (r := 1) (a := 1) (b := 1) (k := 1) (l := 0) (h := 6) (by decide) (by decide) (by decide)))) (show rg (1 : Int32) (1) (1) from ⟨by decide, by decide⟩) (by decide) (by decide) (by decide) (by decide))) (by decide) (by decide)) (ms_s hx13_1877 (rg_lt (nle c_1865) r_v4 (rg_gt (nle c_1865) r_v4 (bx_get hB (r := 1) (a := 1) (b := 1) (k := 1) (l := 0) (h := 6) (by decide) (by decide) (by decide)))) (by decide) (by decide) hm) hmo hB
          · refine ok_bn (s_X3_slope (by decide) hB hQ) (fun r18_1878 qr18_1878 => ?_)
            refine ok_if (fun c_1879 => ?_) (fun c_1879 => ?_)
            · unfold F_X11_cancel_112
              refine ok_nm (fun x13_1880 hx13_1880 => ?_)
              exact ih _ _ _ _ _ r_v3 (rg_w (rg_eq hx13_1880 (rg_add (l := 1) (h := 6) (rg_lt (nle c_1865) r_v4 (rg_gt (nle c_1865) r_v4 (bx_get hB (r := 1) (a := 1) (b := 1) (k := 1) (l := 0) (h := 6) (by decide) (by decide) (by decide)))) (show rg (1 : Int32) (1) (1) from ⟨by decide, by decide⟩) (by decide) (by decide) (by decide) (by decide))) (by decide) (by decide)) (ms_s hx13_1880 (rg_lt (nle c_1865) r_v4 (rg_gt (nle c_1865) r_v4 (bx_get hB (r := 1) (a := 1) (b := 1) (k := 1) (l := 0) (h := 6) (by decide) (by decide) (by decide)))) (by decide) (by decide) hm) hmo hB
            · unfold F_X11_cancel_94
              refine ok_bn (s_X3_slope (by decide) hB hQ) (fun r15_1881 qr15_1881 => ?_)
              refine ok_nm (fun x16_1882 hx16_1882 => ?_)
              refine ok_nm (fun x17_1883 hx17_1883 => ?_)
              unfold F_X11_cancel_112
              refine ok_nm (fun x13_1884 hx13_1884 => ?_)
              exact ih _ _ _ _ _ r_v3 (rg_w (rg_eq hx13_1884 (rg_add (l := 1) (h := 6) (rg_lt (nle c_1865) r_v4 (rg_gt (nle c_1865) r_v4 (bx_get hB (r := 1) (a := 1) (b := 1) (k := 1) (l := 0) (h := 6) (by decide) (by decide) (by decide)))) (show rg (1 : Int32) (1) (1) from ⟨by decide, by decide⟩) (by decide) (by decide) (by decide) (by decide))) (by decide) (by decide)) (ms_s hx13_1884 (rg_lt (nle c_1865) r_v4 (rg_gt (nle c_1865) r_v4 (bx_get hB (r := 1) (a := 1) (b := 1) (k := 1) (l := 0) (h := 6) (by decide) (by decide) (by decide)))) (by decide) (by decide) hm) hmo hB
      · refine ok_gd (qo9_1867 _ o_1868).1 ?_
        refine ok_bn2 (s_X11_tryStep (rg_w (show rg (1 : Int32) (1) (1) from ⟨by decide, by decide⟩) (by decide) (by decide)) (qo9_1867 _ o_1868) hB hQ) (fun r20_1885 σ20_1886 qr20_1885 => ?_)
        obtain ⟨hr20_1885, bσ20_1886⟩ := qr20_1885
        refine ok_if (fun c_1887 => ?_) (fun c_1887 => ?_)
        · unfold F_X11_cancel_112
          refine ok_nm (fun x13_1888 hx13_1888 => ?_)
          exact ih _ _ _ _ _ r_v3 (rg_w (rg_eq hx13_1888 (rg_add (l := 1) (h := 6) (rg_lt (nle c_1865) r_v4 (rg_gt (nle c_1865) r_v4 (bx_get hB (r := 1) (a := 1) (b := 1) (k := 1) (l := 0) (h := 6) (by decide) (by decide) (by decide)))) (show rg (1 : Int32) (1) (1) from ⟨by decide, by decide⟩) (by decide) (by decide) (by decide) (by decide))) (by decide) (by decide)) (ms_s hx13_1888 (rg_lt (nle c_1865) r_v4 (rg_gt (nle c_1865) r_v4 (bx_get hB (r := 1) (a := 1) (b := 1) (k := 1) (l := 0) (h := 6) (by decide) (by decide) (by decide)))) (by decide) (by decide) hm) hmo bσ20_1886
        · refine ok_if (fun c_1889 => ?_) (fun c_1889 => ?_)
          · unfold F_X11_cancel_94
            refine ok_bn (s_X3_slope (by decide) bσ20_1886 hQ) (fun r15_1890 qr15_1890 => ?_)
            refine ok_nm (fun x16_1891 hx16_1891 => ?_)
            refine ok_nm (fun x17_1892 hx17_1892 => ?_)
            unfold F_X11_cancel_112
            refine ok_nm (fun x13_1893 hx13_1893 => ?_)
            exact ih _ _ _ _ _ r_v3 (rg_w (rg_eq hx13_1893 (rg_add (l := 1) (h := 6) (rg_lt (nle c_1865) r_v4 (rg_gt (nle c_1865) r_v4 (bx_get hB (r := 1) (a := 1) (b := 1) (k := 1) (l := 0) (h := 6) (by decide) (by decide) (by decide)))) (show rg (1 : Int32) (1) (1) from ⟨by decide, by decide⟩) (by decide) (by decide) (by decide) (by decide))) (by decide) (by decide)) (ms_s hx13_1893 (rg_lt (nle c_1865) r_v4 (rg_gt (nle c_1865) r_v4 (bx_get hB (r := 1) (a := 1) (b := 1) (k := 1) (l := 0) (h := 6) (by decide) (by decide) (by decide)))) (by decide) (by decide) hm) hmo bσ20_1886
          · refine ok_bn (s_X3_slope (by decide) bσ20_1886 hQ) (fun r23_1894 qr23_1894 => ?_)
            refine ok_if (fun c_1895 => ?_) (fun c_1895 => ?_)
            · unfold F_X11_cancel_112
              refine ok_nm (fun x13_1896 hx13_1896 => ?_)
              exact ih _ _ _ _ _ r_v3 (rg_w (rg_eq hx13_1896 (rg_add (l := 1) (h := 6) (rg_lt (nle c_1865) r_v4 (rg_gt (nle c_1865) r_v4 (bx_get hB (r := 1) (a := 1) (b := 1) (k := 1) (l := 0) (h := 6) (by decide) (by decide) (by decide)))) (show rg (1 : Int32) (1) (1) from ⟨by decide, by decide⟩) (by decide) (by decide) (by decide) (by decide))) (by decide) (by decide)) (ms_s hx13_1896 (rg_lt (nle c_1865) r_v4 (rg_gt (nle c_1865) r_v4 (bx_get hB (r := 1) (a := 1) (b := 1) (k := 1) (l := 0) (h := 6) (by decide) (by decide) (by decide)))) (by decide) (by decide) hm) hmo bσ20_1886
            · unfold F_X11_cancel_94
              refine ok_bn (s_X3_slope (by decide) bσ20_1886 hQ) (fun r15_1897 qr15_1897 => ?_)
              refine ok_nm (fun x16_1898 hx16_1898 => ?_)
              refine ok_nm (fun x17_1899 hx17_1899 => ?_)
              unfold F_X11_cancel_112
              refine ok_nm (fun x13_1900 hx13_1900 => ?_)
              exact ih _ _ _ _ _ r_v3 (rg_w (rg_eq hx13_1900 (rg_add (l := 1) (h := 6) (rg_lt (nle c_1865) r_v4 (rg_gt (nle c_1865) r_v4 (bx_get hB (r := 1) (a := 1) (b := 1) (k := 1) (l := 0) (h := 6) (by decide) (by decide) (by decide)))) (show rg (1 : Int32) (1) (1) from ⟨by decide, by decide⟩) (by decide) (by decide) (by decide) (by decide))) (by decide) (by decide)) (ms_s hx13_1900 (rg_lt (nle c_1865) r_v4 (rg_gt (nle c_1865) r_v4 (bx_get hB (r := 1) (a := 1) (b := 1) (k := 1) (l := 0) (h := 6) (by decide) (by decide) (by decide)))) (by decide) (by decide) hm) hmo bσ20_1886

set_option maxHeartbeats 4000000 in
set_option maxRecDepth 100000 in
theorem s_X11_cancel_11 {m : Int} {N : Nat} {K len : Nat → Nat} {ρ : RG} (hQ : PR N K len ρ) : ∀ (n : Nat) (σ : SG) (v1 : Int32) (v2 : Int32) (v3 : Int32), rg v3 (0) (6) → (6 : Int) - v3.toInt < (n : Int) → BX m σ → ok (F_X11_cancel_11 N K len n σ ρ v1 v2 v3) (fun q => rg q.1 (-2147483648) (2147483647) ∧ BX m q.2) := by
  intro n
  induction n with
  | zero => intro σ v1 v2 v3 r_v3 hm hB; exact (ms_z r_v3 (by decide) hm).elim
  | succ n ih =>
    intro σ v1 v2 v3 r_v3 hm hB
    unfold F_X11_cancel_11
    refine ok_if (fun c_1905 => ?_) (fun c_1905 => ?_)
    · exact ok_some ⟨(rg_any _), hB⟩
    · refine ok_bn (s_X8_cutterAt_1 hB hQ) (fun o3_1906 qo3_1906 => ?_)
      refine ok_oc (fun o_1907 => ?_) (fun c4_1908 o_1907 => ?_)
      · refine ok_bn (s_X11_tryStep_n hB hQ) (fun r5_1909 qr5_1909 => ?_)
        refine ok_if (fun c_1910 => ?_) (fun c_1910 => ?_)
        · unfold F_X11_cancel_118
          refine ok_nm (fun x8_1911 hx8_1911 => ?_)
          exact ih _ _ _ _ (rg_w (rg_eq hx8_1911 (rg_add (l := 1) (h := 6) (rg_lt (nle c_1905) r_v3 (rg_gt (nle c_1905) r_v3 (bx_get hB (r := 1) (a := 1) (b := 1) (k := 1) (l := 0) (h := 6) (by decide) (by decide) (by decide)))) (show rg (1 : Int32) (1) (1) from ⟨by decide, by decide⟩) (by decide) (by decide) (by decide) (by decide))) (by decide) (by decide)) (ms_s hx8_1911 (rg_lt (nle c_1905) r_v3 (rg_gt (nle c_1905) r_v3 (bx_get hB (r := 1) (a := 1) (b := 1) (k := 1) (l := 0) (h := 6) (by decide) (by decide) (by decide)))) (by decide) (by decide) hm) hB
        · exact (s_X11_cancel_45 ih hQ 1024 _ _ _ _ _ (rg_lt (nle c_1905) r_v3 (rg_gt (nle c_1905) r_v3 (bx_get hB (r := 1) (a := 1) (b := 1) (k := 1) (l := 0) (h := 6) (by decide) (by decide) (by decide)))) (rg_w (show rg (0 : Int32) (0) (0) from ⟨by decide, by decide⟩) (by decide) (by decide)) (ms_0 (show rg (0 : Int32) (0) (0) from ⟨by decide, by decide⟩) (by decide)) hm hB)
      · refine ok_gd (qo3_1906 _ o_1907).1 ?_
        refine ok_bn2 (s_X11_tryStep (rg_w (show rg (0 : Int32) (0) (0) from ⟨by decide, by decide⟩) (by decide) (by decide)) (qo3_1906 _ o_1907) hB hQ) (fun r25_1912 σ25_1913 qr25_1912 => ?_)
        obtain ⟨hr25_1912, bσ25_1913⟩ := qr25_1912
        refine ok_if (fun c_1914 => ?_) (fun c_1914 => ?_)
        · unfold F_X11_cancel_118
          refine ok_nm (fun x8_1915 hx8_1915 => ?_)
          exact ih _ _ _ _ (rg_w (rg_eq hx8_1915 (rg_add (l := 1) (h := 6) (rg_lt (nle c_1905) r_v3 (rg_gt (nle c_1905) r_v3 (bx_get hB (r := 1) (a := 1) (b := 1) (k := 1) (l := 0) (h := 6) (by decide) (by decide) (by decide)))) (show rg (1 : Int32) (1) (1) from ⟨by decide, by decide⟩) (by decide) (by decide) (by decide) (by decide))) (by decide) (by decide)) (ms_s hx8_1915 (rg_lt (nle c_1905) r_v3 (rg_gt (nle c_1905) r_v3 (bx_get hB (r := 1) (a := 1) (b := 1) (k := 1) (l := 0) (h := 6) (by decide) (by decide) (by decide)))) (by decide) (by decide) hm) bσ25_1913
        · exact (s_X11_cancel_45 ih hQ 1024 _ _ _ _ _ (rg_lt (nle c_1905) r_v3 (rg_gt (nle c_1905) r_v3 (bx_get hB (r := 1) (a := 1) (b := 1) (k := 1) (l := 0) (h := 6) (by decide) (by decide) (by decide)))) (rg_w (show rg (0 : Int32) (0) (0) from ⟨by decide, by decide⟩) (by decide) (by decide)) (ms_0 (show rg (0 : Int32) (0) (0) from ⟨by decide, by decide⟩) (by decide)) hm bσ25_1913)

set_option maxHeartbeats 4000000 in
set_option maxRecDepth 100000 in
theorem s_X11_cancel {m : Int} {N : Nat} {K len : Nat → Nat} {σ : SG} {ρ : RG} (hB : BX m σ) (hQ : PR N K len ρ) : ok (F_X11_cancel N K len σ ρ) (fun q => rg q.1 (-2147483648) (2147483647) ∧ BX m q.2) := by
  unfold F_X11_cancel
  refine ok_bn (s_X11_startSteps hB hQ) (fun σ1_1916 qσ1_1916 => ?_)
  exact (s_X11_cancel_11 hQ 1024 _ _ _ _ (rg_w (show rg (0 : Int32) (0) (0) from ⟨by decide, by decide⟩) (by decide) (by decide)) (ms_0 (show rg (0 : Int32) (0) (0) from ⟨by decide, by decide⟩) (by decide)) qσ1_1916)

set_option maxHeartbeats 4000000 in
set_option maxRecDepth 100000 in
theorem s_X11_partOf_9 {m : Int} {N : Nat} {K len : Nat → Nat} {a1 : Int64} {a2 : Int64} {a3 : Int32} {ρ : RG} (hQ : PR N K len ρ) : ∀ (n : Nat) (σ : SG) (v0 : Int64) (v2 : Int64) (v4 : Int32) (v5 : Int64) (v7 : Int64) (v9 : Int32), rg v9 (0) (128) → (128 : Int) - v9.toInt < (n : Int) → BX m σ → ok (F_X11_partOf_9 a1 a2 a3 n σ ρ v0 v2 v4 v5 v7 v9) (fun _ => True) := by
  intro n
  induction n with
  | zero => intro σ v0 v2 v4 v5 v7 v9 r_v9 hm hB; exact (ms_z r_v9 (by decide) hm).elim
  | succ n ih =>
    intro σ v0 v2 v4 v5 v7 v9 r_v9 hm hB
    unfold F_X11_partOf_9
    refine ok_if (fun c_1934 => ?_) (fun c_1934 => ?_)
    · unfold F_X11_partOf_45
      refine ok_nm (fun x2_1935 hx2_1935 => ?_)
      refine ok_if (fun c_1936 => ?_) (fun c_1936 => ?_)
      · refine ok_if (fun c_1937 => ?_) (fun c_1937 => ?_)
        · exact ok_some trivial
        · exact ok_some trivial
      · refine ok_if (fun c_1938 => ?_) (fun c_1938 => ?_)
        · refine ok_gd (decide_eq_true (lcmp_ne hx2_1935 c_1936)) ?_
          refine ok_nm (fun x8_1939 hx8_1939 => ?_)
          exact ok_some trivial
        · refine ok_gd (decide_eq_true (lcmp_ne hx2_1935 c_1936)) ?_
          refine ok_nm (fun x6_1940 hx6_1940 => ?_)
          exact ok_some trivial
    · refine ok_nm (fun x10_1941 hx10_1941 => ?_)
      refine ok_if (fun c_1942 => ?_) (fun c_1942 => ?_)
      · unfold F_X11_partOf_45
        refine ok_nm (fun x2_1943 hx2_1943 => ?_)
        refine ok_if (fun c_1944 => ?_) (fun c_1944 => ?_)
        · refine ok_if (fun c_1945 => ?_) (fun c_1945 => ?_)
          · exact ok_some trivial
          · exact ok_some trivial
        · refine ok_if (fun c_1946 => ?_) (fun c_1946 => ?_)
          · refine ok_gd (decide_eq_true (lcmp_ne hx2_1943 c_1944)) ?_
            refine ok_nm (fun x8_1947 hx8_1947 => ?_)
            exact ok_some trivial
          · refine ok_gd (decide_eq_true (lcmp_ne hx2_1943 c_1944)) ?_
            refine ok_nm (fun x6_1948 hx6_1948 => ?_)
            exact ok_some trivial
      · refine ok_gd (decide_eq_true (lcmp_ne hx10_1941 c_1942)) ?_
        refine ok_nm (fun x13_1949 hx13_1949 => ?_)
        refine ok_nm (fun x14_1950 hx14_1950 => ?_)
        exact ih _ _ _ _ _ _ _ (rg_w (rg_eq hx14_1950 (rg_add (l := 1) (h := 128) (rg_lt (nle c_1934) r_v9 (show rg (128 : Int32) (128) (128) from ⟨by decide, by decide⟩)) (show rg (1 : Int32) (1) (1) from ⟨by decide, by decide⟩) (by decide) (by decide) (by decide) (by decide))) (by decide) (by decide)) (ms_s hx14_1950 (rg_lt (nle c_1934) r_v9 (show rg (128 : Int32) (128) (128) from ⟨by decide, by decide⟩)) (by decide) (by decide) hm) hB

set_option maxHeartbeats 4000000 in
set_option maxRecDepth 100000 in
theorem s_X11_partOf {m : Int} {N : Nat} {K len : Nat → Nat} {a1 : Int64} {a2 : Int64} {a3 : Int32} {σ : SG} {ρ : RG} (hB : BX m σ) (hQ : PR N K len ρ) : ok (F_X11_partOf a1 a2 a3 σ ρ) (fun _ => True) := by
  unfold F_X11_partOf
  exact (s_X11_partOf_9 hQ 1024 _ _ _ _ _ _ _ (rg_w (show rg (0 : Int32) (0) (0) from ⟨by decide, by decide⟩) (by decide) (by decide)) (ms_0 (show rg (0 : Int32) (0) (0) from ⟨by decide, by decide⟩) (by decide)) hB)

set_option maxHeartbeats 4000000 in
set_option maxRecDepth 100000 in
theorem s_X11_mean_32 {m : Int} {N : Nat} {K len : Nat → Nat} {a1 : Int32} {ρ : RG} (r_a1 : rg a1 (0) (1)) (hQ : PR N K len ρ) : ∀ (n : Nat) (σ : SG) (v1 : Int32) (v2 : Int64) (v4 : Int32), rg v1 (0) (1) → rg v4 (0) (6) → (6 : Int) - v4.toInt < (n : Int) → BX m σ → ok (F_X11_mean_32 N K len a1 n σ ρ v1 v2 v4) (fun q => BX m q.2) := by
  intro n
  induction n with
  | zero => intro σ v1 v2 v4 r_v1 r_v4 hm hB; exact (ms_z r_v4 (by decide) hm).elim
  | succ n ih =>
    intro σ v1 v2 v4 r_v1 r_v4 hm hB
    unfold F_X11_mean_32
    refine ok_if (fun c_1973 => ?_) (fun c_1973 => ?_)
    · refine ok_bn (s_X11_partOf hB hQ) (fun r6_1974 qr6_1974 => ?_)
      exact ok_some hB
    · refine ok_bn (s_X8_cutterAt_1 hB hQ) (fun o7_1975 qo7_1975 => ?_)
      refine ok_oc (fun o_1976 => ?_) (fun c8_1977 o_1976 => ?_)
      · refine ok_bn (s_X11_tryStep_n hB hQ) (fun r9_1978 qr9_1978 => ?_)
        refine ok_if (fun c_1979 => ?_) (fun c_1979 => ?_)
        · unfold F_X11_mean_75
          refine ok_nm (fun x11_1980 hx11_1980 => ?_)
          exact ih _ _ _ _ r_v1 (rg_w (rg_eq hx11_1980 (rg_add (l := 1) (h := 6) (rg_lt (nle c_1973) r_v4 (rg_gt (nle c_1973) r_v4 (bx_get hB (r := 1) (a := 1) (b := 1) (k := 1) (l := 0) (h := 6) (by decide) (by decide) (by decide)))) (show rg (1 : Int32) (1) (1) from ⟨by decide, by decide⟩) (by decide) (by decide) (by decide) (by decide))) (by decide) (by decide)) (ms_s hx11_1980 (rg_lt (nle c_1973) r_v4 (rg_gt (nle c_1973) r_v4 (bx_get hB (r := 1) (a := 1) (b := 1) (k := 1) (l := 0) (h := 6) (by decide) (by decide) (by decide)))) (by decide) (by decide) hm) hB
        · refine ok_nm (fun x12_1981 hx12_1981 => ?_)
          unfold F_X11_mean_75
          refine ok_nm (fun x11_1982 hx11_1982 => ?_)
          exact ih _ _ _ _ r_v1 (rg_w (rg_eq hx11_1982 (rg_add (l := 1) (h := 6) (rg_lt (nle c_1973) r_v4 (rg_gt (nle c_1973) r_v4 (bx_get hB (r := 1) (a := 1) (b := 1) (k := 1) (l := 0) (h := 6) (by decide) (by decide) (by decide)))) (show rg (1 : Int32) (1) (1) from ⟨by decide, by decide⟩) (by decide) (by decide) (by decide) (by decide))) (by decide) (by decide)) (ms_s hx11_1982 (rg_lt (nle c_1973) r_v4 (rg_gt (nle c_1973) r_v4 (bx_get hB (r := 1) (a := 1) (b := 1) (k := 1) (l := 0) (h := 6) (by decide) (by decide) (by decide)))) (by decide) (by decide) hm) hB
      · refine ok_gd (qo7_1975 _ o_1976).1 ?_
        refine ok_bn2 (s_X11_tryStep (rg_w (show rg (0 : Int32) (0) (0) from ⟨by decide, by decide⟩) (by decide) (by decide)) (qo7_1975 _ o_1976) hB hQ) (fun r13_1983 σ13_1984 qr13_1983 => ?_)
        obtain ⟨hr13_1983, bσ13_1984⟩ := qr13_1983
        refine ok_if (fun c_1985 => ?_) (fun c_1985 => ?_)
        · unfold F_X11_mean_75
          refine ok_nm (fun x11_1986 hx11_1986 => ?_)
          exact ih _ _ _ _ r_v1 (rg_w (rg_eq hx11_1986 (rg_add (l := 1) (h := 6) (rg_lt (nle c_1973) r_v4 (rg_gt (nle c_1973) r_v4 (bx_get hB (r := 1) (a := 1) (b := 1) (k := 1) (l := 0) (h := 6) (by decide) (by decide) (by decide)))) (show rg (1 : Int32) (1) (1) from ⟨by decide, by decide⟩) (by decide) (by decide) (by decide) (by decide))) (by decide) (by decide)) (ms_s hx11_1986 (rg_lt (nle c_1973) r_v4 (rg_gt (nle c_1973) r_v4 (bx_get hB (r := 1) (a := 1) (b := 1) (k := 1) (l := 0) (h := 6) (by decide) (by decide) (by decide)))) (by decide) (by decide) hm) bσ13_1984
        · refine ok_nm (fun x15_1987 hx15_1987 => ?_)
          unfold F_X11_mean_75
          refine ok_nm (fun x11_1988 hx11_1988 => ?_)
          exact ih _ _ _ _ r_v1 (rg_w (rg_eq hx11_1988 (rg_add (l := 1) (h := 6) (rg_lt (nle c_1973) r_v4 (rg_gt (nle c_1973) r_v4 (bx_get hB (r := 1) (a := 1) (b := 1) (k := 1) (l := 0) (h := 6) (by decide) (by decide) (by decide)))) (show rg (1 : Int32) (1) (1) from ⟨by decide, by decide⟩) (by decide) (by decide) (by decide) (by decide))) (by decide) (by decide)) (ms_s hx11_1988 (rg_lt (nle c_1973) r_v4 (rg_gt (nle c_1973) r_v4 (bx_get hB (r := 1) (a := 1) (b := 1) (k := 1) (l := 0) (h := 6) (by decide) (by decide) (by decide)))) (by decide) (by decide) hm) bσ13_1984

set_option maxHeartbeats 4000000 in
set_option maxRecDepth 100000 in
theorem s_X11_mean {m : Int} {N : Nat} {K len : Nat → Nat} {a1 : Int32} {σ : SG} {ρ : RG} (hB : BX m σ) (hQ : PR N K len ρ) : ok (F_X11_mean N K len a1 σ ρ) (fun q => BX m q.2) := by
  unfold F_X11_mean
  refine ok_bn (s_X11_isWithin) (fun r1_1989 qr1_1989 => ?_)
  refine ok_if (fun c_1990 => ?_) (fun c_1990 => ?_)
  · exact ok_some hB
  · obtain ⟨w_1991, w_1992⟩ := qr1_1989.2 c_1990
    refine ok_if (fun c_1993 => ?_) (fun c_1993 => ?_)
    · exact ok_some hB
    · refine ok_bn (s_X11_startSteps hB hQ) (fun σ4_1994 qσ4_1994 => ?_)
      exact (s_X11_mean_32 (rg_le w_1992 (rg_ge w_1991 (show rg (0 : Int32) (0) (0) from ⟨by decide, by decide⟩) (rg_any _)) (show rg (1 : Int32) (1) (1) from ⟨by decide, by decide⟩)) hQ 1024 _ _ _ _ (rg_le w_1992 (rg_ge w_1991 (show rg (0 : Int32) (0) (0) from ⟨by decide, by decide⟩) (rg_any _)) (show rg (1 : Int32) (1) (1) from ⟨by decide, by decide⟩)) (rg_w (show rg (0 : Int32) (0) (0) from ⟨by decide, by decide⟩) (by decide) (by decide)) (ms_0 (show rg (0 : Int32) (0) (0) from ⟨by decide, by decide⟩) (by decide)) qσ4_1994)

set_option maxHeartbeats 4000000 in
set_option maxRecDepth 100000 in
theorem s_X11_isOfKind {m : Int} {N : Nat} {K len : Nat → Nat} {z : Nat} {a2 : Int32} {σ : SG} {ρ : RG} (k_z : CK N K len ρ z) (hB : BX m σ) (hQ : PR N K len ρ) : ok (F_X11_isOfKind N K len z a2 σ ρ) (fun q => rg q (0) (1)) := by
  unfold F_X11_isOfKind
  refine ok_if (fun c_2002 => ?_) (fun c_2002 => ?_)
  · exact ok_some (rg_w (show rg (1 : Int32) (1) (1) from ⟨by decide, by decide⟩) (by decide) (by decide))
  · refine ok_if (fun c_2003 => ?_) (fun c_2003 => ?_)
    · refine ok_gd (rg_isb (rg_w (isb_rg (io7_01 _)) (by decide) (by decide))) ?_
      exact ok_some (isb_rg (io7_01 _))
    · refine ok_if (fun c_2004 => ?_) (fun c_2004 => ?_)
      · refine ok_gd (rg_isb (rg_w (isb_rg (io6_01 _)) (by decide) (by decide))) ?_
        exact ok_some (isb_rg (io6_01 _))
      · refine ok_if (fun c_2005 => ?_) (fun c_2005 => ?_)
        · refine ok_gd (rg_isb (rg_w (isb_rg (io2_01 _)) (by decide) (by decide))) ?_
          exact ok_some (isb_rg (io2_01 _))
        · refine ok_if (fun c_2006 => ?_) (fun c_2006 => ?_)
          · refine ok_gd (rg_isb (rg_w (isb_rg (io5_01 _)) (by decide) (by decide))) ?_
            exact ok_some (isb_rg (io5_01 _))
          · refine ok_if (fun c_2007 => ?_) (fun c_2007 => ?_)
            · refine ok_gd (rg_isb (rg_w (isb_rg (io4_01 _)) (by decide) (by decide))) ?_
              exact ok_some (isb_rg (io4_01 _))
            · refine ok_if (fun c_2008 => ?_) (fun c_2008 => ?_)
              · refine ok_gd (rg_isb (rg_w (isb_rg (io9_01 _)) (by decide) (by decide))) ?_
                exact ok_some (isb_rg (io9_01 _))
              · exact ok_some (rg_w (show rg (0 : Int32) (0) (0) from ⟨by decide, by decide⟩) (by decide) (by decide))

set_option maxHeartbeats 4000000 in
set_option maxRecDepth 100000 in
theorem s_X11_as {m : Int} {N : Nat} {K len : Nat → Nat} {a1 : Int32} {a2 : Int32} {σ : SG} {ρ : RG} (hB : BX m σ) (hQ : PR N K len ρ) : ok (F_X11_as N K len a1 a2 σ ρ) (fun q => rg q (-2147483648) (2147483647)) := by
  unfold F_X11_as
  refine ok_bn (s_X8_cutterAt_1 hB hQ) (fun o1_2018 qo1_2018 => ?_)
  refine ok_oc (fun o_2019 => ?_) (fun c2_2020 o_2019 => ?_)
  · exact ok_some (rg_w (show rg (-1 : Int32) (-1) (-1) from ⟨by decide, by decide⟩) (by decide) (by decide))
  · refine ok_gd (qo1_2018 _ o_2019).1 ?_
    refine ok_bn (s_X11_isWithin) (fun r3_2021 qr3_2021 => ?_)
    refine ok_if (fun c_2022 => ?_) (fun c_2022 => ?_)
    · exact ok_some (rg_w (show rg (-1 : Int32) (-1) (-1) from ⟨by decide, by decide⟩) (by decide) (by decide))
    · obtain ⟨w_2023, w_2024⟩ := qr3_2021.2 c_2022
      refine ok_bn (s_X11_isOfKind (qo1_2018 _ o_2019) hB hQ) (fun r5_2025 qr5_2025 => ?_)
      refine ok_if (fun c_2026 => ?_) (fun c_2026 => ?_)
      · exact ok_some (rg_w (show rg (-6 : Int32) (-6) (-6) from ⟨by decide, by decide⟩) (by decide) (by decide))
      · exact ok_some (rg_any _)

set_option maxHeartbeats 4000000 in
set_option maxRecDepth 100000 in
theorem s_X11_act {m : Int} {N : Nat} {K len : Nat → Nat} {a1 : Int32} {a2 : Int32} {a3 : Int32} {σ : SG} {ρ : RG} (hB : BX m σ) (hQ : PR N K len ρ) : ok (F_X11_act N K len a1 a2 a3 σ ρ) (fun q => rg q.1 (-2147483648) (2147483647) ∧ BX m q.2) := by
  unfold F_X11_act
  refine ok_nm (fun σ2_2040 hσ2_2040 => ?_)
  have bσ2_2040 : BX m σ2_2040 := by rw [hσ2_2040]; exact bx_far hB (by decide) (by decide) (by decide) (by decide)
  refine ok_bn (s_X8_cutterAt_1 bσ2_2040 hQ) (fun o3_2041 qo3_2041 => ?_)
  refine ok_oc (fun o_2042 => ?_) (fun c4_2043 o_2042 => ?_)
  · exact ok_some ⟨(rg_w (show rg (0 : Int32) (0) (0) from ⟨by decide, by decide⟩) (by decide) (by decide)), bσ2_2040⟩
  · refine ok_gd (qo3_2041 _ o_2042).1 ?_
    refine ok_if (fun c_2044 => ?_) (fun c_2044 => ?_)
    · refine ok_bn2 (s_v_cuts (qo3_2041 _ o_2042) bσ2_2040 hQ) (fun r6_2045 σ6_2046 qr6_2045 => ?_)
      obtain ⟨hr6_2045, bσ6_2046⟩ := qr6_2045
      exact ok_some ⟨hr6_2045, bσ6_2046⟩
    · refine ok_if (fun c_2047 => ?_) (fun c_2047 => ?_)
      · refine ok_bn2 (s_v_eats (qo3_2041 _ o_2042) bσ2_2040 hQ) (fun r7_2048 σ7_2049 qr7_2048 => ?_)
        obtain ⟨hr7_2048, bσ7_2049⟩ := qr7_2048
        exact ok_some ⟨hr7_2048, bσ7_2049⟩
      · refine ok_if (fun c_2050 => ?_) (fun c_2050 => ?_)
        · refine ok_bn2 (s_v_tells (qo3_2041 _ o_2042) bσ2_2040 hQ) (fun r8_2051 σ8_2052 qr8_2051 => ?_)
          obtain ⟨hr8_2051, bσ8_2052⟩ := qr8_2051
          exact ok_some ⟨hr8_2051, bσ8_2052⟩
        · exact ok_some ⟨(rg_w (show rg (0 : Int32) (0) (0) from ⟨by decide, by decide⟩) (by decide) (by decide)), bσ2_2040⟩

set_option maxHeartbeats 4000000 in
set_option maxRecDepth 100000 in
theorem s_X11_thickByWay {m : Int} {N : Nat} {K len : Nat → Nat} {z : Nat} {a2 : Int32} {σ : SG} {ρ : RG} (k_z : CK N K len ρ z) (hB : BX m σ) (hQ : PR N K len ρ) : ok (F_X11_thickByWay N K len z a2 σ ρ) (fun q => rg q (-2147483648) (2147483647)) := by
  unfold F_X11_thickByWay
  refine ok_if (fun c_2059 => ?_) (fun c_2059 => ?_)
  · refine ok_nm (fun x5_2060 hx5_2060 => ?_)
    refine ok_nm (fun x6_2061 hx6_2061 => ?_)
    exact ok_some (rg_any _)
  · refine ok_if (fun c_2062 => ?_) (fun c_2062 => ?_)
    · refine ok_nm (fun x3_2063 hx3_2063 => ?_)
      refine ok_nm (fun x4_2064 hx4_2064 => ?_)
      exact ok_some (rg_any _)
    · exact ok_some (rg_any _)

set_option maxHeartbeats 4000000 in
set_option maxRecDepth 100000 in
theorem s_X11_tryOrders_B_40 {m : Int} {N : Nat} {K len : Nat → Nat} {R : Int32 → Int32 → Int32 → SG → RG → Option (SG)} {a1 : Int32} {a2 : Int32} {a3 : Int32} {ρ : RG} {d : Nat} (hR : ∀ (a1 : Int32) (a2 : Int32) (a3 : Int32) (σ : SG), rg a1 (0) (6) → (6 : Int) - a1.toInt < (d : Int) → BX m σ → ok (R a1 a2 a3 σ ρ) (fun q => BX m q)) (r_a1 : rg a1 (0) (5)) (hQ : PR N K len ρ) : ∀ (n : Nat) (σ : SG) (v1 : Int32) (v2 : Int32) (v3 : Int32) (v4 : Int32), rg v1 (0) (5) → rg v4 (0) (6) → (6 : Int) - v4.toInt < (n : Int) → (6 : Int) - v1.toInt < ((d + 1 : Nat) : Int) → BX m σ → ok (F_X11_tryOrders_B_40 N K len R a1 a2 a3 n σ ρ v1 v2 v3 v4) (fun q => BX m q) := by
  intro n
  induction n with
  | zero => intro σ v1 v2 v3 v4 r_v1 r_v4 hm hmR hB; exact (ms_z r_v4 (by decide) hm).elim
  | succ n ih =>
    intro σ v1 v2 v3 v4 r_v1 r_v4 hm hmR hB
    unfold F_X11_tryOrders_B_40
    refine ok_if (fun c_2104 => ?_) (fun c_2104 => ?_)
    · exact ok_some hB
    · refine ok_if (fun c_2105 => ?_) (fun c_2105 => ?_)
      · exact ok_some hB
      · refine ok_nm (fun x4_2106 hx4_2106 => ?_)
        refine ok_nm (fun x5_2107 hx5_2107 => ?_)
        refine ok_if (fun c_2108 => ?_) (fun c_2108 => ?_)
        · refine ok_bn (s_X8_cutterAt_1 hB hQ) (fun o8_2109 qo8_2109 => ?_)
          refine ok_oc (fun o_2110 => ?_) (fun c9_2111 o_2110 => ?_)
          · refine ok_bn (s_X11_tryStep_n hB hQ) (fun r10_2112 qr10_2112 => ?_)
            refine ok_if (fun c_2113 => ?_) (fun c_2113 => ?_)
            · unfold F_X11_tryOrders_B_132
              refine ok_nm (fun x7_2114 hx7_2114 => ?_)
              exact ih _ _ _ _ _ r_v1 (rg_w (rg_eq hx7_2114 (rg_add (l := 1) (h := 6) (rg_lt (nle c_2104) r_v4 (rg_gt (nle c_2104) r_v4 (bx_get hB (r := 1) (a := 1) (b := 1) (k := 1) (l := 0) (h := 6) (by decide) (by decide) (by decide)))) (show rg (1 : Int32) (1) (1) from ⟨by decide, by decide⟩) (by decide) (by decide) (by decide) (by decide))) (by decide) (by decide)) (ms_s hx7_2114 (rg_lt (nle c_2104) r_v4 (rg_gt (nle c_2104) r_v4 (bx_get hB (r := 1) (a := 1) (b := 1) (k := 1) (l := 0) (h := 6) (by decide) (by decide) (by decide)))) (by decide) (by decide) hm) hmR hB
            · refine ok_gd (rg_inb r_v1 (by decide) (by decide)) ?_
              refine ok_nm (fun σ14_2115 hσ14_2115 => ?_)
              have bσ14_2115 : BX m σ14_2115 := by rw [hσ14_2115]; exact bx_far hB (by decide) (by decide) (by decide) (by decide)
              refine ok_nm (fun x15_2116 hx15_2116 => ?_)
              refine ok_gd (rg_inb (rg_eq hx15_2116 (rg_add (l := 1) (h := 6) r_v1 (show rg (1 : Int32) (1) (1) from ⟨by decide, by decide⟩) (by decide) (by decide) (by decide) (by decide))) (by decide) (by decide)) ?_
              refine ok_oc (fun o_2117 => ?_) (fun c17_2118 o_2117 => ?_)
              · exact (lb_xn hQ.1 (rg_w (rg_eq hx15_2116 (rg_add (l := 1) (h := 6) r_v1 (show rg (1 : Int32) (1) (1) from ⟨by decide, by decide⟩) (by decide) (by decide) (by decide) (by decide))) (by decide) (by decide)) o_2117).elim
              · refine ok_gd (lb_x hQ.1 (rg_w (rg_eq hx15_2116 (rg_add (l := 1) (h := 6) r_v1 (show rg (1 : Int32) (1) (1) from ⟨by decide, by decide⟩) (by decide) (by decide) (by decide) (by decide))) (by decide) (by decide)) o_2117) ?_
                refine ok_nm (fun x18_2119 hx18_2119 => ?_)
                refine ok_nm (fun x19_2120 hx19_2120 => ?_)
                refine ok_nm (fun x20_2121 hx20_2121 => ?_)
                refine ok_nm (fun x21_2122 hx21_2122 => ?_)
                refine ok_nm (fun x22_2123 hx22_2123 => ?_)
                refine ok_bn (hR _ _ _ _ (rg_w (rg_eq (hx18_2119.trans hx15_2116.symm) (rg_eq hx15_2116 (rg_add (l := 1) (h := 6) r_v1 (show rg (1 : Int32) (1) (1) from ⟨by decide, by decide⟩) (by decide) (by decide) (by decide) (by decide)))) (by decide) (by decide)) (ms_s hx18_2119 r_v1 (by decide) (by decide) hmR) bσ14_2115) (fun σ23_2124 qσ23_2124 => ?_)
                unfold F_X11_tryOrders_B_132
                refine ok_nm (fun x7_2125 hx7_2125 => ?_)
                exact ih _ _ _ _ _ r_v1 (rg_w (rg_eq hx7_2125 (rg_add (l := 1) (h := 6) (rg_lt (nle c_2104) r_v4 (rg_gt (nle c_2104) r_v4 (bx_get hB (r := 1) (a := 1) (b := 1) (k := 1) (l := 0) (h := 6) (by decide) (by decide) (by decide)))) (show rg (1 : Int32) (1) (1) from ⟨by decide, by decide⟩) (by decide) (by decide) (by decide) (by decide))) (by decide) (by decide)) (ms_s hx7_2125 (rg_lt (nle c_2104) r_v4 (rg_gt (nle c_2104) r_v4 (bx_get hB (r := 1) (a := 1) (b := 1) (k := 1) (l := 0) (h := 6) (by decide) (by decide) (by decide)))) (by decide) (by decide) hm) hmR qσ23_2124
          · refine ok_gd (qo8_2109 _ o_2110).1 ?_
            refine ok_bn2 (s_X11_tryStep (rg_w r_v1 (by decide) (by decide)) (qo8_2109 _ o_2110) hB hQ) (fun r24_2126 σ24_2127 qr24_2126 => ?_)
            obtain ⟨hr24_2126, bσ24_2127⟩ := qr24_2126
            refine ok_if (fun c_2128 => ?_) (fun c_2128 => ?_)
            · unfold F_X11_tryOrders_B_132
              refine ok_nm (fun x7_2129 hx7_2129 => ?_)
              exact ih _ _ _ _ _ r_v1 (rg_w (rg_eq hx7_2129 (rg_add (l := 1) (h := 6) (rg_lt (nle c_2104) r_v4 (rg_gt (nle c_2104) r_v4 (bx_get hB (r := 1) (a := 1) (b := 1) (k := 1) (l := 0) (h := 6) (by decide) (by decide) (by decide)))) (show rg (1 : Int32) (1) (1) from ⟨by decide, by decide⟩) (by decide) (by decide) (by decide) (by decide))) (by decide) (by decide)) (ms_s hx7_2129 (rg_lt (nle c_2104) r_v4 (rg_gt (nle c_2104) r_v4 (bx_get hB (r := 1) (a := 1) (b := 1) (k := 1) (l := 0) (h := 6) (by decide) (by decide) (by decide)))) (by decide) (by decide) hm) hmR bσ24_2127
            · refine ok_gd (rg_inb r_v1 (by decide) (by decide)) ?_
              refine ok_nm (fun σ28_2130 hσ28_2130 => ?_)
              have bσ28_2130 : BX m σ28_2130 := by rw [hσ28_2130]; exact bx_far bσ24_2127 (by decide) (by decide) (by decide) (by decide)
              refine ok_nm (fun x29_2131 hx29_2131 => ?_)
              refine ok_gd (rg_inb (rg_eq hx29_2131 (rg_add (l := 1) (h := 6) r_v1 (show rg (1 : Int32) (1) (1) from ⟨by decide, by decide⟩) (by decide) (by decide) (by decide) (by decide))) (by decide) (by decide)) ?_
              refine ok_oc (fun o_2132 => ?_) (fun c31_2133 o_2132 => ?_)
              · exact (lb_xn hQ.1 (rg_w (rg_eq hx29_2131 (rg_add (l := 1) (h := 6) r_v1 (show rg (1 : Int32) (1) (1) from ⟨by decide, by decide⟩) (by decide) (by decide) (by decide) (by decide))) (by decide) (by decide)) o_2132).elim
              · refine ok_gd (lb_x hQ.1 (rg_w (rg_eq hx29_2131 (rg_add (l := 1) (h := 6) r_v1 (show rg (1 : Int32) (1) (1) from ⟨by decide, by decide⟩) (by decide) (by decide) (by decide) (by decide))) (by decide) (by decide)) o_2132) ?_
                refine ok_nm (fun x32_2134 hx32_2134 => ?_)
                refine ok_nm (fun x33_2135 hx33_2135 => ?_)
                refine ok_nm (fun x34_2136 hx34_2136 => ?_)
                refine ok_nm (fun x35_2137 hx35_2137 => ?_)
                refine ok_nm (fun x36_2138 hx36_2138 => ?_)
                refine ok_bn (hR _ _ _ _ (rg_w (rg_eq (hx32_2134.trans hx29_2131.symm) (rg_eq hx29_2131 (rg_add (l := 1) (h := 6) r_v1 (show rg (1 : Int32) (1) (1) from ⟨by decide, by decide⟩) (by decide) (by decide) (by decide) (by decide)))) (by decide) (by decide)) (ms_s hx32_2134 r_v1 (by decide) (by decide) hmR) bσ28_2130) (fun σ37_2139 qσ37_2139 => ?_)
                unfold F_X11_tryOrders_B_132
                refine ok_nm (fun x7_2140 hx7_2140 => ?_)
                exact ih _ _ _ _ _ r_v1 (rg_w (rg_eq hx7_2140 (rg_add (l := 1) (h := 6) (rg_lt (nle c_2104) r_v4 (rg_gt (nle c_2104) r_v4 (bx_get hB (r := 1) (a := 1) (b := 1) (k := 1) (l := 0) (h := 6) (by decide) (by decide) (by decide)))) (show rg (1 : Int32) (1) (1) from ⟨by decide, by decide⟩) (by decide) (by decide) (by decide) (by decide))) (by decide) (by decide)) (ms_s hx7_2140 (rg_lt (nle c_2104) r_v4 (rg_gt (nle c_2104) r_v4 (bx_get hB (r := 1) (a := 1) (b := 1) (k := 1) (l := 0) (h := 6) (by decide) (by decide) (by decide)))) (by decide) (by decide) hm) hmR qσ37_2139
        · unfold F_X11_tryOrders_B_132
          refine ok_nm (fun x7_2141 hx7_2141 => ?_)
          exact ih _ _ _ _ _ r_v1 (rg_w (rg_eq hx7_2141 (rg_add (l := 1) (h := 6) (rg_lt (nle c_2104) r_v4 (rg_gt (nle c_2104) r_v4 (bx_get hB (r := 1) (a := 1) (b := 1) (k := 1) (l := 0) (h := 6) (by decide) (by decide) (by decide)))) (show rg (1 : Int32) (1) (1) from ⟨by decide, by decide⟩) (by decide) (by decide) (by decide) (by decide))) (by decide) (by decide)) (ms_s hx7_2141 (rg_lt (nle c_2104) r_v4 (rg_gt (nle c_2104) r_v4 (bx_get hB (r := 1) (a := 1) (b := 1) (k := 1) (l := 0) (h := 6) (by decide) (by decide) (by decide)))) (by decide) (by decide) hm) hmR hB

set_option maxHeartbeats 4000000 in
set_option maxRecDepth 100000 in
theorem s_X11_tryOrders_B {m : Int} {N : Nat} {K len : Nat → Nat} {R : Int32 → Int32 → Int32 → SG → RG → Option (SG)} {a1 : Int32} {a2 : Int32} {a3 : Int32} {σ : SG} {ρ : RG} {d : Nat} (hR : ∀ (a1 : Int32) (a2 : Int32) (a3 : Int32) (σ : SG), rg a1 (0) (6) → (6 : Int) - a1.toInt < (d : Int) → BX m σ → ok (R a1 a2 a3 σ ρ) (fun q => BX m q)) (hmR : (6 : Int) - a1.toInt < ((d + 1 : Nat) : Int)) (r_a1 : rg a1 (0) (6)) (hB : BX m σ) (hQ : PR N K len ρ) : ok (F_X11_tryOrders_B N K len R a1 a2 a3 σ ρ) (fun q => BX m q) := by
  unfold F_X11_tryOrders_B
  refine ok_if (fun c_2148 => ?_) (fun c_2148 => ?_)
  · exact (s_X11_tryOrders_B_40 hR (rg_lt c_2148 r_a1 (rg_gt c_2148 r_a1 (bx_get hB (r := 1) (a := 1) (b := 1) (k := 1) (l := 0) (h := 6) (by decide) (by decide) (by decide)))) hQ 1024 _ _ _ _ _ (rg_lt c_2148 r_a1 (rg_gt c_2148 r_a1 (bx_get hB (r := 1) (a := 1) (b := 1) (k := 1) (l := 0) (h := 6) (by decide) (by decide) (by decide)))) (rg_w (show rg (0 : Int32) (0) (0) from ⟨by decide, by decide⟩) (by decide) (by decide)) (ms_0 (show rg (0 : Int32) (0) (0) from ⟨by decide, by decide⟩) (by decide)) hmR hB)
  · refine ok_if (fun c_2149 => ?_) (fun c_2149 => ?_)
    · unfold F_X11_tryOrders_B_26
      refine ok_nm (fun σ40_2150 hσ40_2150 => ?_)
      have bσ40_2150 : BX m σ40_2150 := by rw [hσ40_2150]; exact bx_far hB (by decide) (by decide) (by decide) (by decide)
      refine ok_bn (s_X11_keepPath bσ40_2150 hQ) (fun σ41_2151 qσ41_2151 => ?_)
      exact ok_some qσ41_2151
    · refine ok_if (fun c_2152 => ?_) (fun c_2152 => ?_)
      · exact ok_some hB
      · unfold F_X11_tryOrders_B_26
        refine ok_nm (fun σ40_2153 hσ40_2153 => ?_)
        have bσ40_2153 : BX m σ40_2153 := by rw [hσ40_2153]; exact bx_far hB (by decide) (by decide) (by decide) (by decide)
        refine ok_bn (s_X11_keepPath bσ40_2153 hQ) (fun σ41_2154 qσ41_2154 => ?_)
        exact ok_some qσ41_2154

theorem s_X11_tryOrders_R {m : Int} {N : Nat} {K len : Nat → Nat} {ρ : RG} (hQ : PR N K len ρ) : ∀ (d : Nat), ∀ (a1 : Int32) (a2 : Int32) (a3 : Int32) (σ : SG), rg a1 (0) (6) → (6 : Int) - a1.toInt < (d : Int) → BX m σ → ok (F_X11_tryOrders_R N K len d a1 a2 a3 σ ρ) (fun q => BX m q) := by
  intro d
  induction d with
  | zero => intro a1 a2 a3 σ r_a1 hm hB; exact (ms_z r_a1 (by decide) hm).elim
  | succ d ih =>
    intro a1 a2 a3 σ r_a1 hm hB
    exact s_X11_tryOrders_B ih hm r_a1 hB hQ

theorem s_X11_tryOrders {m : Int} {N : Nat} {K len : Nat → Nat} {a1 : Int32} {a2 : Int32} {a3 : Int32} {σ : SG} {ρ : RG} (r_a1 : rg a1 (0) (6)) (hB : BX m σ) (hQ : PR N K len ρ) : ok (F_X11_tryOrders N K len a1 a2 a3 σ ρ) (fun q => BX m q) :=
  s_X11_tryOrders_R hQ 8 _ _ _ _ r_a1 (ms_0 r_a1 (by decide)) hB

set_option maxHeartbeats 4000000 in
set_option maxRecDepth 100000 in
theorem s_X11_order {m : Int} {N : Nat} {K len : Nat → Nat} {a1 : Int32} {σ : SG} {ρ : RG} (hB : BX m σ) (hQ : PR N K len ρ) : ok (F_X11_order N K len a1 σ ρ) (fun q => rg q.1 (-2147483648) (2147483647) ∧ BX m q.2) := by
  unfold F_X11_order
  refine ok_bn (s_X11_isWithin) (fun r1_2166 qr1_2166 => ?_)
  refine ok_if (fun c_2167 => ?_) (fun c_2167 => ?_)
  · exact ok_some ⟨(rg_w (show rg (-1 : Int32) (-1) (-1) from ⟨by decide, by decide⟩) (by decide) (by decide)), hB⟩
  · obtain ⟨w_2168, w_2169⟩ := qr1_2166.2 c_2167
    refine ok_if (fun c_2170 => ?_) (fun c_2170 => ?_)
    · refine ok_bn (s_X11_startSteps hB hQ) (fun σ4_2171 qσ4_2171 => ?_)
      refine ok_bn (s_X11_tryOrders (rg_w (show rg (0 : Int32) (0) (0) from ⟨by decide, by decide⟩) (by decide) (by decide)) qσ4_2171 hQ) (fun σ5_2172 qσ5_2172 => ?_)
      refine ok_if (fun c_2173 => ?_) (fun c_2173 => ?_)
      · exact ok_some ⟨(rg_w (show rg (-5 : Int32) (-5) (-5) from ⟨by decide, by decide⟩) (by decide) (by decide)), qσ5_2172⟩
      · refine ok_if (fun c_2174 => ?_) (fun c_2174 => ?_)
        · refine ok_if (fun c_2175 => ?_) (fun c_2175 => ?_)
          · refine ok_bn (s_X11_valueAt (by decide)) (fun r9_2176 qr9_2176 => ?_)
            exact ok_some ⟨qr9_2176, qσ5_2172⟩
          · exact ok_some ⟨(rg_any _), qσ5_2172⟩
        · exact ok_some ⟨(rg_w (show rg (-5 : Int32) (-5) (-5) from ⟨by decide, by decide⟩) (by decide) (by decide)), qσ5_2172⟩
    · exact ok_some ⟨(rg_w (show rg (-9 : Int32) (-9) (-9) from ⟨by decide, by decide⟩) (by decide) (by decide)), hB⟩

set_option maxHeartbeats 4000000 in
set_option maxRecDepth 100000 in
theorem s_X11_weekRows_B_29 {m : Int} {N : Nat} {K len : Nat → Nat} {R : Int32 → SG → RG → Option (Int32 × SG)} {a1 : Int32} {ρ : RG} {d : Nat} (hR : ∀ (a1 : Int32) (σ : SG), rg a1 (0) (6) → (6 : Int) - a1.toInt < (d : Int) → BX m σ → ok (R a1 σ ρ) (fun q => rg q.1 (-2147483648) (2147483647) ∧ BX m q.2)) (r_a1 : rg a1 (0) (3)) (hQ : PR N K len ρ) : ∀ (n : Nat) (σ : SG) (v1 : Int32) (v2 : Int32) (v3 : Int32), rg v1 (0) (3) → rg v3 (0) (6) → (6 : Int) - v3.toInt < (n : Int) → (6 : Int) - v1.toInt < ((d + 1 : Nat) : Int) → BX m σ → ok (F_X11_weekRows_B_29 N K len R a1 n σ ρ v1 v2 v3) (fun q => rg q.1 (-2147483648) (2147483647) ∧ BX m q.2) := by
  intro n
  induction n with
  | zero => intro σ v1 v2 v3 r_v1 r_v3 hm hmR hB; exact (ms_z r_v3 (by decide) hm).elim
  | succ n ih =>
    intro σ v1 v2 v3 r_v1 r_v3 hm hmR hB
    unfold F_X11_weekRows_B_29
    refine ok_if (fun c_2214 => ?_) (fun c_2214 => ?_)
    · exact ok_some ⟨(rg_any _), hB⟩
    · refine ok_if (fun c_2215 => ?_) (fun c_2215 => ?_)
      · exact ok_some ⟨(rg_any _), hB⟩
      · refine ok_bn (s_X8_cutterAt_1 hB hQ) (fun o4_2216 qo4_2216 => ?_)
        refine ok_oc (fun o_2217 => ?_) (fun c5_2218 o_2217 => ?_)
        · refine ok_bn (s_X11_tryStep_n hB hQ) (fun r6_2219 qr6_2219 => ?_)
          refine ok_if (fun c_2220 => ?_) (fun c_2220 => ?_)
          · unfold F_X11_weekRows_B_108
            refine ok_nm (fun x8_2221 hx8_2221 => ?_)
            exact ih _ _ _ _ r_v1 (rg_w (rg_eq hx8_2221 (rg_add (l := 1) (h := 6) (rg_lt (nle c_2214) r_v3 (rg_gt (nle c_2214) r_v3 (bx_get hB (r := 1) (a := 1) (b := 1) (k := 1) (l := 0) (h := 6) (by decide) (by decide) (by decide)))) (show rg (1 : Int32) (1) (1) from ⟨by decide, by decide⟩) (by decide) (by decide) (by decide) (by decide))) (by decide) (by decide)) (ms_s hx8_2221 (rg_lt (nle c_2214) r_v3 (rg_gt (nle c_2214) r_v3 (bx_get hB (r := 1) (a := 1) (b := 1) (k := 1) (l := 0) (h := 6) (by decide) (by decide) (by decide)))) (by decide) (by decide) hm) hmR hB
          · refine ok_nm (fun x9_2222 hx9_2222 => ?_)
            refine ok_gd (rg_inb (rg_eq hx9_2222 (rg_add (l := 1) (h := 4) r_v1 (show rg (1 : Int32) (1) (1) from ⟨by decide, by decide⟩) (by decide) (by decide) (by decide) (by decide))) (by decide) (by decide)) ?_
            refine ok_oc (fun o_2223 => ?_) (fun c11_2224 o_2223 => ?_)
            · exact (lb_xn hQ.1 (rg_w (rg_eq hx9_2222 (rg_add (l := 1) (h := 4) r_v1 (show rg (1 : Int32) (1) (1) from ⟨by decide, by decide⟩) (by decide) (by decide) (by decide) (by decide))) (by decide) (by decide)) o_2223).elim
            · refine ok_gd (lb_x hQ.1 (rg_w (rg_eq hx9_2222 (rg_add (l := 1) (h := 4) r_v1 (show rg (1 : Int32) (1) (1) from ⟨by decide, by decide⟩) (by decide) (by decide) (by decide) (by decide))) (by decide) (by decide)) o_2223) ?_
              refine ok_bn (s_X11_valueAt (by decide)) (fun r12_2225 qr12_2225 => ?_)
              refine ok_if (fun c_2226 => ?_) (fun c_2226 => ?_)
              · refine ok_gd (rg_inb r_v1 (by decide) (by decide)) ?_
                refine ok_nm (fun σ16_2227 hσ16_2227 => ?_)
                have bσ16_2227 : BX m σ16_2227 := by rw [hσ16_2227]; exact bx_far hB (by decide) (by decide) (by decide) (by decide)
                refine ok_nm (fun x17_2228 hx17_2228 => ?_)
                refine ok_bn2 (hR _ _ (rg_w (rg_eq (hx17_2228.trans hx9_2222.symm) (rg_eq hx9_2222 (rg_add (l := 1) (h := 4) r_v1 (show rg (1 : Int32) (1) (1) from ⟨by decide, by decide⟩) (by decide) (by decide) (by decide) (by decide)))) (by decide) (by decide)) (ms_s hx17_2228 r_v1 (by decide) (by decide) hmR) bσ16_2227) (fun r18_2229 σ18_2230 qr18_2229 => ?_)
                obtain ⟨hr18_2229, bσ18_2230⟩ := qr18_2229
                refine ok_nm (fun x19_2231 hx19_2231 => ?_)
                unfold F_X11_weekRows_B_108
                refine ok_nm (fun x8_2232 hx8_2232 => ?_)
                exact ih _ _ _ _ r_v1 (rg_w (rg_eq hx8_2232 (rg_add (l := 1) (h := 6) (rg_lt (nle c_2214) r_v3 (rg_gt (nle c_2214) r_v3 (bx_get hB (r := 1) (a := 1) (b := 1) (k := 1) (l := 0) (h := 6) (by decide) (by decide) (by decide)))) (show rg (1 : Int32) (1) (1) from ⟨by decide, by decide⟩) (by decide) (by decide) (by decide) (by decide))) (by decide) (by decide)) (ms_s hx8_2232 (rg_lt (nle c_2214) r_v3 (rg_gt (nle c_2214) r_v3 (bx_get hB (r := 1) (a := 1) (b := 1) (k := 1) (l := 0) (h := 6) (by decide) (by decide) (by decide)))) (by decide) (by decide) hm) hmR bσ18_2230
              · unfold F_X11_weekRows_B_108
                refine ok_nm (fun x8_2233 hx8_2233 => ?_)
                exact ih _ _ _ _ r_v1 (rg_w (rg_eq hx8_2233 (rg_add (l := 1) (h := 6) (rg_lt (nle c_2214) r_v3 (rg_gt (nle c_2214) r_v3 (bx_get hB (r := 1) (a := 1) (b := 1) (k := 1) (l := 0) (h := 6) (by decide) (by decide) (by decide)))) (show rg (1 : Int32) (1) (1) from ⟨by decide, by decide⟩) (by decide) (by decide) (by decide) (by decide))) (by decide) (by decide)) (ms_s hx8_2233 (rg_lt (nle c_2214) r_v3 (rg_gt (nle c_2214) r_v3 (bx_get hB (r := 1) (a := 1) (b := 1) (k := 1) (l := 0) (h := 6) (by decide) (by decide) (by decide)))) (by decide) (by decide) hm) hmR hB
        · refine ok_gd (qo4_2216 _ o_2217).1 ?_
          refine ok_bn2 (s_X11_tryStep (rg_w r_v1 (by decide) (by decide)) (qo4_2216 _ o_2217) hB hQ) (fun r20_2234 σ20_2235 qr20_2234 => ?_)
          obtain ⟨hr20_2234, bσ20_2235⟩ := qr20_2234
          refine ok_if (fun c_2236 => ?_) (fun c_2236 => ?_)
          · unfold F_X11_weekRows_B_108
            refine ok_nm (fun x8_2237 hx8_2237 => ?_)
            exact ih _ _ _ _ r_v1 (rg_w (rg_eq hx8_2237 (rg_add (l := 1) (h := 6) (rg_lt (nle c_2214) r_v3 (rg_gt (nle c_2214) r_v3 (bx_get hB (r := 1) (a := 1) (b := 1) (k := 1) (l := 0) (h := 6) (by decide) (by decide) (by decide)))) (show rg (1 : Int32) (1) (1) from ⟨by decide, by decide⟩) (by decide) (by decide) (by decide) (by decide))) (by decide) (by decide)) (ms_s hx8_2237 (rg_lt (nle c_2214) r_v3 (rg_gt (nle c_2214) r_v3 (bx_get hB (r := 1) (a := 1) (b := 1) (k := 1) (l := 0) (h := 6) (by decide) (by decide) (by decide)))) (by decide) (by decide) hm) hmR bσ20_2235
          · refine ok_nm (fun x22_2238 hx22_2238 => ?_)
            refine ok_gd (rg_inb (rg_eq hx22_2238 (rg_add (l := 1) (h := 4) r_v1 (show rg (1 : Int32) (1) (1) from ⟨by decide, by decide⟩) (by decide) (by decide) (by decide) (by decide))) (by decide) (by decide)) ?_
            refine ok_oc (fun o_2239 => ?_) (fun c24_2240 o_2239 => ?_)
            · exact (lb_xn hQ.1 (rg_w (rg_eq hx22_2238 (rg_add (l := 1) (h := 4) r_v1 (show rg (1 : Int32) (1) (1) from ⟨by decide, by decide⟩) (by decide) (by decide) (by decide) (by decide))) (by decide) (by decide)) o_2239).elim
            · refine ok_gd (lb_x hQ.1 (rg_w (rg_eq hx22_2238 (rg_add (l := 1) (h := 4) r_v1 (show rg (1 : Int32) (1) (1) from ⟨by decide, by decide⟩) (by decide) (by decide) (by decide) (by decide))) (by decide) (by decide)) o_2239) ?_
              refine ok_bn (s_X11_valueAt (by decide)) (fun r25_2241 qr25_2241 => ?_)
              refine ok_if (fun c_2242 => ?_) (fun c_2242 => ?_)
              · refine ok_gd (rg_inb r_v1 (by decide) (by decide)) ?_
                refine ok_nm (fun σ29_2243 hσ29_2243 => ?_)
                have bσ29_2243 : BX m σ29_2243 := by rw [hσ29_2243]; exact bx_far bσ20_2235 (by decide) (by decide) (by decide) (by decide)
                refine ok_nm (fun x30_2244 hx30_2244 => ?_)
                refine ok_bn2 (hR _ _ (rg_w (rg_eq (hx30_2244.trans hx22_2238.symm) (rg_eq hx22_2238 (rg_add (l := 1) (h := 4) r_v1 (show rg (1 : Int32) (1) (1) from ⟨by decide, by decide⟩) (by decide) (by decide) (by decide) (by decide)))) (by decide) (by decide)) (ms_s hx30_2244 r_v1 (by decide) (by decide) hmR) bσ29_2243) (fun r31_2245 σ31_2246 qr31_2245 => ?_)
                obtain ⟨hr31_2245, bσ31_2246⟩ := qr31_2245
                refine ok_nm (fun x32_2247 hx32_2247 => ?_)
                unfold F_X11_weekRows_B_108
                refine ok_nm (fun x8_2248 hx8_2248 => ?_)
                exact ih _ _ _ _ r_v1 (rg_w (rg_eq hx8_2248 (rg_add (l := 1) (h := 6) (rg_lt (nle c_2214) r_v3 (rg_gt (nle c_2214) r_v3 (bx_get hB (r := 1) (a := 1) (b := 1) (k := 1) (l := 0) (h := 6) (by decide) (by decide) (by decide)))) (show rg (1 : Int32) (1) (1) from ⟨by decide, by decide⟩) (by decide) (by decide) (by decide) (by decide))) (by decide) (by decide)) (ms_s hx8_2248 (rg_lt (nle c_2214) r_v3 (rg_gt (nle c_2214) r_v3 (bx_get hB (r := 1) (a := 1) (b := 1) (k := 1) (l := 0) (h := 6) (by decide) (by decide) (by decide)))) (by decide) (by decide) hm) hmR bσ31_2246
              · unfold F_X11_weekRows_B_108
                refine ok_nm (fun x8_2249 hx8_2249 => ?_)
                exact ih _ _ _ _ r_v1 (rg_w (rg_eq hx8_2249 (rg_add (l := 1) (h := 6) (rg_lt (nle c_2214) r_v3 (rg_gt (nle c_2214) r_v3 (bx_get hB (r := 1) (a := 1) (b := 1) (k := 1) (l := 0) (h := 6) (by decide) (by decide) (by decide)))) (show rg (1 : Int32) (1) (1) from ⟨by decide, by decide⟩) (by decide) (by decide) (by decide) (by decide))) (by decide) (by decide)) (ms_s hx8_2249 (rg_lt (nle c_2214) r_v3 (rg_gt (nle c_2214) r_v3 (bx_get hB (r := 1) (a := 1) (b := 1) (k := 1) (l := 0) (h := 6) (by decide) (by decide) (by decide)))) (by decide) (by decide) hm) hmR bσ20_2235

set_option maxHeartbeats 4000000 in
set_option maxRecDepth 100000 in
theorem s_X11_weekRows_B {m : Int} {N : Nat} {K len : Nat → Nat} {R : Int32 → SG → RG → Option (Int32 × SG)} {a1 : Int32} {σ : SG} {ρ : RG} {d : Nat} (hR : ∀ (a1 : Int32) (σ : SG), rg a1 (0) (6) → (6 : Int) - a1.toInt < (d : Int) → BX m σ → ok (R a1 σ ρ) (fun q => rg q.1 (-2147483648) (2147483647) ∧ BX m q.2)) (hmR : (6 : Int) - a1.toInt < ((d + 1 : Nat) : Int)) (r_a1 : rg a1 (0) (6)) (hB : BX m σ) (hQ : PR N K len ρ) : ok (F_X11_weekRows_B N K len R a1 σ ρ) (fun q => rg q.1 (-2147483648) (2147483647) ∧ BX m q.2) := by
  unfold F_X11_weekRows_B
  refine ok_if (fun c_2252 => ?_) (fun c_2252 => ?_)
  · exact (s_X11_weekRows_B_29 hR (rg_lt c_2252 r_a1 (rg_gt c_2252 r_a1 (bx_get hB (r := 1) (a := 10) (b := 10) (k := 10) (l := 0) (h := 4) (by decide) (by decide) (by decide)))) hQ 1024 _ _ _ _ (rg_lt c_2252 r_a1 (rg_gt c_2252 r_a1 (bx_get hB (r := 1) (a := 10) (b := 10) (k := 10) (l := 0) (h := 4) (by decide) (by decide) (by decide)))) (rg_w (show rg (0 : Int32) (0) (0) from ⟨by decide, by decide⟩) (by decide) (by decide)) (ms_0 (show rg (0 : Int32) (0) (0) from ⟨by decide, by decide⟩) (by decide)) hmR hB)
  · refine ok_if (fun c_2253 => ?_) (fun c_2253 => ?_)
    · refine ok_bn (s_X11_keepPath hB hQ) (fun σ34_2254 qσ34_2254 => ?_)
      exact ok_some ⟨(rg_w (show rg (1 : Int32) (1) (1) from ⟨by decide, by decide⟩) (by decide) (by decide)), qσ34_2254⟩
    · exact ok_some ⟨(rg_w (show rg (1 : Int32) (1) (1) from ⟨by decide, by decide⟩) (by decide) (by decide)), hB⟩

theorem s_X11_weekRows_R {m : Int} {N : Nat} {K len : Nat → Nat} {ρ : RG} (hQ : PR N K len ρ) : ∀ (d : Nat), ∀ (a1 : Int32) (σ : SG), rg a1 (0) (6) → (6 : Int) - a1.toInt < (d : Int) → BX m σ → ok (F_X11_weekRows_R N K len d a1 σ ρ) (fun q => rg q.1 (-2147483648) (2147483647) ∧ BX m q.2) := by
  intro d
  induction d with
  | zero => intro a1 σ r_a1 hm hB; exact (ms_z r_a1 (by decide) hm).elim
  | succ d ih =>
    intro a1 σ r_a1 hm hB
    exact s_X11_weekRows_B ih hm r_a1 hB hQ

theorem s_X11_weekRows {m : Int} {N : Nat} {K len : Nat → Nat} {a1 : Int32} {σ : SG} {ρ : RG} (r_a1 : rg a1 (0) (6)) (hB : BX m σ) (hQ : PR N K len ρ) : ok (F_X11_weekRows N K len a1 σ ρ) (fun q => rg q.1 (-2147483648) (2147483647) ∧ BX m q.2) :=
  s_X11_weekRows_R hQ 8 _ _ r_a1 (ms_0 r_a1 (by decide)) hB

set_option maxHeartbeats 4000000 in
set_option maxRecDepth 100000 in
theorem s_X11_rows {m : Int} {N : Nat} {K len : Nat → Nat} {a1 : Int32} {σ : SG} {ρ : RG} (hB : BX m σ) (hQ : PR N K len ρ) : ok (F_X11_rows N K len a1 σ ρ) (fun q => rg q.1 (-2147483648) (2147483647) ∧ BX m q.2) := by
  unfold F_X11_rows
  refine ok_bn (s_X11_isWithin) (fun r1_2266 qr1_2266 => ?_)
  refine ok_if (fun c_2267 => ?_) (fun c_2267 => ?_)
  · exact ok_some ⟨(rg_w (show rg (-1 : Int32) (-1) (-1) from ⟨by decide, by decide⟩) (by decide) (by decide)), hB⟩
  · obtain ⟨w_2268, w_2269⟩ := qr1_2266.2 c_2267
    refine ok_bn (s_X11_startSteps hB hQ) (fun σ3_2270 qσ3_2270 => ?_)
    refine ok_bn2 (s_X11_weekRows (rg_w (show rg (0 : Int32) (0) (0) from ⟨by decide, by decide⟩) (by decide) (by decide)) qσ3_2270 hQ) (fun r4_2271 σ4_2272 qr4_2271 => ?_)
    obtain ⟨hr4_2271, bσ4_2272⟩ := qr4_2271
    refine ok_if (fun c_2273 => ?_) (fun c_2273 => ?_)
    · refine ok_if (fun c_2274 => ?_) (fun c_2274 => ?_)
      · exact ok_some ⟨(rg_w (show rg (-5 : Int32) (-5) (-5) from ⟨by decide, by decide⟩) (by decide) (by decide)), bσ4_2272⟩
      · refine ok_if (fun c_2275 => ?_) (fun c_2275 => ?_)
        · exact ok_some ⟨(rg_w (show rg (-5 : Int32) (-5) (-5) from ⟨by decide, by decide⟩) (by decide) (by decide)), bσ4_2272⟩
        · refine ok_bn (s_X11_valueAt (by decide)) (fun r8_2276 qr8_2276 => ?_)
          exact ok_some ⟨qr8_2276, bσ4_2272⟩
    · exact ok_some ⟨hr4_2271, bσ4_2272⟩

set_option maxHeartbeats 4000000 in
set_option maxRecDepth 100000 in
theorem s_X11_goodRows_B_12 {m : Int} {N : Nat} {K len : Nat → Nat} {R : Int32 → Int32 → SG → RG → Option (Int64 × SG)} {a1 : Int32} {a2 : Int32} {ρ : RG} {d : Nat} (hR : ∀ (a1 : Int32) (a2 : Int32) (σ : SG), rg a1 (0) (3) → rg a2 (0) (3) → (3 : Int) - a1.toInt < (d : Int) → BX m σ → ok (R a1 a2 σ ρ) (fun q => BX m q.2)) (r_a1 : rg a1 (0) (2)) (r_a2 : rg a2 (1) (3)) (hQ : PR N K len ρ) : ∀ (n : Nat) (σ : SG) (v1 : Int32) (v2 : Int32) (v3 : Int64) (v5 : Int32), rg v1 (0) (2) → rg v2 (1) (3) → rg v5 (0) (6) → (6 : Int) - v5.toInt < (n : Int) → (3 : Int) - v1.toInt < ((d + 1 : Nat) : Int) → BX m σ → ok (F_X11_goodRows_B_12 N K len R a1 a2 n σ ρ v1 v2 v3 v5) (fun q => BX m q.2) := by
  intro n
  induction n with
  | zero => intro σ v1 v2 v3 v5 r_v1 r_v2 r_v5 hm hmR hB; exact (ms_z r_v5 (by decide) hm).elim
  | succ n ih =>
    intro σ v1 v2 v3 v5 r_v1 r_v2 r_v5 hm hmR hB
    unfold F_X11_goodRows_B_12
    refine ok_if (fun c_2309 => ?_) (fun c_2309 => ?_)
    · exact ok_some hB
    · refine ok_bn (s_X8_cutterAt_1 hB hQ) (fun o3_2310 qo3_2310 => ?_)
      refine ok_oc (fun o_2311 => ?_) (fun c4_2312 o_2311 => ?_)
      · refine ok_bn (s_X11_tryStep_n hB hQ) (fun r5_2313 qr5_2313 => ?_)
        refine ok_if (fun c_2314 => ?_) (fun c_2314 => ?_)
        · unfold F_X11_goodRows_B_77
          refine ok_nm (fun x7_2315 hx7_2315 => ?_)
          exact ih _ _ _ _ _ r_v1 r_v2 (rg_w (rg_eq hx7_2315 (rg_add (l := 1) (h := 6) (rg_lt (nle c_2309) r_v5 (rg_gt (nle c_2309) r_v5 (bx_get hB (r := 1) (a := 1) (b := 1) (k := 1) (l := 0) (h := 6) (by decide) (by decide) (by decide)))) (show rg (1 : Int32) (1) (1) from ⟨by decide, by decide⟩) (by decide) (by decide) (by decide) (by decide))) (by decide) (by decide)) (ms_s hx7_2315 (rg_lt (nle c_2309) r_v5 (rg_gt (nle c_2309) r_v5 (bx_get hB (r := 1) (a := 1) (b := 1) (k := 1) (l := 0) (h := 6) (by decide) (by decide) (by decide)))) (by decide) (by decide) hm) hmR hB
        · refine ok_nm (fun x8_2316 hx8_2316 => ?_)
          refine ok_gd (rg_inb (rg_eq hx8_2316 (rg_add (l := 1) (h := 3) r_v1 (show rg (1 : Int32) (1) (1) from ⟨by decide, by decide⟩) (by decide) (by decide) (by decide) (by decide))) (by decide) (by decide)) ?_
          refine ok_oc (fun o_2317 => ?_) (fun c10_2318 o_2317 => ?_)
          · exact (lb_xn hQ.1 (rg_w (rg_eq hx8_2316 (rg_add (l := 1) (h := 3) r_v1 (show rg (1 : Int32) (1) (1) from ⟨by decide, by decide⟩) (by decide) (by decide) (by decide) (by decide))) (by decide) (by decide)) o_2317).elim
          · refine ok_gd (lb_x hQ.1 (rg_w (rg_eq hx8_2316 (rg_add (l := 1) (h := 3) r_v1 (show rg (1 : Int32) (1) (1) from ⟨by decide, by decide⟩) (by decide) (by decide) (by decide) (by decide))) (by decide) (by decide)) o_2317) ?_
            refine ok_if (fun c_2319 => ?_) (fun c_2319 => ?_)
            · unfold F_X11_goodRows_B_77
              refine ok_nm (fun x7_2320 hx7_2320 => ?_)
              exact ih _ _ _ _ _ r_v1 r_v2 (rg_w (rg_eq hx7_2320 (rg_add (l := 1) (h := 6) (rg_lt (nle c_2309) r_v5 (rg_gt (nle c_2309) r_v5 (bx_get hB (r := 1) (a := 1) (b := 1) (k := 1) (l := 0) (h := 6) (by decide) (by decide) (by decide)))) (show rg (1 : Int32) (1) (1) from ⟨by decide, by decide⟩) (by decide) (by decide) (by decide) (by decide))) (by decide) (by decide)) (ms_s hx7_2320 (rg_lt (nle c_2309) r_v5 (rg_gt (nle c_2309) r_v5 (bx_get hB (r := 1) (a := 1) (b := 1) (k := 1) (l := 0) (h := 6) (by decide) (by decide) (by decide)))) (by decide) (by decide) hm) hmR hB
            · refine ok_nm (fun x12_2321 hx12_2321 => ?_)
              refine ok_bn2 (hR _ _ _ (rg_w (rg_eq (hx12_2321.trans hx8_2316.symm) (rg_eq hx8_2316 (rg_add (l := 1) (h := 3) r_v1 (show rg (1 : Int32) (1) (1) from ⟨by decide, by decide⟩) (by decide) (by decide) (by decide) (by decide)))) (by decide) (by decide)) (rg_w r_v2 (by decide) (by decide)) (ms_s hx12_2321 r_v1 (by decide) (by decide) hmR) hB) (fun r13_2322 σ13_2323 qr13_2322 => ?_)
              refine ok_nm (fun x14_2324 hx14_2324 => ?_)
              unfold F_X11_goodRows_B_77
              refine ok_nm (fun x7_2325 hx7_2325 => ?_)
              exact ih _ _ _ _ _ r_v1 r_v2 (rg_w (rg_eq hx7_2325 (rg_add (l := 1) (h := 6) (rg_lt (nle c_2309) r_v5 (rg_gt (nle c_2309) r_v5 (bx_get hB (r := 1) (a := 1) (b := 1) (k := 1) (l := 0) (h := 6) (by decide) (by decide) (by decide)))) (show rg (1 : Int32) (1) (1) from ⟨by decide, by decide⟩) (by decide) (by decide) (by decide) (by decide))) (by decide) (by decide)) (ms_s hx7_2325 (rg_lt (nle c_2309) r_v5 (rg_gt (nle c_2309) r_v5 (bx_get hB (r := 1) (a := 1) (b := 1) (k := 1) (l := 0) (h := 6) (by decide) (by decide) (by decide)))) (by decide) (by decide) hm) hmR qr13_2322
      · refine ok_gd (qo3_2310 _ o_2311).1 ?_
        refine ok_bn2 (s_X11_tryStep (rg_w r_v1 (by decide) (by decide)) (qo3_2310 _ o_2311) hB hQ) (fun r15_2326 σ15_2327 qr15_2326 => ?_)
        obtain ⟨hr15_2326, bσ15_2327⟩ := qr15_2326
        refine ok_if (fun c_2328 => ?_) (fun c_2328 => ?_)
        · unfold F_X11_goodRows_B_77
          refine ok_nm (fun x7_2329 hx7_2329 => ?_)
          exact ih _ _ _ _ _ r_v1 r_v2 (rg_w (rg_eq hx7_2329 (rg_add (l := 1) (h := 6) (rg_lt (nle c_2309) r_v5 (rg_gt (nle c_2309) r_v5 (bx_get hB (r := 1) (a := 1) (b := 1) (k := 1) (l := 0) (h := 6) (by decide) (by decide) (by decide)))) (show rg (1 : Int32) (1) (1) from ⟨by decide, by decide⟩) (by decide) (by decide) (by decide) (by decide))) (by decide) (by decide)) (ms_s hx7_2329 (rg_lt (nle c_2309) r_v5 (rg_gt (nle c_2309) r_v5 (bx_get hB (r := 1) (a := 1) (b := 1) (k := 1) (l := 0) (h := 6) (by decide) (by decide) (by decide)))) (by decide) (by decide) hm) hmR bσ15_2327
        · refine ok_nm (fun x17_2330 hx17_2330 => ?_)
          refine ok_gd (rg_inb (rg_eq hx17_2330 (rg_add (l := 1) (h := 3) r_v1 (show rg (1 : Int32) (1) (1) from ⟨by decide, by decide⟩) (by decide) (by decide) (by decide) (by decide))) (by decide) (by decide)) ?_
          refine ok_oc (fun o_2331 => ?_) (fun c19_2332 o_2331 => ?_)
          · exact (lb_xn hQ.1 (rg_w (rg_eq hx17_2330 (rg_add (l := 1) (h := 3) r_v1 (show rg (1 : Int32) (1) (1) from ⟨by decide, by decide⟩) (by decide) (by decide) (by decide) (by decide))) (by decide) (by decide)) o_2331).elim
          · refine ok_gd (lb_x hQ.1 (rg_w (rg_eq hx17_2330 (rg_add (l := 1) (h := 3) r_v1 (show rg (1 : Int32) (1) (1) from ⟨by decide, by decide⟩) (by decide) (by decide) (by decide) (by decide))) (by decide) (by decide)) o_2331) ?_
            refine ok_if (fun c_2333 => ?_) (fun c_2333 => ?_)
            · unfold F_X11_goodRows_B_77
              refine ok_nm (fun x7_2334 hx7_2334 => ?_)
              exact ih _ _ _ _ _ r_v1 r_v2 (rg_w (rg_eq hx7_2334 (rg_add (l := 1) (h := 6) (rg_lt (nle c_2309) r_v5 (rg_gt (nle c_2309) r_v5 (bx_get hB (r := 1) (a := 1) (b := 1) (k := 1) (l := 0) (h := 6) (by decide) (by decide) (by decide)))) (show rg (1 : Int32) (1) (1) from ⟨by decide, by decide⟩) (by decide) (by decide) (by decide) (by decide))) (by decide) (by decide)) (ms_s hx7_2334 (rg_lt (nle c_2309) r_v5 (rg_gt (nle c_2309) r_v5 (bx_get hB (r := 1) (a := 1) (b := 1) (k := 1) (l := 0) (h := 6) (by decide) (by decide) (by decide)))) (by decide) (by decide) hm) hmR bσ15_2327
            · refine ok_nm (fun x21_2335 hx21_2335 => ?_)
              refine ok_bn2 (hR _ _ _ (rg_w (rg_eq (hx21_2335.trans hx17_2330.symm) (rg_eq hx17_2330 (rg_add (l := 1) (h := 3) r_v1 (show rg (1 : Int32) (1) (1) from ⟨by decide, by decide⟩) (by decide) (by decide) (by decide) (by decide)))) (by decide) (by decide)) (rg_w r_v2 (by decide) (by decide)) (ms_s hx21_2335 r_v1 (by decide) (by decide) hmR) bσ15_2327) (fun r22_2336 σ22_2337 qr22_2336 => ?_)
              refine ok_nm (fun x23_2338 hx23_2338 => ?_)
              unfold F_X11_goodRows_B_77
              refine ok_nm (fun x7_2339 hx7_2339 => ?_)
              exact ih _ _ _ _ _ r_v1 r_v2 (rg_w (rg_eq hx7_2339 (rg_add (l := 1) (h := 6) (rg_lt (nle c_2309) r_v5 (rg_gt (nle c_2309) r_v5 (bx_get hB (r := 1) (a := 1) (b := 1) (k := 1) (l := 0) (h := 6) (by decide) (by decide) (by decide)))) (show rg (1 : Int32) (1) (1) from ⟨by decide, by decide⟩) (by decide) (by decide) (by decide) (by decide))) (by decide) (by decide)) (ms_s hx7_2339 (rg_lt (nle c_2309) r_v5 (rg_gt (nle c_2309) r_v5 (bx_get hB (r := 1) (a := 1) (b := 1) (k := 1) (l := 0) (h := 6) (by decide) (by decide) (by decide)))) (by decide) (by decide) hm) hmR qr22_2336

set_option maxHeartbeats 4000000 in
set_option maxRecDepth 100000 in
theorem s_X11_goodRows_B {m : Int} {N : Nat} {K len : Nat → Nat} {R : Int32 → Int32 → SG → RG → Option (Int64 × SG)} {a1 : Int32} {a2 : Int32} {σ : SG} {ρ : RG} {d : Nat} (hR : ∀ (a1 : Int32) (a2 : Int32) (σ : SG), rg a1 (0) (3) → rg a2 (0) (3) → (3 : Int) - a1.toInt < (d : Int) → BX m σ → ok (R a1 a2 σ ρ) (fun q => BX m q.2)) (hmR : (3 : Int) - a1.toInt < ((d + 1 : Nat) : Int)) (r_a1 : rg a1 (0) (3)) (r_a2 : rg a2 (0) (3)) (hB : BX m σ) (hQ : PR N K len ρ) : ok (F_X11_goodRows_B N K len R a1 a2 σ ρ) (fun q => BX m q.2) := by
  unfold F_X11_goodRows_B
  refine ok_if (fun c_2340 => ?_) (fun c_2340 => ?_)
  · exact (s_X11_goodRows_B_12 hR (rg_lt c_2340 r_a1 (rg_gt c_2340 r_a1 r_a2)) (rg_gt c_2340 (rg_lt c_2340 r_a1 r_a2) r_a2) hQ 1024 _ _ _ _ _ (rg_lt c_2340 r_a1 (rg_gt c_2340 r_a1 r_a2)) (rg_gt c_2340 (rg_lt c_2340 r_a1 r_a2) r_a2) (rg_w (show rg (0 : Int32) (0) (0) from ⟨by decide, by decide⟩) (by decide) (by decide)) (ms_0 (show rg (0 : Int32) (0) (0) from ⟨by decide, by decide⟩) (by decide)) hmR hB)
  · exact ok_some hB

theorem s_X11_goodRows_R {m : Int} {N : Nat} {K len : Nat → Nat} {ρ : RG} (hQ : PR N K len ρ) : ∀ (d : Nat), ∀ (a1 : Int32) (a2 : Int32) (σ : SG), rg a1 (0) (3) → rg a2 (0) (3) → (3 : Int) - a1.toInt < (d : Int) → BX m σ → ok (F_X11_goodRows_R N K len d a1 a2 σ ρ) (fun q => BX m q.2) := by
  intro d
  induction d with
  | zero => intro a1 a2 σ r_a1 r_a2 hm hB; exact (ms_z r_a1 (by decide) hm).elim
  | succ d ih =>
    intro a1 a2 σ r_a1 r_a2 hm hB
    exact s_X11_goodRows_B ih hm r_a1 r_a2 hB hQ

theorem s_X11_goodRows {m : Int} {N : Nat} {K len : Nat → Nat} {a1 : Int32} {a2 : Int32} {σ : SG} {ρ : RG} (r_a1 : rg a1 (0) (3)) (r_a2 : rg a2 (0) (3)) (hB : BX m σ) (hQ : PR N K len ρ) : ok (F_X11_goodRows N K len a1 a2 σ ρ) (fun q => BX m q.2) :=
  s_X11_goodRows_R hQ 6 _ _ _ r_a1 r_a2 (ms_0 r_a1 (by decide)) hB

set_option maxHeartbeats 4000000 in
set_option maxRecDepth 100000 in
theorem s_X11_odds_37 {m : Int} {N : Nat} {K len : Nat → Nat} {a1 : Int32} {a2 : Int32} {ρ : RG} (r_a1 : rg a1 (1) (3)) (r_a2 : rg a2 (0) (1)) (hQ : PR N K len ρ) : ∀ (n : Nat) (σ : SG) (v1 : Int32) (v2 : Int32) (v3 : Int64) (v5 : Int32), rg v1 (1) (3) → rg v2 (0) (1) → rg v5 (0) (3) → (3 : Int) - v5.toInt < (n : Int) → BX m σ → ok (F_X11_odds_37 N K len a1 a2 n σ ρ v1 v2 v3 v5) (fun q => BX m q.2) := by
  intro n
  induction n with
  | zero => intro σ v1 v2 v3 v5 r_v1 r_v2 r_v5 hm hB; exact (ms_z r_v5 (by decide) hm).elim
  | succ n ih =>
    intro σ v1 v2 v3 v5 r_v1 r_v2 r_v5 hm hB
    unfold F_X11_odds_37
    refine ok_if (fun c_2357 => ?_) (fun c_2357 => ?_)
    · refine ok_bn (s_X11_startSteps hB hQ) (fun σ7_2358 qσ7_2358 => ?_)
      refine ok_bn2 (s_X11_goodRows (rg_w (show rg (0 : Int32) (0) (0) from ⟨by decide, by decide⟩) (by decide) (by decide)) (rg_w r_v1 (by decide) (by decide)) qσ7_2358 hQ) (fun r8_2359 σ8_2360 qr8_2359 => ?_)
      refine ok_bn (s_X11_partOf qr8_2359 hQ) (fun r9_2361 qr9_2361 => ?_)
      exact ok_some qr8_2359
    · refine ok_nm (fun x10_2362 hx10_2362 => ?_)
      refine ok_nm (fun x11_2363 hx11_2363 => ?_)
      exact ih _ _ _ _ _ r_v1 r_v2 (rg_w (rg_eq hx11_2363 (rg_add (l := 1) (h := 3) (rg_lt (nle c_2357) r_v5 r_v1) (show rg (1 : Int32) (1) (1) from ⟨by decide, by decide⟩) (by decide) (by decide) (by decide) (by decide))) (by decide) (by decide)) (ms_s hx11_2363 (rg_lt (nle c_2357) r_v5 r_v1) (by decide) (by decide) hm) hB

set_option maxHeartbeats 4000000 in
set_option maxRecDepth 100000 in
theorem s_X11_odds {m : Int} {N : Nat} {K len : Nat → Nat} {a1 : Int32} {a2 : Int32} {σ : SG} {ρ : RG} (hB : BX m σ) (hQ : PR N K len ρ) : ok (F_X11_odds N K len a1 a2 σ ρ) (fun q => BX m q.2) := by
  unfold F_X11_odds
  refine ok_bn (s_X11_isWithin) (fun r1_2364 qr1_2364 => ?_)
  refine ok_if (fun c_2365 => ?_) (fun c_2365 => ?_)
  · exact ok_some hB
  · obtain ⟨w_2366, w_2367⟩ := qr1_2364.2 c_2365
    refine ok_bn (s_X11_isWithin) (fun r3_2368 qr3_2368 => ?_)
    refine ok_if (fun c_2369 => ?_) (fun c_2369 => ?_)
    · exact ok_some hB
    · obtain ⟨w_2370, w_2371⟩ := qr3_2368.2 c_2369
      refine ok_if (fun c_2372 => ?_) (fun c_2372 => ?_)
      · exact ok_some hB
      · exact (s_X11_odds_37 (rg_le w_2367 (rg_ge w_2366 (show rg (1 : Int32) (1) (1) from ⟨by decide, by decide⟩) (rg_any _)) (show rg (3 : Int32) (3) (3) from ⟨by decide, by decide⟩)) (rg_le w_2371 (rg_ge w_2370 (show rg (0 : Int32) (0) (0) from ⟨by decide, by decide⟩) (rg_any _)) (show rg (1 : Int32) (1) (1) from ⟨by decide, by decide⟩)) hQ 1024 _ _ _ _ _ (rg_le w_2367 (rg_ge w_2366 (show rg (1 : Int32) (1) (1) from ⟨by decide, by decide⟩) (rg_any _)) (show rg (3 : Int32) (3) (3) from ⟨by decide, by decide⟩)) (rg_le w_2371 (rg_ge w_2370 (show rg (0 : Int32) (0) (0) from ⟨by decide, by decide⟩) (rg_any _)) (show rg (1 : Int32) (1) (1) from ⟨by decide, by decide⟩)) (rg_w (show rg (0 : Int32) (0) (0) from ⟨by decide, by decide⟩) (by decide) (by decide)) (ms_0 (show rg (0 : Int32) (0) (0) from ⟨by decide, by decide⟩) (by decide)) hB)

set_option maxHeartbeats 4000000 in
set_option maxRecDepth 100000 in
theorem s_X11_bestOf_B_28 {m : Int} {N : Nat} {K len : Nat → Nat} {R : Nat → Nat → Int32 → Int32 → SG → RG → Option (Int32 × SG)} {z : Nat} {z2 : Nat} {a3 : Int32} {a4 : Int32} {ρ : RG} {d : Nat} (hR : ∀ (z : Nat) (z2 : Nat) (a3 : Int32) (a4 : Int32) (σ : SG), rg a3 (0) (6) → CK N K len ρ z → CK N K len ρ z2 → (6 : Int) - a3.toInt < (d : Int) → BX m σ → ok (R z z2 a3 a4 σ ρ) (fun q => rg q.1 (-2147483648) (2147483647) ∧ BX m q.2)) (k_z : CK N K len ρ z) (k_z2 : CK N K len ρ z2) (r_a3 : rg a3 (0) (5)) (r_a4 : rg a4 (1) (2147483647)) (hQ : PR N K len ρ) : ∀ (n : Nat) (σ : SG) (r1 : Nat) (r2 : Nat) (v3 : Int32) (v4 : Int32) (v5 : Int32) (v6 : Int32) (v7 : Int32), CK N K len ρ r1 → CK N K len ρ r2 → rg v3 (0) (5) → rg v4 (1) (2147483647) → rg v7 (0) (3) → (3 : Int) - v7.toInt < (n : Int) → (6 : Int) - v3.toInt < ((d + 1 : Nat) : Int) → BX m σ → ok (F_X11_bestOf_B_28 N K len R z z2 a3 a4 n σ ρ r1 r2 v3 v4 v5 v6 v7) (fun q => rg q.1 (-2147483648) (2147483647) ∧ BX m q.2) := by
  intro n
  induction n with
  | zero => intro σ r1 r2 v3 v4 v5 v6 v7 k_r1 k_r2 r_v3 r_v4 r_v7 hm hmR hB; exact (ms_z r_v7 (by decide) hm).elim
  | succ n ih =>
    intro σ r1 r2 v3 v4 v5 v6 v7 k_r1 k_r2 r_v3 r_v4 r_v7 hm hmR hB
    unfold F_X11_bestOf_B_28
    refine ok_gd k_r1.1 ?_
    refine ok_gd k_r2.1 ?_
    refine ok_if (fun c_2411 => ?_) (fun c_2411 => ?_)
    · refine ok_if (fun c_2412 => ?_) (fun c_2412 => ?_)
      · refine ok_nm (fun x9_2413 hx9_2413 => ?_)
        refine ok_gd (rg_inb (rg_eq hx9_2413 (rg_add (l := 1) (h := 6) r_v3 (show rg (1 : Int32) (1) (1) from ⟨by decide, by decide⟩) (by decide) (by decide) (by decide) (by decide))) (by decide) (by decide)) ?_
        refine ok_oc (fun o_2414 => ?_) (fun c11_2415 o_2414 => ?_)
        · exact (lb_xn hQ.1 (rg_w (rg_eq hx9_2413 (rg_add (l := 1) (h := 6) r_v3 (show rg (1 : Int32) (1) (1) from ⟨by decide, by decide⟩) (by decide) (by decide) (by decide) (by decide))) (by decide) (by decide)) o_2414).elim
        · refine ok_gd (lb_x hQ.1 (rg_w (rg_eq hx9_2413 (rg_add (l := 1) (h := 6) r_v3 (show rg (1 : Int32) (1) (1) from ⟨by decide, by decide⟩) (by decide) (by decide) (by decide) (by decide))) (by decide) (by decide)) o_2414) ?_
          refine ok_gd (rg_inb r_v3 (by decide) (by decide)) ?_
          refine ok_oc (fun o_2416 => ?_) (fun c13_2417 o_2416 => ?_)
          · exact (lb_xn hQ.1 (rg_w r_v3 (by decide) (by decide)) o_2416).elim
          · refine ok_gd (lb_x hQ.1 (rg_w r_v3 (by decide) (by decide)) o_2416) ?_
            refine ok_bn (s_X3_takes (lb_x hQ.1 (rg_w (rg_eq hx9_2413 (rg_add (l := 1) (h := 6) r_v3 (show rg (1 : Int32) (1) (1) from ⟨by decide, by decide⟩) (by decide) (by decide) (by decide) (by decide))) (by decide) (by decide)) o_2414) (lb_x hQ.1 (rg_w r_v3 (by decide) (by decide)) o_2416) hB hQ) (fun σ14_2418 qσ14_2418 => ?_)
            refine ok_nm (fun x15_2419 hx15_2419 => ?_)
            refine ok_nm (fun x16_2420 hx16_2420 => ?_)
            refine ok_bn2 (hR _ _ _ _ _ (rg_w (rg_eq (hx15_2419.trans hx9_2413.symm) (rg_eq hx9_2413 (rg_add (l := 1) (h := 6) r_v3 (show rg (1 : Int32) (1) (1) from ⟨by decide, by decide⟩) (by decide) (by decide) (by decide) (by decide)))) (by decide) (by decide)) k_r2 k_r1 (ms_s hx15_2419 r_v3 (by decide) (by decide) hmR) qσ14_2418) (fun r17_2421 σ17_2422 qr17_2421 => ?_)
            obtain ⟨hr17_2421, bσ17_2422⟩ := qr17_2421
            refine ok_nm (fun x18_2423 hx18_2423 => ?_)
            unfold F_X11_bestOf_B_144
            refine ok_if (fun c_2424 => ?_) (fun c_2424 => ?_)
            · refine ok_nm (fun σ8_2425 hσ8_2425 => ?_)
              have bσ8_2425 : BX m σ8_2425 := by rw [hσ8_2425]; exact bx_far bσ17_2422 (by decide) (by decide) (by decide) (by decide)
              exact ok_some ⟨(rg_any _), bσ8_2425⟩
            · exact ok_some ⟨(rg_any _), bσ17_2422⟩
      · unfold F_X11_bestOf_B_144
        refine ok_if (fun c_2426 => ?_) (fun c_2426 => ?_)
        · refine ok_nm (fun σ8_2427 hσ8_2427 => ?_)
          have bσ8_2427 : BX m σ8_2427 := by rw [hσ8_2427]; exact bx_far hB (by decide) (by decide) (by decide) (by decide)
          exact ok_some ⟨(rg_any _), bσ8_2427⟩
        · exact ok_some ⟨(rg_any _), hB⟩
    · refine ok_bn (s_X11_thickByWay k_r1 hB hQ) (fun r19_2428 qr19_2428 => ?_)
      refine ok_bn2 (s_X11_tryStep (rg_w r_v3 (by decide) (by decide)) k_r1 hB hQ) (fun r20_2429 σ20_2430 qr20_2429 => ?_)
      obtain ⟨hr20_2429, bσ20_2430⟩ := qr20_2429
      refine ok_if (fun c_2431 => ?_) (fun c_2431 => ?_)
      · unfold F_X11_bestOf_B_98
        refine ok_gd k_r1.1 ?_
        refine ok_gd k_r2.1 ?_
        refine ok_nm (fun x22_2432 hx22_2432 => ?_)
        exact ih _ _ _ _ _ _ _ _ k_r1 k_r2 r_v3 r_v4 (rg_w (rg_eq hx22_2432 (rg_add (l := 1) (h := 3) (rg_lt (nle c_2411) r_v7 (show rg (3 : Int32) (3) (3) from ⟨by decide, by decide⟩)) (show rg (1 : Int32) (1) (1) from ⟨by decide, by decide⟩) (by decide) (by decide) (by decide) (by decide))) (by decide) (by decide)) (ms_s hx22_2432 (rg_lt (nle c_2411) r_v7 (show rg (3 : Int32) (3) (3) from ⟨by decide, by decide⟩)) (by decide) (by decide) hm) hmR bσ20_2430
      · refine ok_nm (fun x23_2433 hx23_2433 => ?_)
        refine ok_gd (rg_inb (rg_eq hx23_2433 (rg_add (l := 1) (h := 6) r_v3 (show rg (1 : Int32) (1) (1) from ⟨by decide, by decide⟩) (by decide) (by decide) (by decide) (by decide))) (by decide) (by decide)) ?_
        refine ok_oc (fun o_2434 => ?_) (fun c25_2435 o_2434 => ?_)
        · exact (lb_xn hQ.1 (rg_w (rg_eq hx23_2433 (rg_add (l := 1) (h := 6) r_v3 (show rg (1 : Int32) (1) (1) from ⟨by decide, by decide⟩) (by decide) (by decide) (by decide) (by decide))) (by decide) (by decide)) o_2434).elim
        · refine ok_gd (lb_x hQ.1 (rg_w (rg_eq hx23_2433 (rg_add (l := 1) (h := 6) r_v3 (show rg (1 : Int32) (1) (1) from ⟨by decide, by decide⟩) (by decide) (by decide) (by decide) (by decide))) (by decide) (by decide)) o_2434) ?_
          refine ok_nm (fun x26_2436 hx26_2436 => ?_)
          refine ok_nm (fun x27_2437 hx27_2437 => ?_)
          refine ok_bn2 (hR _ _ _ _ _ (rg_w (rg_eq (hx26_2436.trans hx23_2433.symm) (rg_eq hx23_2433 (rg_add (l := 1) (h := 6) r_v3 (show rg (1 : Int32) (1) (1) from ⟨by decide, by decide⟩) (by decide) (by decide) (by decide) (by decide)))) (by decide) (by decide)) k_r2 k_r1 (ms_s hx26_2436 r_v3 (by decide) (by decide) hmR) bσ20_2430) (fun r28_2438 σ28_2439 qr28_2438 => ?_)
          obtain ⟨hr28_2438, bσ28_2439⟩ := qr28_2438
          refine ok_nm (fun x29_2440 hx29_2440 => ?_)
          refine ok_if (fun c_2441 => ?_) (fun c_2441 => ?_)
          · unfold F_X11_bestOf_B_90
            refine ok_gd k_r1.1 ?_
            refine ok_gd k_r2.1 ?_
            unfold F_X11_bestOf_B_98
            refine ok_gd k_r1.1 ?_
            refine ok_gd k_r2.1 ?_
            refine ok_nm (fun x22_2442 hx22_2442 => ?_)
            exact ih _ _ _ _ _ _ _ _ k_r1 k_r2 r_v3 r_v4 (rg_w (rg_eq hx22_2442 (rg_add (l := 1) (h := 3) (rg_lt (nle c_2411) r_v7 (show rg (3 : Int32) (3) (3) from ⟨by decide, by decide⟩)) (show rg (1 : Int32) (1) (1) from ⟨by decide, by decide⟩) (by decide) (by decide) (by decide) (by decide))) (by decide) (by decide)) (ms_s hx22_2442 (rg_lt (nle c_2411) r_v7 (show rg (3 : Int32) (3) (3) from ⟨by decide, by decide⟩)) (by decide) (by decide) hm) hmR bσ28_2439
          · refine ok_if (fun c_2443 => ?_) (fun c_2443 => ?_)
            · unfold F_X11_bestOf_B_98
              refine ok_gd k_r1.1 ?_
              refine ok_gd k_r2.1 ?_
              refine ok_nm (fun x22_2444 hx22_2444 => ?_)
              exact ih _ _ _ _ _ _ _ _ k_r1 k_r2 r_v3 r_v4 (rg_w (rg_eq hx22_2444 (rg_add (l := 1) (h := 3) (rg_lt (nle c_2411) r_v7 (show rg (3 : Int32) (3) (3) from ⟨by decide, by decide⟩)) (show rg (1 : Int32) (1) (1) from ⟨by decide, by decide⟩) (by decide) (by decide) (by decide) (by decide))) (by decide) (by decide)) (ms_s hx22_2444 (rg_lt (nle c_2411) r_v7 (show rg (3 : Int32) (3) (3) from ⟨by decide, by decide⟩)) (by decide) (by decide) hm) hmR bσ28_2439
            · unfold F_X11_bestOf_B_90
              refine ok_gd k_r1.1 ?_
              refine ok_gd k_r2.1 ?_
              unfold F_X11_bestOf_B_98
              refine ok_gd k_r1.1 ?_
              refine ok_gd k_r2.1 ?_
              refine ok_nm (fun x22_2445 hx22_2445 => ?_)
              exact ih _ _ _ _ _ _ _ _ k_r1 k_r2 r_v3 r_v4 (rg_w (rg_eq hx22_2445 (rg_add (l := 1) (h := 3) (rg_lt (nle c_2411) r_v7 (show rg (3 : Int32) (3) (3) from ⟨by decide, by decide⟩)) (show rg (1 : Int32) (1) (1) from ⟨by decide, by decide⟩) (by decide) (by decide) (by decide) (by decide))) (by decide) (by decide)) (ms_s hx22_2445 (rg_lt (nle c_2411) r_v7 (show rg (3 : Int32) (3) (3) from ⟨by decide, by decide⟩)) (by decide) (by decide) hm) hmR bσ28_2439

set_option maxHeartbeats 4000000 in
set_option maxRecDepth 100000 in
theorem s_X11_bestOf_B {m : Int} {N : Nat} {K len : Nat → Nat} {R : Nat → Nat → Int32 → Int32 → SG → RG → Option (Int32 × SG)} {z : Nat} {z2 : Nat} {a3 : Int32} {a4 : Int32} {σ : SG} {ρ : RG} {d : Nat} (hR : ∀ (z : Nat) (z2 : Nat) (a3 : Int32) (a4 : Int32) (σ : SG), rg a3 (0) (6) → CK N K len ρ z → CK N K len ρ z2 → (6 : Int) - a3.toInt < (d : Int) → BX m σ → ok (R z z2 a3 a4 σ ρ) (fun q => rg q.1 (-2147483648) (2147483647) ∧ BX m q.2)) (hmR : (6 : Int) - a3.toInt < ((d + 1 : Nat) : Int)) (k_z : CK N K len ρ z) (k_z2 : CK N K len ρ z2) (r_a3 : rg a3 (0) (6)) (hB : BX m σ) (hQ : PR N K len ρ) : ok (F_X11_bestOf_B N K len R z z2 a3 a4 σ ρ) (fun q => rg q.1 (-2147483648) (2147483647) ∧ BX m q.2) := by
  unfold F_X11_bestOf_B
  refine ok_if (fun c_2446 => ?_) (fun c_2446 => ?_)
  · exact ok_some ⟨(rg_w (show rg (0 : Int32) (0) (0) from ⟨by decide, by decide⟩) (by decide) (by decide)), hB⟩
  · refine ok_nm (fun x2_2447 hx2_2447 => ?_)
    refine ok_if (fun c_2448 => ?_) (fun c_2448 => ?_)
    · exact (s_X11_bestOf_B_28 hR k_z k_z2 (rg_eq (una hx2_2447) (rg_sub (l := 0) (h := 5) (rg_lt c_2448 (rg_eq hx2_2447 (rg_add (l := 1) (h := 7) r_a3 (show rg (1 : Int32) (1) (1) from ⟨by decide, by decide⟩) (by decide) (by decide) (by decide) (by decide))) (show rg (7 : Int32) (7) (7) from ⟨by decide, by decide⟩)) (show rg (1 : Int32) (1) (1) from ⟨by decide, by decide⟩) (by decide) (by decide) (by decide) (by decide))) (rg_gt (nle c_2446) (show rg (0 : Int32) (0) (0) from ⟨by decide, by decide⟩) (rg_any _)) hQ 1024 _ _ _ _ _ _ _ _ k_z k_z2 (rg_eq (una hx2_2447) (rg_sub (l := 0) (h := 5) (rg_lt c_2448 (rg_eq hx2_2447 (rg_add (l := 1) (h := 7) r_a3 (show rg (1 : Int32) (1) (1) from ⟨by decide, by decide⟩) (by decide) (by decide) (by decide) (by decide))) (show rg (7 : Int32) (7) (7) from ⟨by decide, by decide⟩)) (show rg (1 : Int32) (1) (1) from ⟨by decide, by decide⟩) (by decide) (by decide) (by decide) (by decide))) (rg_gt (nle c_2446) (show rg (0 : Int32) (0) (0) from ⟨by decide, by decide⟩) (rg_any _)) (rg_w (show rg (0 : Int32) (0) (0) from ⟨by decide, by decide⟩) (by decide) (by decide)) (ms_0 (show rg (0 : Int32) (0) (0) from ⟨by decide, by decide⟩) (by decide)) hmR hB)
    · exact ok_some ⟨(rg_w (show rg (0 : Int32) (0) (0) from ⟨by decide, by decide⟩) (by decide) (by decide)), hB⟩

theorem s_X11_bestOf_R {m : Int} {N : Nat} {K len : Nat → Nat} {ρ : RG} (hQ : PR N K len ρ) : ∀ (d : Nat), ∀ (z : Nat) (z2 : Nat) (a3 : Int32) (a4 : Int32) (σ : SG), rg a3 (0) (6) → CK N K len ρ z → CK N K len ρ z2 → (6 : Int) - a3.toInt < (d : Int) → BX m σ → ok (F_X11_bestOf_R N K len d z z2 a3 a4 σ ρ) (fun q => rg q.1 (-2147483648) (2147483647) ∧ BX m q.2) := by
  intro d
  induction d with
  | zero => intro z z2 a3 a4 σ r_a3 k_z k_z2 hm hB; exact (ms_z r_a3 (by decide) hm).elim
  | succ d ih =>
    intro z z2 a3 a4 σ r_a3 k_z k_z2 hm hB
    exact s_X11_bestOf_B ih hm k_z k_z2 r_a3 hB hQ

theorem s_X11_bestOf {m : Int} {N : Nat} {K len : Nat → Nat} {z : Nat} {z2 : Nat} {a3 : Int32} {a4 : Int32} {σ : SG} {ρ : RG} (k_z : CK N K len ρ z) (k_z2 : CK N K len ρ z2) (r_a3 : rg a3 (0) (6)) (hB : BX m σ) (hQ : PR N K len ρ) : ok (F_X11_bestOf N K len z z2 a3 a4 σ ρ) (fun q => rg q.1 (-2147483648) (2147483647) ∧ BX m q.2) :=
  s_X11_bestOf_R hQ 9 _ _ _ _ _ r_a3 k_z k_z2 (ms_0 r_a3 (by decide)) hB

set_option maxHeartbeats 4000000 in
set_option maxRecDepth 100000 in
theorem s_X11_game {m : Int} {N : Nat} {K len : Nat → Nat} {a1 : Int32} {a2 : Int32} {a3 : Int32} {a4 : Int32} {σ : SG} {ρ : RG} (hB : BX m σ) (hQ : PR N K len ρ) : ok (F_X11_game N K len a1 a2 a3 a4 σ ρ) (fun q => rg q.1 (-2147483648) (2147483647) ∧ BX m q.2) := by
  unfold F_X11_game
  refine ok_bn (s_X8_cutterAt_1 hB hQ) (fun o1_2471 qo1_2471 => ?_)
  refine ok_oc (fun o_2472 => ?_) (fun c2_2473 o_2472 => ?_)
  · refine ok_bn (s_X8_cutterAt_1 hB hQ) (fun o3_2474 qo3_2474 => ?_)
    refine ok_oc (fun o_2475 => ?_) (fun c4_2476 o_2475 => ?_)
    · exact ok_some ⟨(rg_w (show rg (-10001 : Int32) (-10001) (-10001) from ⟨by decide, by decide⟩) (by decide) (by decide)), hB⟩
    · refine ok_gd (qo3_2474 _ o_2475).1 ?_
      exact ok_some ⟨(rg_w (show rg (-10001 : Int32) (-10001) (-10001) from ⟨by decide, by decide⟩) (by decide) (by decide)), hB⟩
  · refine ok_gd (qo1_2471 _ o_2472).1 ?_
    refine ok_bn (s_X8_cutterAt_1 hB hQ) (fun o5_2477 qo5_2477 => ?_)
    refine ok_oc (fun o_2478 => ?_) (fun c6_2479 o_2478 => ?_)
    · exact ok_some ⟨(rg_w (show rg (-10001 : Int32) (-10001) (-10001) from ⟨by decide, by decide⟩) (by decide) (by decide)), hB⟩
    · refine ok_gd (qo5_2477 _ o_2478).1 ?_
      refine ok_bn (s_X11_isWithin) (fun r7_2480 qr7_2480 => ?_)
      refine ok_if (fun c_2481 => ?_) (fun c_2481 => ?_)
      · exact ok_some ⟨(rg_w (show rg (-10001 : Int32) (-10001) (-10001) from ⟨by decide, by decide⟩) (by decide) (by decide)), hB⟩
      · obtain ⟨w_2482, w_2483⟩ := qr7_2480.2 c_2481
        refine ok_if (fun c_2484 => ?_) (fun c_2484 => ?_)
        · exact ok_some ⟨(rg_w (show rg (-10002 : Int32) (-10002) (-10002) from ⟨by decide, by decide⟩) (by decide) (by decide)), hB⟩
        · refine ok_bn (s_X11_isWithin) (fun r10_2485 qr10_2485 => ?_)
          refine ok_if (fun c_2486 => ?_) (fun c_2486 => ?_)
          · exact ok_some ⟨(rg_w (show rg (-10002 : Int32) (-10002) (-10002) from ⟨by decide, by decide⟩) (by decide) (by decide)), hB⟩
          · obtain ⟨w_2487, w_2488⟩ := qr10_2485.2 c_2486
            refine ok_bn (s_X11_startSteps hB hQ) (fun σ12_2489 qσ12_2489 => ?_)
            refine ok_bn2 (s_X11_bestOf (qo1_2471 _ o_2472) (qo5_2477 _ o_2478) (rg_w (show rg (0 : Int32) (0) (0) from ⟨by decide, by decide⟩) (by decide) (by decide)) qσ12_2489 hQ) (fun r13_2490 σ13_2491 qr13_2490 => ?_)
            obtain ⟨hr13_2490, bσ13_2491⟩ := qr13_2490
            refine ok_if (fun c_2492 => ?_) (fun c_2492 => ?_)
            · exact ok_some ⟨hr13_2490, bσ13_2491⟩
            · exact ok_some ⟨(rg_any _), bσ13_2491⟩

theorem s_J0_length {w : Nat} {σ : SG} {ρ : RG} (hw : w < 6) : ok (F_J0_length_8abf5 w σ ρ) (fun q => q = Int32.ofNat (sLen.getD w 0)) := by
  rcases (show w = 0 ∨ w = 1 ∨ w = 2 ∨ w = 3 ∨ w = 4 ∨ w = 5 by omega) with rfl | rfl | rfl | rfl | rfl | rfl <;> exact ⟨_, rfl, by decide⟩
theorem ca_0 {x : Int32} {σ : SG} {ρ : RG} (hx : rg x 0 4) : ok (F_J0_charAt_5068e 0 x σ ρ) (fun q => rg q 1 127) := by
  have h1 := hx.1
  have h2 := hx.2
  have h : x = 0 ∨ x = 1 ∨ x = 2 ∨ x = 3 ∨ x = 4 := by
    have h3 : x.toInt = 0 ∨ x.toInt = 1 ∨ x.toInt = 2 ∨ x.toInt = 3 ∨ x.toInt = 4 := by omega
    rcases h3 with h | h | h | h | h
    · exact Or.inl (Int32.toInt_inj.mp (by rw [h]; rfl))
    · exact Or.inr (Or.inl (Int32.toInt_inj.mp (by rw [h]; rfl)))
    · exact Or.inr (Or.inr (Or.inl (Int32.toInt_inj.mp (by rw [h]; rfl))))
    · exact Or.inr (Or.inr (Or.inr (Or.inl (Int32.toInt_inj.mp (by rw [h]; rfl)))))
    · exact Or.inr (Or.inr (Or.inr (Or.inr (Int32.toInt_inj.mp (by rw [h]; rfl)))))
  rcases h with rfl | rfl | rfl | rfl | rfl <;> exact ⟨_, rfl, by decide, by decide⟩
theorem ca_1 {x : Int32} {σ : SG} {ρ : RG} (hx : rg x 0 3) : ok (F_J0_charAt_5068e 1 x σ ρ) (fun q => rg q 1 127) := by
  have h1 := hx.1
  have h2 := hx.2
  have h : x = 0 ∨ x = 1 ∨ x = 2 ∨ x = 3 := by
    have h3 : x.toInt = 0 ∨ x.toInt = 1 ∨ x.toInt = 2 ∨ x.toInt = 3 := by omega
    rcases h3 with h | h | h | h
    · exact Or.inl (Int32.toInt_inj.mp (by rw [h]; rfl))
    · exact Or.inr (Or.inl (Int32.toInt_inj.mp (by rw [h]; rfl)))
    · exact Or.inr (Or.inr (Or.inl (Int32.toInt_inj.mp (by rw [h]; rfl))))
    · exact Or.inr (Or.inr (Or.inr (Int32.toInt_inj.mp (by rw [h]; rfl))))
  rcases h with rfl | rfl | rfl | rfl <;> exact ⟨_, rfl, by decide, by decide⟩
theorem ca_2 {x : Int32} {σ : SG} {ρ : RG} (hx : rg x 0 4) : ok (F_J0_charAt_5068e 2 x σ ρ) (fun q => rg q 1 127) := by
  have h1 := hx.1
  have h2 := hx.2
  have h : x = 0 ∨ x = 1 ∨ x = 2 ∨ x = 3 ∨ x = 4 := by
    have h3 : x.toInt = 0 ∨ x.toInt = 1 ∨ x.toInt = 2 ∨ x.toInt = 3 ∨ x.toInt = 4 := by omega
    rcases h3 with h | h | h | h | h
    · exact Or.inl (Int32.toInt_inj.mp (by rw [h]; rfl))
    · exact Or.inr (Or.inl (Int32.toInt_inj.mp (by rw [h]; rfl)))
    · exact Or.inr (Or.inr (Or.inl (Int32.toInt_inj.mp (by rw [h]; rfl))))
    · exact Or.inr (Or.inr (Or.inr (Or.inl (Int32.toInt_inj.mp (by rw [h]; rfl)))))
    · exact Or.inr (Or.inr (Or.inr (Or.inr (Int32.toInt_inj.mp (by rw [h]; rfl)))))
  rcases h with rfl | rfl | rfl | rfl | rfl <;> exact ⟨_, rfl, by decide, by decide⟩
theorem ca_3 {x : Int32} {σ : SG} {ρ : RG} (hx : rg x 0 4) : ok (F_J0_charAt_5068e 3 x σ ρ) (fun q => rg q 1 127) := by
  have h1 := hx.1
  have h2 := hx.2
  have h : x = 0 ∨ x = 1 ∨ x = 2 ∨ x = 3 ∨ x = 4 := by
    have h3 : x.toInt = 0 ∨ x.toInt = 1 ∨ x.toInt = 2 ∨ x.toInt = 3 ∨ x.toInt = 4 := by omega
    rcases h3 with h | h | h | h | h
    · exact Or.inl (Int32.toInt_inj.mp (by rw [h]; rfl))
    · exact Or.inr (Or.inl (Int32.toInt_inj.mp (by rw [h]; rfl)))
    · exact Or.inr (Or.inr (Or.inl (Int32.toInt_inj.mp (by rw [h]; rfl))))
    · exact Or.inr (Or.inr (Or.inr (Or.inl (Int32.toInt_inj.mp (by rw [h]; rfl)))))
    · exact Or.inr (Or.inr (Or.inr (Or.inr (Int32.toInt_inj.mp (by rw [h]; rfl)))))
  rcases h with rfl | rfl | rfl | rfl | rfl <;> exact ⟨_, rfl, by decide, by decide⟩
theorem ca_4 {x : Int32} {σ : SG} {ρ : RG} (hx : rg x 0 5) : ok (F_J0_charAt_5068e 4 x σ ρ) (fun q => rg q 1 127) := by
  have h1 := hx.1
  have h2 := hx.2
  have h : x = 0 ∨ x = 1 ∨ x = 2 ∨ x = 3 ∨ x = 4 ∨ x = 5 := by
    have h3 : x.toInt = 0 ∨ x.toInt = 1 ∨ x.toInt = 2 ∨ x.toInt = 3 ∨ x.toInt = 4 ∨ x.toInt = 5 := by omega
    rcases h3 with h | h | h | h | h | h
    · exact Or.inl (Int32.toInt_inj.mp (by rw [h]; rfl))
    · exact Or.inr (Or.inl (Int32.toInt_inj.mp (by rw [h]; rfl)))
    · exact Or.inr (Or.inr (Or.inl (Int32.toInt_inj.mp (by rw [h]; rfl))))
    · exact Or.inr (Or.inr (Or.inr (Or.inl (Int32.toInt_inj.mp (by rw [h]; rfl)))))
    · exact Or.inr (Or.inr (Or.inr (Or.inr (Or.inl (Int32.toInt_inj.mp (by rw [h]; rfl))))))
    · exact Or.inr (Or.inr (Or.inr (Or.inr (Or.inr (Int32.toInt_inj.mp (by rw [h]; rfl))))))
  rcases h with rfl | rfl | rfl | rfl | rfl | rfl <;> exact ⟨_, rfl, by decide, by decide⟩
theorem ca_5 {x : Int32} {σ : SG} {ρ : RG} (hx : rg x 0 2) : ok (F_J0_charAt_5068e 5 x σ ρ) (fun q => rg q 1 127) := by
  have h1 := hx.1
  have h2 := hx.2
  have h : x = 0 ∨ x = 1 ∨ x = 2 := by
    have h3 : x.toInt = 0 ∨ x.toInt = 1 ∨ x.toInt = 2 := by omega
    rcases h3 with h | h | h
    · exact Or.inl (Int32.toInt_inj.mp (by rw [h]; rfl))
    · exact Or.inr (Or.inl (Int32.toInt_inj.mp (by rw [h]; rfl)))
    · exact Or.inr (Or.inr (Int32.toInt_inj.mp (by rw [h]; rfl)))
  rcases h with rfl | rfl | rfl <;> exact ⟨_, rfl, by decide, by decide⟩
theorem s_J0_charAt {w : Nat} {x : Int32} {σ : SG} {ρ : RG} (hw : w < 6) (h0 : 0 ≤ x.toInt) (h1 : x.toInt < ((sLen.getD w 0 : Nat) : Int)) : ok (F_J0_charAt_5068e w x σ ρ) (fun q => rg q 1 127) := by
  rcases (show w = 0 ∨ w = 1 ∨ w = 2 ∨ w = 3 ∨ w = 4 ∨ w = 5 by omega) with rfl | rfl | rfl | rfl | rfl | rfl
  · exact ca_0 ⟨h0, by have e : ((sLen.getD 0 0 : Nat) : Int) = 5 := rfl; omega⟩
  · exact ca_1 ⟨h0, by have e : ((sLen.getD 1 0 : Nat) : Int) = 4 := rfl; omega⟩
  · exact ca_2 ⟨h0, by have e : ((sLen.getD 2 0 : Nat) : Int) = 5 := rfl; omega⟩
  · exact ca_3 ⟨h0, by have e : ((sLen.getD 3 0 : Nat) : Int) = 5 := rfl; omega⟩
  · exact ca_4 ⟨h0, by have e : ((sLen.getD 4 0 : Nat) : Int) = 6 := rfl; omega⟩
  · exact ca_5 ⟨h0, by have e : ((sLen.getD 5 0 : Nat) : Int) = 3 := rfl; omega⟩
theorem s_J1_ix {i : Nat} {a2 a3 a4 : Int32} {σ : SG} {ρ : RG} {L : Int} (hL : ((sLen.getD i 0 : Nat) : Int) = L) (h100 : L < 100) : ∀ (n : Nat) (v3 v4 v5 : Int32), rg v3 0 L → rg v5 0 100 → (100 : Int) - v5.toInt < (n : Int) → ok (F_J1_indexOfChar_4cfef_7 i a2 a3 a4 n σ ρ v3 v4 v5) (fun q => rg q (-1) (L - 1)) := by
  intro n
  induction n with
  | zero => intro v3 v4 v5 r3 r5 hm; exact (ms_z r5 (by decide) hm).elim
  | succ n ih =>
    intro v3 v4 v5 r3 r5 hm
    unfold F_J1_indexOfChar_4cfef_7
    have l0 : 0 ≤ L := by have := r3.1; have := r3.2; omega
    refine ok_if (fun _ => ok_some ⟨by have : (-1 : Int32).toInt = -1 := rfl; omega, by have : (-1 : Int32).toInt = -1 := rfl; omega⟩) (fun c => ?_)
    have c1 := Int32.lt_iff_toInt_lt.mp (nle c)
    have b3 := r3.2
    have a5 := r5.1
    have r5' : rg v5 0 (L - 1) := ⟨a5, by omega⟩
    refine ok_gd (decide_eq_true ⟨by omega, by omega⟩) (ok_if (fun _ => ok_some (rg_w r5' (by omega) (by omega))) (fun _ => ok_nm (fun x hx => ?_)))
    have e1 : (1 : Int32).toInt = 1 := rfl
    have ex : x.toInt = v5.toInt + 1 := by rw [hx, ti_add (by omega) (by omega), e1]
    exact ih v3 v4 x r3 ⟨by omega, by omega⟩ (by omega)
theorem ix_4 {c : Int32} {σ : SG} {ρ : RG} : ok (F_J0_indexOf_0f7a4 4 c σ ρ) (fun q => rg q (-1) 5) := by
  have m1 : rg (-1 : Int32) (-1) 5 := ⟨by decide, by decide⟩
  unfold F_J0_indexOf_0f7a4
  refine ok_bn (Q := fun q => rg q (-1) 5) ?_ (fun r h => ok_some h)
  unfold F_J0_indexOf_7cf53
  refine ok_bn (Q := fun q => q = 1) ⟨1, rfl, rfl⟩ (fun r h => ok_if (fun e => absurd (h.symm.trans e) (by decide)) (fun _ => ?_))
  refine ok_bn (s_J0_length (by decide)) (fun r4 h4 => ok_bn (Q := fun q => rg q (-1) 5) ?_ (fun r h => ok_some h))
  have e4 : r4 = 6 := h4.trans (by decide)
  subst e4
  unfold F_J1_indexOf_4cfef
  refine ok_bn (Q := fun _ => True) ?_ (fun r1 _ => ok_if (fun _ => ok_some m1) (fun _ => ok_nm (fun x3 h3 => ok_nm (fun x4 h4 => ok_if (fun _ => ?_) (fun _ => ok_some m1)))))
  · unfold F_J1_canEncode_9a6ad
    exact ok_if (fun _ => ok_some trivial) (fun _ => ok_if (fun _ => ok_some trivial) (fun _ => ok_some trivial))
  · have e3 : x3 = 0 := h3.trans (by decide)
    have e4 : x4 = 6 := h4.trans (by decide)
    subst e3
    subst e4
    refine ok_bn (Q := fun q => rg q (-1) 5) ?_ (fun r h => ok_some h)
    unfold F_J1_indexOfChar_4cfef
    exact s_J1_ix (L := 6) rfl (by decide) 1024 _ _ _ ⟨by decide, by decide⟩ ⟨by decide, by decide⟩ (by decide)
theorem ix_5 {c : Int32} {σ : SG} {ρ : RG} : ok (F_J0_indexOf_0f7a4 5 c σ ρ) (fun q => rg q (-1) 2) := by
  have m1 : rg (-1 : Int32) (-1) 2 := ⟨by decide, by decide⟩
  unfold F_J0_indexOf_0f7a4
  refine ok_bn (Q := fun q => rg q (-1) 2) ?_ (fun r h => ok_some h)
  unfold F_J0_indexOf_7cf53
  refine ok_bn (Q := fun q => q = 1) ⟨1, rfl, rfl⟩ (fun r h => ok_if (fun e => absurd (h.symm.trans e) (by decide)) (fun _ => ?_))
  refine ok_bn (s_J0_length (by decide)) (fun r4 h4 => ok_bn (Q := fun q => rg q (-1) 2) ?_ (fun r h => ok_some h))
  have e4 : r4 = 3 := h4.trans (by decide)
  subst e4
  unfold F_J1_indexOf_4cfef
  refine ok_bn (Q := fun _ => True) ?_ (fun r1 _ => ok_if (fun _ => ok_some m1) (fun _ => ok_nm (fun x3 h3 => ok_nm (fun x4 h4 => ok_if (fun _ => ?_) (fun _ => ok_some m1)))))
  · unfold F_J1_canEncode_9a6ad
    exact ok_if (fun _ => ok_some trivial) (fun _ => ok_if (fun _ => ok_some trivial) (fun _ => ok_some trivial))
  · have e3 : x3 = 0 := h3.trans (by decide)
    have e4 : x4 = 3 := h4.trans (by decide)
    subst e3
    subst e4
    refine ok_bn (Q := fun q => rg q (-1) 2) ?_ (fun r h => ok_some h)
    unfold F_J1_indexOfChar_4cfef
    exact s_J1_ix (L := 3) rfl (by decide) 1024 _ _ _ ⟨by decide, by decide⟩ ⟨by decide, by decide⟩ (by decide)
theorem s_X0_next {N : Nat} {K len : Nat → Nat} {m : Int} {σ : SG} {ρ : RG} (hB : BX m σ) (hQ : PR N K len ρ) : ok (F_X0_next σ ρ) (fun q => rg q (-2147483648) 2147483647) := by
  unfold F_X0_next
  refine ok_oc (fun _ => ok_some (rg_any _)) (fun c h => ?_)
  have hc : c = 10 := by
    rcases hQ.2.2.2.2 with e | e
    · rw [e] at h; cases h
    · rw [e] at h; cases h; rfl
  refine ok_gd (by rw [hc]; rfl) (ok_if (fun _ => ok_some (rg_any _)) (fun c1 => ok_if (fun _ => ok_some (rg_any _)) (fun c2 => ?_)))
  refine ok_oc (fun e => by rw [h] at e; cases e) (fun c4 h4 => ok_gd (by rw [h] at h4; cases h4; rw [hc]; rfl) (ok_if (fun _ => ok_some (rg_any _)) (fun c5 => ?_)))
  refine ok_oc (fun e => by rw [h] at e; cases e) (fun c6 h6 => ok_gd (by rw [h] at h6; cases h6; rw [hc]; rfl) (ok_gd ?_ (ok_some (rg_any _))))
  exact rg_inb (rg_lt (nle c5) (rg_ge (nlt c1) (show rg (0 : Int32) 0 0 from ⟨by decide, by decide⟩) (rg_any _)) (show rg (100 : Int32) 100 100 from ⟨by decide, by decide⟩)) (by decide) (by decide)

set_option maxHeartbeats 4000000 in
set_option maxRecDepth 100000 in
theorem s_X0_readSign {m : Int} {N : Nat} {K len : Nat → Nat} {a1 : Int32} {σ : SG} {ρ : RG} (hB : BX m σ) (hQ : PR N K len ρ) : ok (F_X0_readSign a1 σ ρ) (fun q => rg q.1 (0) (1) ∧ BX m q.2) := by
  unfold F_X0_readSign
  refine ok_bn (s_X0_next hB hQ) (fun r1_2497 qr1_2497 => ?_)
  refine ok_if (fun c_2498 => ?_) (fun c_2498 => ?_)
  · refine ok_nm (fun x3_2499 hx3_2499 => ?_)
    refine ok_nm (fun σ5_2500 hσ5_2500 => ?_)
    have bσ5_2500 : BX m σ5_2500 := by rw [hσ5_2500]; exact bx_set hB (rg_any _) (by decide)
    exact ok_some ⟨(rg_w (show rg (1 : Int32) (1) (1) from ⟨by decide, by decide⟩) (by decide) (by decide)), bσ5_2500⟩
  · exact ok_some ⟨(rg_w (show rg (0 : Int32) (0) (0) from ⟨by decide, by decide⟩) (by decide) (by decide)), hB⟩

set_option maxHeartbeats 4000000 in
set_option maxRecDepth 100000 in
theorem s_X0_readNumber {m : Int} {N : Nat} {K len : Nat → Nat} {σ : SG} {ρ : RG} (hB : BX m σ) (hQ : PR N K len ρ) : ok (F_X0_readNumber σ ρ) (fun q => rg q.1 (0) (1) ∧ BX m q.2) := by
  unfold F_X0_readNumber
  refine ok_bn (s_X0_next hB hQ) (fun r1_2520 qr1_2520 => ?_)
  refine ok_bn (s_X0_isDigit hB hQ) (fun r2_2521 qr2_2521 => ?_)
  refine ok_if (fun c_2522 => ?_) (fun c_2522 => ?_)
  · exact ok_some ⟨(rg_w (show rg (0 : Int32) (0) (0) from ⟨by decide, by decide⟩) (by decide) (by decide)), hB⟩
  · refine ok_bn (s_X0_next hB hQ) (fun r4_2523 qr4_2523 => ?_)
    refine ok_nm (fun x5_2524 hx5_2524 => ?_)
    refine ok_nm (fun σ7_2525 hσ7_2525 => ?_)
    have bσ7_2525 : BX m σ7_2525 := by rw [hσ7_2525]; exact bx_set hB (rg_any _) (by decide)
    refine ok_nm (fun x8_2526 hx8_2526 => ?_)
    refine ok_nm (fun σ10_2527 hσ10_2527 => ?_)
    have bσ10_2527 : BX m σ10_2527 := by rw [hσ10_2527]; exact bx_set bσ7_2525 (rg_any _) (by decide)
    refine ok_if (fun c_2528 => ?_) (fun c_2528 => ?_)
    · exact ok_some ⟨(rg_w (show rg (1 : Int32) (1) (1) from ⟨by decide, by decide⟩) (by decide) (by decide)), bσ10_2527⟩
    · refine ok_bn (s_X0_next bσ10_2527 hQ) (fun r12_2529 qr12_2529 => ?_)
      refine ok_bn (s_X0_isDigit bσ10_2527 hQ) (fun r13_2530 qr13_2530 => ?_)
      refine ok_if (fun c_2531 => ?_) (fun c_2531 => ?_)
      · exact ok_some ⟨(rg_w (show rg (1 : Int32) (1) (1) from ⟨by decide, by decide⟩) (by decide) (by decide)), bσ10_2527⟩
      · refine ok_nm (fun x15_2532 hx15_2532 => ?_)
        refine ok_bn (s_X0_next bσ10_2527 hQ) (fun r16_2533 qr16_2533 => ?_)
        refine ok_nm (fun x17_2534 hx17_2534 => ?_)
        refine ok_nm (fun x18_2535 hx18_2535 => ?_)
        refine ok_nm (fun σ20_2536 hσ20_2536 => ?_)
        have bσ20_2536 : BX m σ20_2536 := by rw [hσ20_2536]; exact bx_set bσ10_2527 (rg_any _) (by decide)
        refine ok_nm (fun x21_2537 hx21_2537 => ?_)
        refine ok_nm (fun σ23_2538 hσ23_2538 => ?_)
        have bσ23_2538 : BX m σ23_2538 := by rw [hσ23_2538]; exact bx_set bσ20_2536 (rg_any _) (by decide)
        exact ok_some ⟨(rg_w (show rg (1 : Int32) (1) (1) from ⟨by decide, by decide⟩) (by decide) (by decide)), bσ23_2538⟩

set_option maxHeartbeats 4000000 in
set_option maxRecDepth 100000 in
theorem s_X0_put {m : Int} {N : Nat} {K len : Nat → Nat} {a1 : Int32} {σ : SG} {ρ : RG} (hB : BX m σ) (hQ : PR N K len ρ) : ok (F_X0_put a1 σ ρ) (fun q => rg q.1 (0) (1) ∧ BX m q.2) := by
  unfold F_X0_put
  refine ok_if (fun c_2544 => ?_) (fun c_2544 => ?_)
  · exact ok_some ⟨(rg_w (rg_gt c_2544 (rg_lt c_2544 (bx_get hB (r := 29) (a := 7) (b := 7) (k := 7) (l := 0) (h := 100) (by decide) (by decide) (by decide)) (show rg (0 : Int32) (0) (0) from ⟨by decide, by decide⟩)) (show rg (0 : Int32) (0) (0) from ⟨by decide, by decide⟩)) (by decide) (by decide)), hB⟩
  · refine ok_if (fun c_2545 => ?_) (fun c_2545 => ?_)
    · refine ok_gd (rg_inb (rg_lt c_2545 (bx_get hB (r := 29) (a := 7) (b := 7) (k := 7) (l := 0) (h := 100) (by decide) (by decide) (by decide)) (show rg (100 : Int32) (100) (100) from ⟨by decide, by decide⟩)) (by decide) (by decide)) ?_
      refine ok_nm (fun σ5_2546 hσ5_2546 => ?_)
      have bσ5_2546 : BX m σ5_2546 := by rw [hσ5_2546]; exact bx_far hB (by decide) (by decide) (by decide) (by decide)
      refine ok_nm (fun x6_2547 hx6_2547 => ?_)
      refine ok_nm (fun σ8_2548 hσ8_2548 => ?_)
      have bσ8_2548 : BX m σ8_2548 := by rw [hσ8_2548]; exact bx_set bσ5_2546 (rg_eq hx6_2547 (rg_add (l := 1) (h := 100) (rg_eq (s2_o hσ5_2546 (by decide)) (rg_lt c_2545 (bx_get hB (r := 29) (a := 7) (b := 7) (k := 7) (l := 0) (h := 100) (by decide) (by decide) (by decide)) (show rg (100 : Int32) (100) (100) from ⟨by decide, by decide⟩))) (show rg (1 : Int32) (1) (1) from ⟨by decide, by decide⟩) (by decide) (by decide) (by decide) (by decide))) (by decide)
      exact ok_some ⟨(rg_w (show rg (1 : Int32) (1) (1) from ⟨by decide, by decide⟩) (by decide) (by decide)), bσ8_2548⟩
    · exact ok_some ⟨(rg_w (show rg (0 : Int32) (0) (0) from ⟨by decide, by decide⟩) (by decide) (by decide)), hB⟩

theorem s_X0_readWord_2 {N : Nat} {K len : Nat → Nat} {m : Int} {w : Nat} {ρ : RG} (hw : w < 6) (hQ : PR N K len ρ) : ∀ (n : Nat) (σ : SG) (v2 : Int32), rg v2 0 6 → (6 : Int) - v2.toInt < (n : Int) → BX m σ → ok (F_X0_readWord_2 w n σ ρ v2) (fun q => rg q.1 0 1 ∧ BX m q.2) := by
  intro n
  induction n with
  | zero => intro σ v2 r2 hm; exact (ms_z r2 (by decide) hm).elim
  | succ n ih =>
    intro σ v2 r2 hm hB
    unfold F_X0_readWord_2
    refine ok_bn (s_J0_length hw) (fun r1 h1 => ok_if (fun _ => ok_some ⟨show rg (1 : Int32) 0 1 from ⟨by decide, by decide⟩, hB⟩) (fun c => ?_))
    have hl : ((sLen.getD w 0 : Nat) : Int) ≤ 6 ∧ (Int32.ofNat (sLen.getD w 0)).toInt = ((sLen.getD w 0 : Nat) : Int) := by
      rcases (show w = 0 ∨ w = 1 ∨ w = 2 ∨ w = 3 ∨ w = 4 ∨ w = 5 by omega) with rfl | rfl | rfl | rfl | rfl | rfl <;> exact ⟨by decide, rfl⟩
    have c1 := Int32.lt_iff_toInt_lt.mp (nle c)
    rw [h1, hl.2] at c1
    have a2 := r2.1
    refine ok_bn (s_J0_charAt hw a2 c1) (fun r3 _ => ok_bn2 (s_X0_readSign hB hQ) (fun r4 σ4 q4 => ok_if (fun _ => ok_some ⟨show rg (0 : Int32) 0 1 from ⟨by decide, by decide⟩, q4.2⟩) (fun _ => ok_nm (fun x hx => ?_))))
    have e1 : (1 : Int32).toInt = 1 := rfl
    have ex : x.toInt = v2.toInt + 1 := by rw [hx, ti_add (by omega) (by omega), e1]
    exact ih σ4 x ⟨by omega, by omega⟩ (by omega) q4.2
theorem s_X0_readWord {N : Nat} {K len : Nat → Nat} {m : Int} {w : Nat} {σ : SG} {ρ : RG} (hw : w < 6) (hB : BX m σ) (hQ : PR N K len ρ) : ok (F_X0_readWord w σ ρ) (fun q => rg q.1 0 1 ∧ BX m q.2) := s_X0_readWord_2 hw hQ 1024 σ 0 ⟨by decide, by decide⟩ (by decide) hB

set_option maxHeartbeats 4000000 in
set_option maxRecDepth 100000 in
theorem s_X0_readTest {m : Int} {N : Nat} {K len : Nat → Nat} {σ : SG} {ρ : RG} (hB : BX m σ) (hQ : PR N K len ρ) : ok (F_X0_readTest σ ρ) (fun q => rg q.1 (0) (1) ∧ BX m q.2) := by
  unfold F_X0_readTest
  refine ok_bn (s_X0_next hB hQ) (fun r1_2571 qr1_2571 => ?_)
  refine ok_nm (fun x2_2572 hx2_2572 => ?_)
  refine ok_bn ix_4 (fun r3_2573 qr3_2573 => ?_)
  refine ok_if (fun c_2574 => ?_) (fun c_2574 => ?_)
  · refine ok_nm (fun x5_2575 hx5_2575 => ?_)
    refine ok_nm (fun σ7_2576 hσ7_2576 => ?_)
    have bσ7_2576 : BX m σ7_2576 := by rw [hσ7_2576]; exact bx_set hB (rg_any _) (by decide)
    refine ok_bn (s_X0_next bσ7_2576 hQ) (fun r8_2577 qr8_2577 => ?_)
    refine ok_nm (fun x9_2578 hx9_2578 => ?_)
    refine ok_bn ix_5 (fun r10_2579 qr10_2579 => ?_)
    refine ok_if (fun c_2580 => ?_) (fun c_2580 => ?_)
    · refine ok_nm (fun x12_2581 hx12_2581 => ?_)
      refine ok_nm (fun σ14_2582 hσ14_2582 => ?_)
      have bσ14_2582 : BX m σ14_2582 := by rw [hσ14_2582]; exact bx_set bσ7_2576 (rg_any _) (by decide)
      refine ok_bn2 (s_X0_readNumber bσ14_2582 hQ) (fun r15_2583 σ15_2584 qr15_2583 => ?_)
      obtain ⟨hr15_2583, bσ15_2584⟩ := qr15_2583
      refine ok_if (fun c_2585 => ?_) (fun c_2585 => ?_)
      · exact ok_some ⟨(rg_w (show rg (0 : Int32) (0) (0) from ⟨by decide, by decide⟩) (by decide) (by decide)), bσ15_2584⟩
      · refine ok_nm (fun x17_2586 hx17_2586 => ?_)
        refine ok_nm (fun x18_2587 hx18_2587 => ?_)
        refine ok_nm (fun x19_2588 hx19_2588 => ?_)
        refine ok_nm (fun x20_2589 hx20_2589 => ?_)
        refine ok_bn2 (s_X0_put bσ15_2584 hQ) (fun r21_2590 σ21_2591 qr21_2590 => ?_)
        obtain ⟨hr21_2590, bσ21_2591⟩ := qr21_2590
        refine ok_if (fun c_2592 => ?_) (fun c_2592 => ?_)
        · exact ok_some ⟨(rg_w (show rg (0 : Int32) (0) (0) from ⟨by decide, by decide⟩) (by decide) (by decide)), bσ21_2591⟩
        · exact ok_some ⟨(rg_w (show rg (1 : Int32) (1) (1) from ⟨by decide, by decide⟩) (by decide) (by decide)), bσ21_2591⟩
    · exact ok_some ⟨(rg_w (show rg (0 : Int32) (0) (0) from ⟨by decide, by decide⟩) (by decide) (by decide)), bσ7_2576⟩
  · exact ok_some ⟨(rg_w (show rg (0 : Int32) (0) (0) from ⟨by decide, by decide⟩) (by decide) (by decide)), hB⟩

set_option maxHeartbeats 4000000 in
set_option maxRecDepth 100000 in
theorem s_X0_readBoth_B_12 {m : Int} {N : Nat} {K len : Nat → Nat} {R : Int32 → SG → RG → Option (Int32 × SG)} {a1 : Int32} {ρ : RG} {d : Nat} (hR : ∀ (a1 : Int32) (σ : SG), rg a1 (0) (5) → (5 : Int) - a1.toInt < (d : Int) → BX m σ → ok (R a1 σ ρ) (fun q => rg q.1 (0) (1) ∧ BX m q.2)) (r_a1 : rg a1 (0) (5)) (hQ : PR N K len ρ) : ∀ (n : Nat) (σ : SG) (v1 : Int32) (v2 : Int32), rg v1 (0) (5) → rg v2 (0) (100) → (100 : Int) - v2.toInt < (n : Int) → (5 : Int) - v1.toInt < (d : Int) → BX m σ → ok (F_X0_readBoth_B_12 R a1 n σ ρ v1 v2) (fun q => rg q.1 (0) (1) ∧ BX m q.2) := by
  intro n
  induction n with
  | zero => intro σ v1 v2 r_v1 r_v2 hm hmR hB; exact (ms_z r_v2 (by decide) hm).elim
  | succ n ih =>
    intro σ v1 v2 r_v1 r_v2 hm hmR hB
    unfold F_X0_readBoth_B_12
    refine ok_if (fun c_2608 => ?_) (fun c_2608 => ?_)
    · exact ok_some ⟨(rg_w (show rg (1 : Int32) (1) (1) from ⟨by decide, by decide⟩) (by decide) (by decide)), hB⟩
    · refine ok_bn (s_X0_next hB hQ) (fun r4_2609 qr4_2609 => ?_)
      refine ok_if (fun c_2610 => ?_) (fun c_2610 => ?_)
      · refine ok_nm (fun x6_2611 hx6_2611 => ?_)
        refine ok_nm (fun σ8_2612 hσ8_2612 => ?_)
        have bσ8_2612 : BX m σ8_2612 := by rw [hσ8_2612]; exact bx_set hB (rg_any _) (by decide)
        refine ok_bn2 (hR _ _ r_v1 hmR bσ8_2612) (fun r9_2613 σ9_2614 qr9_2613 => ?_)
        obtain ⟨hr9_2613, bσ9_2614⟩ := qr9_2613
        refine ok_if (fun c_2615 => ?_) (fun c_2615 => ?_)
        · exact ok_some ⟨(rg_w (show rg (0 : Int32) (0) (0) from ⟨by decide, by decide⟩) (by decide) (by decide)), bσ9_2614⟩
        · refine ok_bn2 (s_X0_put bσ9_2614 hQ) (fun r11_2616 σ11_2617 qr11_2616 => ?_)
          obtain ⟨hr11_2616, bσ11_2617⟩ := qr11_2616
          refine ok_if (fun c_2618 => ?_) (fun c_2618 => ?_)
          · exact ok_some ⟨(rg_w (show rg (0 : Int32) (0) (0) from ⟨by decide, by decide⟩) (by decide) (by decide)), bσ11_2617⟩
          · refine ok_nm (fun x13_2619 hx13_2619 => ?_)
            exact ih _ _ _ r_v1 (rg_w (rg_eq hx13_2619 (rg_add (l := 1) (h := 100) (rg_lt (nle c_2608) r_v2 (show rg (100 : Int32) (100) (100) from ⟨by decide, by decide⟩)) (show rg (1 : Int32) (1) (1) from ⟨by decide, by decide⟩) (by decide) (by decide) (by decide) (by decide))) (by decide) (by decide)) (ms_s hx13_2619 (rg_lt (nle c_2608) r_v2 (show rg (100 : Int32) (100) (100) from ⟨by decide, by decide⟩)) (by decide) (by decide) hm) hmR bσ11_2617
      · exact ok_some ⟨(rg_w (show rg (1 : Int32) (1) (1) from ⟨by decide, by decide⟩) (by decide) (by decide)), hB⟩

set_option maxHeartbeats 4000000 in
set_option maxRecDepth 100000 in
theorem s_X0_readBoth_B {m : Int} {N : Nat} {K len : Nat → Nat} {R : Int32 → SG → RG → Option (Int32 × SG)} {a1 : Int32} {σ : SG} {ρ : RG} {d : Nat} (hR : ∀ (a1 : Int32) (σ : SG), rg a1 (0) (5) → (5 : Int) - a1.toInt < (d : Int) → BX m σ → ok (R a1 σ ρ) (fun q => rg q.1 (0) (1) ∧ BX m q.2)) (hmR : (5 : Int) - a1.toInt < (d : Int)) (r_a1 : rg a1 (0) (5)) (hB : BX m σ) (hQ : PR N K len ρ) : ok (F_X0_readBoth_B R a1 σ ρ) (fun q => rg q.1 (0) (1) ∧ BX m q.2) := by
  unfold F_X0_readBoth_B
  refine ok_bn2 (hR _ _ r_a1 hmR hB) (fun r1_2620 σ1_2621 qr1_2620 => ?_)
  obtain ⟨hr1_2620, bσ1_2621⟩ := qr1_2620
  refine ok_if (fun c_2622 => ?_) (fun c_2622 => ?_)
  · exact ok_some ⟨(rg_w (show rg (0 : Int32) (0) (0) from ⟨by decide, by decide⟩) (by decide) (by decide)), bσ1_2621⟩
  · exact (s_X0_readBoth_B_12 hR r_a1 hQ 1024 _ _ _ r_a1 (rg_w (show rg (0 : Int32) (0) (0) from ⟨by decide, by decide⟩) (by decide) (by decide)) (ms_0 (show rg (0 : Int32) (0) (0) from ⟨by decide, by decide⟩) (by decide)) hmR bσ1_2621)

set_option maxHeartbeats 4000000 in
set_option maxRecDepth 100000 in
theorem s_X0_readEither_B_12 {m : Int} {N : Nat} {K len : Nat → Nat} {R : Int32 → SG → RG → Option (Int32 × SG)} {a1 : Int32} {ρ : RG} {d : Nat} (hR : ∀ (a1 : Int32) (σ : SG), rg a1 (0) (5) → (5 : Int) - a1.toInt < (d : Int) → BX m σ → ok (R a1 σ ρ) (fun q => rg q.1 (0) (1) ∧ BX m q.2)) (r_a1 : rg a1 (0) (5)) (hQ : PR N K len ρ) : ∀ (n : Nat) (σ : SG) (v1 : Int32) (v2 : Int32), rg v1 (0) (5) → rg v2 (0) (100) → (100 : Int) - v2.toInt < (n : Int) → (5 : Int) - v1.toInt < (d : Int) → BX m σ → ok (F_X0_readEither_B_12 R a1 n σ ρ v1 v2) (fun q => rg q.1 (0) (1) ∧ BX m q.2) := by
  intro n
  induction n with
  | zero => intro σ v1 v2 r_v1 r_v2 hm hmR hB; exact (ms_z r_v2 (by decide) hm).elim
  | succ n ih =>
    intro σ v1 v2 r_v1 r_v2 hm hmR hB
    unfold F_X0_readEither_B_12
    refine ok_if (fun c_2638 => ?_) (fun c_2638 => ?_)
    · exact ok_some ⟨(rg_w (show rg (1 : Int32) (1) (1) from ⟨by decide, by decide⟩) (by decide) (by decide)), hB⟩
    · refine ok_bn (s_X0_next hB hQ) (fun r4_2639 qr4_2639 => ?_)
      refine ok_if (fun c_2640 => ?_) (fun c_2640 => ?_)
      · refine ok_nm (fun x6_2641 hx6_2641 => ?_)
        refine ok_nm (fun σ8_2642 hσ8_2642 => ?_)
        have bσ8_2642 : BX m σ8_2642 := by rw [hσ8_2642]; exact bx_set hB (rg_any _) (by decide)
        refine ok_bn2 (s_X0_readBoth_B hR hmR r_v1 bσ8_2642 hQ) (fun r9_2643 σ9_2644 qr9_2643 => ?_)
        obtain ⟨hr9_2643, bσ9_2644⟩ := qr9_2643
        refine ok_if (fun c_2645 => ?_) (fun c_2645 => ?_)
        · exact ok_some ⟨(rg_w (show rg (0 : Int32) (0) (0) from ⟨by decide, by decide⟩) (by decide) (by decide)), bσ9_2644⟩
        · refine ok_bn2 (s_X0_put bσ9_2644 hQ) (fun r11_2646 σ11_2647 qr11_2646 => ?_)
          obtain ⟨hr11_2646, bσ11_2647⟩ := qr11_2646
          refine ok_if (fun c_2648 => ?_) (fun c_2648 => ?_)
          · exact ok_some ⟨(rg_w (show rg (0 : Int32) (0) (0) from ⟨by decide, by decide⟩) (by decide) (by decide)), bσ11_2647⟩
          · refine ok_nm (fun x13_2649 hx13_2649 => ?_)
            exact ih _ _ _ r_v1 (rg_w (rg_eq hx13_2649 (rg_add (l := 1) (h := 100) (rg_lt (nle c_2638) r_v2 (show rg (100 : Int32) (100) (100) from ⟨by decide, by decide⟩)) (show rg (1 : Int32) (1) (1) from ⟨by decide, by decide⟩) (by decide) (by decide) (by decide) (by decide))) (by decide) (by decide)) (ms_s hx13_2649 (rg_lt (nle c_2638) r_v2 (show rg (100 : Int32) (100) (100) from ⟨by decide, by decide⟩)) (by decide) (by decide) hm) hmR bσ11_2647
      · exact ok_some ⟨(rg_w (show rg (1 : Int32) (1) (1) from ⟨by decide, by decide⟩) (by decide) (by decide)), hB⟩

set_option maxHeartbeats 4000000 in
set_option maxRecDepth 100000 in
theorem s_X0_readEither_B {m : Int} {N : Nat} {K len : Nat → Nat} {R : Int32 → SG → RG → Option (Int32 × SG)} {a1 : Int32} {σ : SG} {ρ : RG} {d : Nat} (hR : ∀ (a1 : Int32) (σ : SG), rg a1 (0) (5) → (5 : Int) - a1.toInt < (d : Int) → BX m σ → ok (R a1 σ ρ) (fun q => rg q.1 (0) (1) ∧ BX m q.2)) (hmR : (5 : Int) - a1.toInt < (d : Int)) (r_a1 : rg a1 (0) (5)) (hB : BX m σ) (hQ : PR N K len ρ) : ok (F_X0_readEither_B R a1 σ ρ) (fun q => rg q.1 (0) (1) ∧ BX m q.2) := by
  unfold F_X0_readEither_B
  refine ok_bn2 (s_X0_readBoth_B hR hmR r_a1 hB hQ) (fun r1_2650 σ1_2651 qr1_2650 => ?_)
  obtain ⟨hr1_2650, bσ1_2651⟩ := qr1_2650
  refine ok_if (fun c_2652 => ?_) (fun c_2652 => ?_)
  · exact ok_some ⟨(rg_w (show rg (0 : Int32) (0) (0) from ⟨by decide, by decide⟩) (by decide) (by decide)), bσ1_2651⟩
  · exact (s_X0_readEither_B_12 hR r_a1 hQ 1024 _ _ _ r_a1 (rg_w (show rg (0 : Int32) (0) (0) from ⟨by decide, by decide⟩) (by decide) (by decide)) (ms_0 (show rg (0 : Int32) (0) (0) from ⟨by decide, by decide⟩) (by decide)) hmR bσ1_2651)

set_option maxHeartbeats 4000000 in
set_option maxRecDepth 100000 in
theorem s_X0_readFactor_B {m : Int} {N : Nat} {K len : Nat → Nat} {R : Int32 → SG → RG → Option (Int32 × SG)} {a1 : Int32} {σ : SG} {ρ : RG} {d : Nat} (hR : ∀ (a1 : Int32) (σ : SG), rg a1 (0) (5) → (5 : Int) - a1.toInt < (d : Int) → BX m σ → ok (R a1 σ ρ) (fun q => rg q.1 (0) (1) ∧ BX m q.2)) (hmR : (5 : Int) - a1.toInt < ((d + 1 : Nat) : Int)) (r_a1 : rg a1 (0) (5)) (hB : BX m σ) (hQ : PR N K len ρ) : ok (F_X0_readFactor_B R a1 σ ρ) (fun q => rg q.1 (0) (1) ∧ BX m q.2) := by
  unfold F_X0_readFactor_B
  refine ok_bn (s_X0_next hB hQ) (fun r1_2694 qr1_2694 => ?_)
  refine ok_if (fun c_2695 => ?_) (fun c_2695 => ?_)
  · unfold F_X0_readFactor_B_22
    refine ok_if (fun c_2696 => ?_) (fun c_2696 => ?_)
    · refine ok_nm (fun x4_2697 hx4_2697 => ?_)
      refine ok_nm (fun σ6_2698 hσ6_2698 => ?_)
      have bσ6_2698 : BX m σ6_2698 := by rw [hσ6_2698]; exact bx_set hB (rg_any _) (by decide)
      refine ok_if (fun c_2699 => ?_) (fun c_2699 => ?_)
      · refine ok_nm (fun x13_2700 hx13_2700 => ?_)
        refine ok_bn2 (hR _ _ (rg_w (rg_eq hx13_2700 (rg_add (l := 1) (h := 5) (rg_lt c_2696 r_a1 (show rg (5 : Int32) (5) (5) from ⟨by decide, by decide⟩)) (show rg (1 : Int32) (1) (1) from ⟨by decide, by decide⟩) (by decide) (by decide) (by decide) (by decide))) (by decide) (by decide)) (ms_s hx13_2700 (rg_lt c_2696 r_a1 (show rg (5 : Int32) (5) (5) from ⟨by decide, by decide⟩)) (by decide) (by decide) hmR) bσ6_2698) (fun r14_2701 σ14_2702 qr14_2701 => ?_)
        obtain ⟨hr14_2701, bσ14_2702⟩ := qr14_2701
        refine ok_if (fun c_2703 => ?_) (fun c_2703 => ?_)
        · exact ok_some ⟨(rg_w (show rg (0 : Int32) (0) (0) from ⟨by decide, by decide⟩) (by decide) (by decide)), bσ14_2702⟩
        · refine ok_bn2 (s_X0_put bσ14_2702 hQ) (fun r16_2704 σ16_2705 qr16_2704 => ?_)
          obtain ⟨hr16_2704, bσ16_2705⟩ := qr16_2704
          refine ok_if (fun c_2706 => ?_) (fun c_2706 => ?_)
          · exact ok_some ⟨(rg_w (show rg (0 : Int32) (0) (0) from ⟨by decide, by decide⟩) (by decide) (by decide)), bσ16_2705⟩
          · exact ok_some ⟨(rg_w (show rg (1 : Int32) (1) (1) from ⟨by decide, by decide⟩) (by decide) (by decide)), bσ16_2705⟩
      · refine ok_nm (fun x8_2707 hx8_2707 => ?_)
        refine ok_bn2 (s_X0_readEither_B hR (ms_s hx8_2707 (rg_lt c_2696 r_a1 (show rg (5 : Int32) (5) (5) from ⟨by decide, by decide⟩)) (by decide) (by decide) hmR) (rg_w (rg_eq hx8_2707 (rg_add (l := 1) (h := 5) (rg_lt c_2696 r_a1 (show rg (5 : Int32) (5) (5) from ⟨by decide, by decide⟩)) (show rg (1 : Int32) (1) (1) from ⟨by decide, by decide⟩) (by decide) (by decide) (by decide) (by decide))) (by decide) (by decide)) bσ6_2698 hQ) (fun r9_2708 σ9_2709 qr9_2708 => ?_)
        obtain ⟨hr9_2708, bσ9_2709⟩ := qr9_2708
        refine ok_if (fun c_2710 => ?_) (fun c_2710 => ?_)
        · exact ok_some ⟨(rg_w (show rg (0 : Int32) (0) (0) from ⟨by decide, by decide⟩) (by decide) (by decide)), bσ9_2709⟩
        · refine ok_bn2 (s_X0_readSign bσ9_2709 hQ) (fun r11_2711 σ11_2712 qr11_2711 => ?_)
          obtain ⟨hr11_2711, bσ11_2712⟩ := qr11_2711
          refine ok_if (fun c_2713 => ?_) (fun c_2713 => ?_)
          · exact ok_some ⟨(rg_w (show rg (0 : Int32) (0) (0) from ⟨by decide, by decide⟩) (by decide) (by decide)), bσ11_2712⟩
          · exact ok_some ⟨(rg_w (show rg (1 : Int32) (1) (1) from ⟨by decide, by decide⟩) (by decide) (by decide)), bσ11_2712⟩
    · exact ok_some ⟨(rg_w (show rg (0 : Int32) (0) (0) from ⟨by decide, by decide⟩) (by decide) (by decide)), hB⟩
  · refine ok_if (fun c_2714 => ?_) (fun c_2714 => ?_)
    · unfold F_X0_readFactor_B_22
      refine ok_if (fun c_2715 => ?_) (fun c_2715 => ?_)
      · refine ok_nm (fun x4_2716 hx4_2716 => ?_)
        refine ok_nm (fun σ6_2717 hσ6_2717 => ?_)
        have bσ6_2717 : BX m σ6_2717 := by rw [hσ6_2717]; exact bx_set hB (rg_any _) (by decide)
        refine ok_if (fun c_2718 => ?_) (fun c_2718 => ?_)
        · refine ok_nm (fun x13_2719 hx13_2719 => ?_)
          refine ok_bn2 (hR _ _ (rg_w (rg_eq hx13_2719 (rg_add (l := 1) (h := 5) (rg_lt c_2715 r_a1 (show rg (5 : Int32) (5) (5) from ⟨by decide, by decide⟩)) (show rg (1 : Int32) (1) (1) from ⟨by decide, by decide⟩) (by decide) (by decide) (by decide) (by decide))) (by decide) (by decide)) (ms_s hx13_2719 (rg_lt c_2715 r_a1 (show rg (5 : Int32) (5) (5) from ⟨by decide, by decide⟩)) (by decide) (by decide) hmR) bσ6_2717) (fun r14_2720 σ14_2721 qr14_2720 => ?_)
          obtain ⟨hr14_2720, bσ14_2721⟩ := qr14_2720
          refine ok_if (fun c_2722 => ?_) (fun c_2722 => ?_)
          · exact ok_some ⟨(rg_w (show rg (0 : Int32) (0) (0) from ⟨by decide, by decide⟩) (by decide) (by decide)), bσ14_2721⟩
          · refine ok_bn2 (s_X0_put bσ14_2721 hQ) (fun r16_2723 σ16_2724 qr16_2723 => ?_)
            obtain ⟨hr16_2723, bσ16_2724⟩ := qr16_2723
            refine ok_if (fun c_2725 => ?_) (fun c_2725 => ?_)
            · exact ok_some ⟨(rg_w (show rg (0 : Int32) (0) (0) from ⟨by decide, by decide⟩) (by decide) (by decide)), bσ16_2724⟩
            · exact ok_some ⟨(rg_w (show rg (1 : Int32) (1) (1) from ⟨by decide, by decide⟩) (by decide) (by decide)), bσ16_2724⟩
        · refine ok_nm (fun x8_2726 hx8_2726 => ?_)
          refine ok_bn2 (s_X0_readEither_B hR (ms_s hx8_2726 (rg_lt c_2715 r_a1 (show rg (5 : Int32) (5) (5) from ⟨by decide, by decide⟩)) (by decide) (by decide) hmR) (rg_w (rg_eq hx8_2726 (rg_add (l := 1) (h := 5) (rg_lt c_2715 r_a1 (show rg (5 : Int32) (5) (5) from ⟨by decide, by decide⟩)) (show rg (1 : Int32) (1) (1) from ⟨by decide, by decide⟩) (by decide) (by decide) (by decide) (by decide))) (by decide) (by decide)) bσ6_2717 hQ) (fun r9_2727 σ9_2728 qr9_2727 => ?_)
          obtain ⟨hr9_2727, bσ9_2728⟩ := qr9_2727
          refine ok_if (fun c_2729 => ?_) (fun c_2729 => ?_)
          · exact ok_some ⟨(rg_w (show rg (0 : Int32) (0) (0) from ⟨by decide, by decide⟩) (by decide) (by decide)), bσ9_2728⟩
          · refine ok_bn2 (s_X0_readSign bσ9_2728 hQ) (fun r11_2730 σ11_2731 qr11_2730 => ?_)
            obtain ⟨hr11_2730, bσ11_2731⟩ := qr11_2730
            refine ok_if (fun c_2732 => ?_) (fun c_2732 => ?_)
            · exact ok_some ⟨(rg_w (show rg (0 : Int32) (0) (0) from ⟨by decide, by decide⟩) (by decide) (by decide)), bσ11_2731⟩
            · exact ok_some ⟨(rg_w (show rg (1 : Int32) (1) (1) from ⟨by decide, by decide⟩) (by decide) (by decide)), bσ11_2731⟩
      · exact ok_some ⟨(rg_w (show rg (0 : Int32) (0) (0) from ⟨by decide, by decide⟩) (by decide) (by decide)), hB⟩
    · refine ok_bn2 (s_X0_readTest hB hQ) (fun r19_2733 σ19_2734 qr19_2733 => ?_)
      obtain ⟨hr19_2733, bσ19_2734⟩ := qr19_2733
      refine ok_gd (rg_isb (rg_w hr19_2733 (by decide) (by decide))) ?_
      exact ok_some ⟨hr19_2733, bσ19_2734⟩

theorem s_X0_readFactor_R {m : Int} {N : Nat} {K len : Nat → Nat} {ρ : RG} (hQ : PR N K len ρ) : ∀ (d : Nat), ∀ (a1 : Int32) (σ : SG), rg a1 (0) (5) → (5 : Int) - a1.toInt < (d : Int) → BX m σ → ok (F_X0_readFactor_R d a1 σ ρ) (fun q => rg q.1 (0) (1) ∧ BX m q.2) := by
  intro d
  induction d with
  | zero => intro a1 σ r_a1 hm hB; exact (ms_z r_a1 (by decide) hm).elim
  | succ d ih =>
    intro a1 σ r_a1 hm hB
    exact s_X0_readFactor_B ih hm r_a1 hB hQ

theorem s_X0_readFactor {m : Int} {N : Nat} {K len : Nat → Nat} {a1 : Int32} {σ : SG} {ρ : RG} (r_a1 : rg a1 (0) (5)) (hB : BX m σ) (hQ : PR N K len ρ) : ok (F_X0_readFactor a1 σ ρ) (fun q => rg q.1 (0) (1) ∧ BX m q.2) :=
  s_X0_readFactor_R hQ 8 _ _ r_a1 (ms_0 r_a1 (by decide)) hB

set_option maxHeartbeats 4000000 in
set_option maxRecDepth 100000 in
theorem s_X0_readBoth_12 {m : Int} {N : Nat} {K len : Nat → Nat} {a1 : Int32} {ρ : RG} (r_a1 : rg a1 (0) (5)) (hQ : PR N K len ρ) : ∀ (n : Nat) (σ : SG) (v1 : Int32) (v2 : Int32), rg v1 (0) (5) → rg v2 (0) (100) → (100 : Int) - v2.toInt < (n : Int) → BX m σ → ok (F_X0_readBoth_12 a1 n σ ρ v1 v2) (fun q => rg q.1 (0) (1) ∧ BX m q.2) := by
  intro n
  induction n with
  | zero => intro σ v1 v2 r_v1 r_v2 hm hB; exact (ms_z r_v2 (by decide) hm).elim
  | succ n ih =>
    intro σ v1 v2 r_v1 r_v2 hm hB
    unfold F_X0_readBoth_12
    refine ok_if (fun c_2750 => ?_) (fun c_2750 => ?_)
    · exact ok_some ⟨(rg_w (show rg (1 : Int32) (1) (1) from ⟨by decide, by decide⟩) (by decide) (by decide)), hB⟩
    · refine ok_bn (s_X0_next hB hQ) (fun r4_2751 qr4_2751 => ?_)
      refine ok_if (fun c_2752 => ?_) (fun c_2752 => ?_)
      · refine ok_nm (fun x6_2753 hx6_2753 => ?_)
        refine ok_nm (fun σ8_2754 hσ8_2754 => ?_)
        have bσ8_2754 : BX m σ8_2754 := by rw [hσ8_2754]; exact bx_set hB (rg_any _) (by decide)
        refine ok_bn2 (s_X0_readFactor r_v1 bσ8_2754 hQ) (fun r9_2755 σ9_2756 qr9_2755 => ?_)
        obtain ⟨hr9_2755, bσ9_2756⟩ := qr9_2755
        refine ok_if (fun c_2757 => ?_) (fun c_2757 => ?_)
        · exact ok_some ⟨(rg_w (show rg (0 : Int32) (0) (0) from ⟨by decide, by decide⟩) (by decide) (by decide)), bσ9_2756⟩
        · refine ok_bn2 (s_X0_put bσ9_2756 hQ) (fun r11_2758 σ11_2759 qr11_2758 => ?_)
          obtain ⟨hr11_2758, bσ11_2759⟩ := qr11_2758
          refine ok_if (fun c_2760 => ?_) (fun c_2760 => ?_)
          · exact ok_some ⟨(rg_w (show rg (0 : Int32) (0) (0) from ⟨by decide, by decide⟩) (by decide) (by decide)), bσ11_2759⟩
          · refine ok_nm (fun x13_2761 hx13_2761 => ?_)
            exact ih _ _ _ r_v1 (rg_w (rg_eq hx13_2761 (rg_add (l := 1) (h := 100) (rg_lt (nle c_2750) r_v2 (show rg (100 : Int32) (100) (100) from ⟨by decide, by decide⟩)) (show rg (1 : Int32) (1) (1) from ⟨by decide, by decide⟩) (by decide) (by decide) (by decide) (by decide))) (by decide) (by decide)) (ms_s hx13_2761 (rg_lt (nle c_2750) r_v2 (show rg (100 : Int32) (100) (100) from ⟨by decide, by decide⟩)) (by decide) (by decide) hm) bσ11_2759
      · exact ok_some ⟨(rg_w (show rg (1 : Int32) (1) (1) from ⟨by decide, by decide⟩) (by decide) (by decide)), hB⟩

set_option maxHeartbeats 4000000 in
set_option maxRecDepth 100000 in
theorem s_X0_readBoth {m : Int} {N : Nat} {K len : Nat → Nat} {a1 : Int32} {σ : SG} {ρ : RG} (r_a1 : rg a1 (0) (5)) (hB : BX m σ) (hQ : PR N K len ρ) : ok (F_X0_readBoth a1 σ ρ) (fun q => rg q.1 (0) (1) ∧ BX m q.2) := by
  unfold F_X0_readBoth
  refine ok_bn2 (s_X0_readFactor r_a1 hB hQ) (fun r1_2762 σ1_2763 qr1_2762 => ?_)
  obtain ⟨hr1_2762, bσ1_2763⟩ := qr1_2762
  refine ok_if (fun c_2764 => ?_) (fun c_2764 => ?_)
  · exact ok_some ⟨(rg_w (show rg (0 : Int32) (0) (0) from ⟨by decide, by decide⟩) (by decide) (by decide)), bσ1_2763⟩
  · exact (s_X0_readBoth_12 r_a1 hQ 1024 _ _ _ r_a1 (rg_w (show rg (0 : Int32) (0) (0) from ⟨by decide, by decide⟩) (by decide) (by decide)) (ms_0 (show rg (0 : Int32) (0) (0) from ⟨by decide, by decide⟩) (by decide)) bσ1_2763)

set_option maxHeartbeats 4000000 in
set_option maxRecDepth 100000 in
theorem s_X0_readEither_12 {m : Int} {N : Nat} {K len : Nat → Nat} {a1 : Int32} {ρ : RG} (r_a1 : rg a1 (0) (5)) (hQ : PR N K len ρ) : ∀ (n : Nat) (σ : SG) (v1 : Int32) (v2 : Int32), rg v1 (0) (5) → rg v2 (0) (100) → (100 : Int) - v2.toInt < (n : Int) → BX m σ → ok (F_X0_readEither_12 a1 n σ ρ v1 v2) (fun q => rg q.1 (0) (1) ∧ BX m q.2) := by
  intro n
  induction n with
  | zero => intro σ v1 v2 r_v1 r_v2 hm hB; exact (ms_z r_v2 (by decide) hm).elim
  | succ n ih =>
    intro σ v1 v2 r_v1 r_v2 hm hB
    unfold F_X0_readEither_12
    refine ok_if (fun c_2780 => ?_) (fun c_2780 => ?_)
    · exact ok_some ⟨(rg_w (show rg (1 : Int32) (1) (1) from ⟨by decide, by decide⟩) (by decide) (by decide)), hB⟩
    · refine ok_bn (s_X0_next hB hQ) (fun r4_2781 qr4_2781 => ?_)
      refine ok_if (fun c_2782 => ?_) (fun c_2782 => ?_)
      · refine ok_nm (fun x6_2783 hx6_2783 => ?_)
        refine ok_nm (fun σ8_2784 hσ8_2784 => ?_)
        have bσ8_2784 : BX m σ8_2784 := by rw [hσ8_2784]; exact bx_set hB (rg_any _) (by decide)
        refine ok_bn2 (s_X0_readBoth r_v1 bσ8_2784 hQ) (fun r9_2785 σ9_2786 qr9_2785 => ?_)
        obtain ⟨hr9_2785, bσ9_2786⟩ := qr9_2785
        refine ok_if (fun c_2787 => ?_) (fun c_2787 => ?_)
        · exact ok_some ⟨(rg_w (show rg (0 : Int32) (0) (0) from ⟨by decide, by decide⟩) (by decide) (by decide)), bσ9_2786⟩
        · refine ok_bn2 (s_X0_put bσ9_2786 hQ) (fun r11_2788 σ11_2789 qr11_2788 => ?_)
          obtain ⟨hr11_2788, bσ11_2789⟩ := qr11_2788
          refine ok_if (fun c_2790 => ?_) (fun c_2790 => ?_)
          · exact ok_some ⟨(rg_w (show rg (0 : Int32) (0) (0) from ⟨by decide, by decide⟩) (by decide) (by decide)), bσ11_2789⟩
          · refine ok_nm (fun x13_2791 hx13_2791 => ?_)
            exact ih _ _ _ r_v1 (rg_w (rg_eq hx13_2791 (rg_add (l := 1) (h := 100) (rg_lt (nle c_2780) r_v2 (show rg (100 : Int32) (100) (100) from ⟨by decide, by decide⟩)) (show rg (1 : Int32) (1) (1) from ⟨by decide, by decide⟩) (by decide) (by decide) (by decide) (by decide))) (by decide) (by decide)) (ms_s hx13_2791 (rg_lt (nle c_2780) r_v2 (show rg (100 : Int32) (100) (100) from ⟨by decide, by decide⟩)) (by decide) (by decide) hm) bσ11_2789
      · exact ok_some ⟨(rg_w (show rg (1 : Int32) (1) (1) from ⟨by decide, by decide⟩) (by decide) (by decide)), hB⟩

set_option maxHeartbeats 4000000 in
set_option maxRecDepth 100000 in
theorem s_X0_readEither {m : Int} {N : Nat} {K len : Nat → Nat} {a1 : Int32} {σ : SG} {ρ : RG} (r_a1 : rg a1 (0) (5)) (hB : BX m σ) (hQ : PR N K len ρ) : ok (F_X0_readEither a1 σ ρ) (fun q => rg q.1 (0) (1) ∧ BX m q.2) := by
  unfold F_X0_readEither
  refine ok_bn2 (s_X0_readBoth r_a1 hB hQ) (fun r1_2792 σ1_2793 qr1_2792 => ?_)
  obtain ⟨hr1_2792, bσ1_2793⟩ := qr1_2792
  refine ok_if (fun c_2794 => ?_) (fun c_2794 => ?_)
  · exact ok_some ⟨(rg_w (show rg (0 : Int32) (0) (0) from ⟨by decide, by decide⟩) (by decide) (by decide)), bσ1_2793⟩
  · exact (s_X0_readEither_12 r_a1 hQ 1024 _ _ _ r_a1 (rg_w (show rg (0 : Int32) (0) (0) from ⟨by decide, by decide⟩) (by decide) (by decide)) (ms_0 (show rg (0 : Int32) (0) (0) from ⟨by decide, by decide⟩) (by decide)) bσ1_2793)

set_option maxHeartbeats 4000000 in
set_option maxRecDepth 100000 in
theorem s_X0_readAdding {m : Int} {N : Nat} {K len : Nat → Nat} {a1 : Int32} {σ : SG} {ρ : RG} (r_a1 : rg a1 (0) (1)) (hB : BX m σ) (hQ : PR N K len ρ) : ok (F_X0_readAdding a1 σ ρ) (fun q => rg q.1 (0) (1) ∧ BX m q.2) := by
  unfold F_X0_readAdding
  refine ok_bn2 (s_X0_readNumber hB hQ) (fun r1_2810 σ1_2811 qr1_2810 => ?_)
  obtain ⟨hr1_2810, bσ1_2811⟩ := qr1_2810
  refine ok_if (fun c_2812 => ?_) (fun c_2812 => ?_)
  · exact ok_some ⟨(rg_w (show rg (0 : Int32) (0) (0) from ⟨by decide, by decide⟩) (by decide) (by decide)), bσ1_2811⟩
  · refine ok_bn2 (s_X0_readSign bσ1_2811 hQ) (fun r3_2813 σ3_2814 qr3_2813 => ?_)
    obtain ⟨hr3_2813, bσ3_2814⟩ := qr3_2813
    refine ok_if (fun c_2815 => ?_) (fun c_2815 => ?_)
    · exact ok_some ⟨(rg_w (show rg (0 : Int32) (0) (0) from ⟨by decide, by decide⟩) (by decide) (by decide)), bσ3_2814⟩
    · refine ok_bn2 (s_X0_readEither (rg_w (show rg (0 : Int32) (0) (0) from ⟨by decide, by decide⟩) (by decide) (by decide)) bσ3_2814 hQ) (fun r5_2816 σ5_2817 qr5_2816 => ?_)
      obtain ⟨hr5_2816, bσ5_2817⟩ := qr5_2816
      refine ok_if (fun c_2818 => ?_) (fun c_2818 => ?_)
      · exact ok_some ⟨(rg_w (show rg (0 : Int32) (0) (0) from ⟨by decide, by decide⟩) (by decide) (by decide)), bσ5_2817⟩
      · refine ok_if (fun c_2819 => ?_) (fun c_2819 => ?_)
        · refine ok_gd (rg_inb (rg_lt c_2819 (bx_get bσ5_2817 (r := 29) (a := 2) (b := 2) (k := 2) (l := 0) (h := 10) (by decide) (by decide) (by decide)) (show rg (10 : Int32) (10) (10) from ⟨by decide, by decide⟩)) (by decide) (by decide)) ?_
          refine ok_gd (rg_isb (rg_w r_a1 (by decide) (by decide))) ?_
          refine ok_nm (fun σ10_2820 hσ10_2820 => ?_)
          have bσ10_2820 : BX m σ10_2820 := by rw [hσ10_2820]; exact bx_setx bσ5_2817 (a := 0) (b := 9) (rg_lt c_2819 (bx_get bσ5_2817 (r := 29) (a := 2) (b := 2) (k := 2) (l := 0) (h := 10) (by decide) (by decide) (by decide)) (show rg (10 : Int32) (10) (10) from ⟨by decide, by decide⟩)) r_a1 (by decide)
          refine ok_gd (rg_inb (rg_eq (s2_o hσ10_2820 (by decide)) (rg_lt c_2819 (bx_get bσ5_2817 (r := 29) (a := 2) (b := 2) (k := 2) (l := 0) (h := 10) (by decide) (by decide) (by decide)) (show rg (10 : Int32) (10) (10) from ⟨by decide, by decide⟩))) (by decide) (by decide)) ?_
          refine ok_nm (fun σ13_2821 hσ13_2821 => ?_)
          have bσ13_2821 : BX m σ13_2821 := by rw [hσ13_2821]; exact bx_far bσ10_2820 (by decide) (by decide) (by decide) (by decide)
          refine ok_gd (rg_inb (rg_eq (s2_o hσ13_2821 (by decide)) (rg_eq (s2_o hσ10_2820 (by decide)) (rg_lt c_2819 (bx_get bσ5_2817 (r := 29) (a := 2) (b := 2) (k := 2) (l := 0) (h := 10) (by decide) (by decide) (by decide)) (show rg (10 : Int32) (10) (10) from ⟨by decide, by decide⟩)))) (by decide) (by decide)) ?_
          refine ok_nm (fun σ16_2822 hσ16_2822 => ?_)
          have bσ16_2822 : BX m σ16_2822 := by rw [hσ16_2822]; exact bx_setx bσ13_2821 (a := 0) (b := 9) (rg_eq (s2_o hσ13_2821 (by decide)) (rg_eq (s2_o hσ10_2820 (by decide)) (rg_lt c_2819 (bx_get bσ5_2817 (r := 29) (a := 2) (b := 2) (k := 2) (l := 0) (h := 10) (by decide) (by decide) (by decide)) (show rg (10 : Int32) (10) (10) from ⟨by decide, by decide⟩)))) (bx_get bσ13_2821 (r := 29) (a := 7) (b := 7) (k := 7) (l := 0) (h := 100) (by decide) (by decide) (by decide)) (by decide)
          refine ok_nm (fun x17_2823 hx17_2823 => ?_)
          refine ok_nm (fun σ19_2824 hσ19_2824 => ?_)
          have bσ19_2824 : BX m σ19_2824 := by rw [hσ19_2824]; exact bx_set bσ16_2822 (rg_eq hx17_2823 (rg_add (l := 1) (h := 10) (rg_eq (s2_o hσ16_2822 (by decide)) (rg_eq (s2_o hσ13_2821 (by decide)) (rg_eq (s2_o hσ10_2820 (by decide)) (rg_lt c_2819 (bx_get bσ5_2817 (r := 29) (a := 2) (b := 2) (k := 2) (l := 0) (h := 10) (by decide) (by decide) (by decide)) (show rg (10 : Int32) (10) (10) from ⟨by decide, by decide⟩))))) (show rg (1 : Int32) (1) (1) from ⟨by decide, by decide⟩) (by decide) (by decide) (by decide) (by decide))) (by decide)
          exact ok_some ⟨(rg_w (show rg (1 : Int32) (1) (1) from ⟨by decide, by decide⟩) (by decide) (by decide)), bσ19_2824⟩
        · exact ok_some ⟨(rg_w (show rg (0 : Int32) (0) (0) from ⟨by decide, by decide⟩) (by decide) (by decide)), bσ5_2817⟩

set_option maxHeartbeats 4000000 in
set_option maxRecDepth 100000 in
theorem s_X0_readClause {m : Int} {N : Nat} {K len : Nat → Nat} {σ : SG} {ρ : RG} (hB : BX m σ) (hQ : PR N K len ρ) : ok (F_X0_readClause σ ρ) (fun q => rg q.1 (0) (1) ∧ BX m q.2) := by
  unfold F_X0_readClause
  refine ok_bn (s_X0_next hB hQ) (fun r1_2856 qr1_2856 => ?_)
  refine ok_if (fun c_2857 => ?_) (fun c_2857 => ?_)
  · refine ok_bn2 (s_X0_readWord (by decide) hB hQ) (fun r3_2858 σ3_2859 qr3_2858 => ?_)
    obtain ⟨hr3_2858, bσ3_2859⟩ := qr3_2858
    refine ok_if (fun c_2860 => ?_) (fun c_2860 => ?_)
    · exact ok_some ⟨(rg_w (show rg (0 : Int32) (0) (0) from ⟨by decide, by decide⟩) (by decide) (by decide)), bσ3_2859⟩
    · refine ok_bn2 (s_X0_readNumber bσ3_2859 hQ) (fun r5_2861 σ5_2862 qr5_2861 => ?_)
      obtain ⟨hr5_2861, bσ5_2862⟩ := qr5_2861
      refine ok_if (fun c_2863 => ?_) (fun c_2863 => ?_)
      · exact ok_some ⟨(rg_w (show rg (0 : Int32) (0) (0) from ⟨by decide, by decide⟩) (by decide) (by decide)), bσ5_2862⟩
      · refine ok_nm (fun σ8_2864 hσ8_2864 => ?_)
        have bσ8_2864 : BX m σ8_2864 := by rw [hσ8_2864]; exact bx_set bσ5_2862 (rg_any _) (by decide)
        exact ok_some ⟨(rg_w (show rg (1 : Int32) (1) (1) from ⟨by decide, by decide⟩) (by decide) (by decide)), bσ8_2864⟩
  · refine ok_if (fun c_2865 => ?_) (fun c_2865 => ?_)
    · refine ok_bn2 (s_X0_readWord (by decide) hB hQ) (fun r9_2866 σ9_2867 qr9_2866 => ?_)
      obtain ⟨hr9_2866, bσ9_2867⟩ := qr9_2866
      refine ok_if (fun c_2868 => ?_) (fun c_2868 => ?_)
      · exact ok_some ⟨(rg_w (show rg (0 : Int32) (0) (0) from ⟨by decide, by decide⟩) (by decide) (by decide)), bσ9_2867⟩
      · refine ok_bn2 (s_X0_readAdding (rg_w (show rg (1 : Int32) (1) (1) from ⟨by decide, by decide⟩) (by decide) (by decide)) bσ9_2867 hQ) (fun r11_2869 σ11_2870 qr11_2869 => ?_)
        obtain ⟨hr11_2869, bσ11_2870⟩ := qr11_2869
        refine ok_if (fun c_2871 => ?_) (fun c_2871 => ?_)
        · exact ok_some ⟨(rg_w (show rg (0 : Int32) (0) (0) from ⟨by decide, by decide⟩) (by decide) (by decide)), bσ11_2870⟩
        · exact ok_some ⟨(rg_w (show rg (1 : Int32) (1) (1) from ⟨by decide, by decide⟩) (by decide) (by decide)), bσ11_2870⟩
    · refine ok_if (fun c_2872 => ?_) (fun c_2872 => ?_)
      · refine ok_bn2 (s_X0_readWord (by decide) hB hQ) (fun r13_2873 σ13_2874 qr13_2873 => ?_)
        obtain ⟨hr13_2873, bσ13_2874⟩ := qr13_2873
        refine ok_if (fun c_2875 => ?_) (fun c_2875 => ?_)
        · exact ok_some ⟨(rg_w (show rg (0 : Int32) (0) (0) from ⟨by decide, by decide⟩) (by decide) (by decide)), bσ13_2874⟩
        · refine ok_bn2 (s_X0_readAdding (rg_w (show rg (0 : Int32) (0) (0) from ⟨by decide, by decide⟩) (by decide) (by decide)) bσ13_2874 hQ) (fun r15_2876 σ15_2877 qr15_2876 => ?_)
          obtain ⟨hr15_2876, bσ15_2877⟩ := qr15_2876
          refine ok_if (fun c_2878 => ?_) (fun c_2878 => ?_)
          · exact ok_some ⟨(rg_w (show rg (0 : Int32) (0) (0) from ⟨by decide, by decide⟩) (by decide) (by decide)), bσ15_2877⟩
          · exact ok_some ⟨(rg_w (show rg (1 : Int32) (1) (1) from ⟨by decide, by decide⟩) (by decide) (by decide)), bσ15_2877⟩
      · refine ok_if (fun c_2879 => ?_) (fun c_2879 => ?_)
        · refine ok_bn2 (s_X0_readWord (by decide) hB hQ) (fun r17_2880 σ17_2881 qr17_2880 => ?_)
          obtain ⟨hr17_2880, bσ17_2881⟩ := qr17_2880
          refine ok_if (fun c_2882 => ?_) (fun c_2882 => ?_)
          · exact ok_some ⟨(rg_w (show rg (0 : Int32) (0) (0) from ⟨by decide, by decide⟩) (by decide) (by decide)), bσ17_2881⟩
          · refine ok_bn2 (s_X0_readNumber bσ17_2881 hQ) (fun r19_2883 σ19_2884 qr19_2883 => ?_)
            obtain ⟨hr19_2883, bσ19_2884⟩ := qr19_2883
            refine ok_if (fun c_2885 => ?_) (fun c_2885 => ?_)
            · exact ok_some ⟨(rg_w (show rg (0 : Int32) (0) (0) from ⟨by decide, by decide⟩) (by decide) (by decide)), bσ19_2884⟩
            · refine ok_nm (fun σ22_2886 hσ22_2886 => ?_)
              have bσ22_2886 : BX m σ22_2886 := by rw [hσ22_2886]; exact bx_set bσ19_2884 (rg_any _) (by decide)
              exact ok_some ⟨(rg_w (show rg (1 : Int32) (1) (1) from ⟨by decide, by decide⟩) (by decide) (by decide)), bσ22_2886⟩
        · exact ok_some ⟨(rg_w (show rg (0 : Int32) (0) (0) from ⟨by decide, by decide⟩) (by decide) (by decide)), hB⟩
