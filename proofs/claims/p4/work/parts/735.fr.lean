/-! PART 735.fr: printed by wip/gen/fr26.py -/
set_option maxHeartbeats 4000000 in
set_option maxRecDepth 100000 in
theorem f_X12_feed {m : Int} {a1 : Int32} {σ : SG} {ρ : RG} (hB : BX m σ) : ok (F_X12_feed a1 σ ρ) (fun q => rg q.1 (-4) (100) ∧ BX m q.2 ∧ q.2 55 11 = σ 55 11 ∧ q.2 55 13 = σ 55 13) := by
  unfold F_X12_feed
  refine ok_bn (s_X12_in) (fun r1_4972 qr1_4972 => ?_)
  refine ok_if (fun c_4973 => ?_) (fun c_4973 => ?_)
  · exact ok_some ⟨(rg_w (show rg (-2 : Int32) (-2) (-2) from ⟨by decide, by decide⟩) (by decide) (by decide)), hB, rfl, rfl⟩
  · obtain ⟨w_4974, w_4975⟩ := qr1_4972.2 c_4973
    refine ok_if (fun c_4976 => ?_) (fun c_4976 => ?_)
    · exact ok_some ⟨(rg_w (show rg (-4 : Int32) (-4) (-4) from ⟨by decide, by decide⟩) (by decide) (by decide)), hB, rfl, rfl⟩
    · refine ok_nm (fun x4_4977 hx4_4977 => ?_)
      refine ok_gd (rg_inb (rg_eq hx4_4977 (rg_add (l := 94) (h := 193) (show rg (94 : Int32) (94) (94) from ⟨by decide, by decide⟩) (rg_neh c_4976 (bx_get hB (r := 55) (a := 15) (b := 15) (k := 15) (l := 0) (h := 100) (by decide) (by decide) (by decide)) (show rg (100 : Int32) (100) (100) from ⟨by decide, by decide⟩) rfl) (by decide) (by decide) (by decide) (by decide))) (by decide) (by decide)) ?_
      refine ok_nm (fun σ7_4978 hσ7_4978 => ?_)
      have bσ7_4978 : BX m σ7_4978 := by rw [hσ7_4978]; exact bx_setx hB (a := 94) (b := 193) (rg_eq hx4_4977 (rg_add (l := 94) (h := 193) (show rg (94 : Int32) (94) (94) from ⟨by decide, by decide⟩) (rg_neh c_4976 (bx_get hB (r := 55) (a := 15) (b := 15) (k := 15) (l := 0) (h := 100) (by decide) (by decide) (by decide)) (show rg (100 : Int32) (100) (100) from ⟨by decide, by decide⟩) rfl) (by decide) (by decide) (by decide) (by decide))) (rg_any _) (by decide)
      refine ok_nm (fun x8_4979 hx8_4979 => ?_)
      refine ok_nm (fun σ10_4980 hσ10_4980 => ?_)
      have bσ10_4980 : BX m σ10_4980 := by rw [hσ10_4980]; exact bx_set bσ7_4978 (rg_eq hx8_4979 (rg_add (l := 1) (h := 100) (rg_eq (s2_kx hσ7_4978 (rg_eq hx4_4977 (rg_add (l := 94) (h := 193) (show rg (94 : Int32) (94) (94) from ⟨by decide, by decide⟩) (rg_neh c_4976 (bx_get hB (r := 55) (a := 15) (b := 15) (k := 15) (l := 0) (h := 100) (by decide) (by decide) (by decide)) (show rg (100 : Int32) (100) (100) from ⟨by decide, by decide⟩) rfl) (by decide) (by decide) (by decide) (by decide))) (by decide) (by decide)) (rg_neh c_4976 (bx_get hB (r := 55) (a := 15) (b := 15) (k := 15) (l := 0) (h := 100) (by decide) (by decide) (by decide)) (show rg (100 : Int32) (100) (100) from ⟨by decide, by decide⟩) rfl)) (show rg (1 : Int32) (1) (1) from ⟨by decide, by decide⟩) (by decide) (by decide) (by decide) (by decide))) (by decide)
      exact ok_some ⟨(rg_w (rg_eq (s2_v hσ10_4980) (rg_eq hx8_4979 (rg_add (l := 1) (h := 100) (rg_eq (s2_kx hσ7_4978 (rg_eq hx4_4977 (rg_add (l := 94) (h := 193) (show rg (94 : Int32) (94) (94) from ⟨by decide, by decide⟩) (rg_neh c_4976 (bx_get hB (r := 55) (a := 15) (b := 15) (k := 15) (l := 0) (h := 100) (by decide) (by decide) (by decide)) (show rg (100 : Int32) (100) (100) from ⟨by decide, by decide⟩) rfl) (by decide) (by decide) (by decide) (by decide))) (by decide) (by decide)) (rg_neh c_4976 (bx_get hB (r := 55) (a := 15) (b := 15) (k := 15) (l := 0) (h := 100) (by decide) (by decide) (by decide)) (show rg (100 : Int32) (100) (100) from ⟨by decide, by decide⟩) rfl)) (show rg (1 : Int32) (1) (1) from ⟨by decide, by decide⟩) (by decide) (by decide) (by decide) (by decide)))) (by decide) (by decide)), bσ10_4980, ((s2_k hσ10_4980 (by decide)).trans (s2_kx hσ7_4978 (rg_eq hx4_4977 (rg_add (l := 94) (h := 193) (show rg (94 : Int32) (94) (94) from ⟨by decide, by decide⟩) (rg_neh c_4976 (bx_get hB (r := 55) (a := 15) (b := 15) (k := 15) (l := 0) (h := 100) (by decide) (by decide) (by decide)) (show rg (100 : Int32) (100) (100) from ⟨by decide, by decide⟩) rfl) (by decide) (by decide) (by decide) (by decide))) (by decide) (by decide))), ((s2_k hσ10_4980 (by decide)).trans (s2_kx hσ7_4978 (rg_eq hx4_4977 (rg_add (l := 94) (h := 193) (show rg (94 : Int32) (94) (94) from ⟨by decide, by decide⟩) (rg_neh c_4976 (bx_get hB (r := 55) (a := 15) (b := 15) (k := 15) (l := 0) (h := 100) (by decide) (by decide) (by decide)) (show rg (100 : Int32) (100) (100) from ⟨by decide, by decide⟩) rfl) (by decide) (by decide) (by decide) (by decide))) (by decide) (by decide)))⟩

set_option maxHeartbeats 4000000 in
set_option maxRecDepth 100000 in
theorem f_X12_thick {m : Int} {a1 : Int32} {a2 : Int32} {σ : SG} {ρ : RG} (hB : BX m σ) : ok (F_X12_thick a1 a2 σ ρ) (fun q => rg q.1 (-2147483648) (2147483647) ∧ BX m q.2 ∧ q.2 55 11 = σ 55 11 ∧ q.2 55 13 = σ 55 13) := by
  unfold F_X12_thick
  refine ok_bn (s_X12_isCutter hB) (fun r1_4992 qr1_4992 => ?_)
  refine ok_if (fun c_4993 => ?_) (fun c_4993 => ?_)
  · exact ok_some ⟨(rg_w (show rg (-1 : Int32) (-1) (-1) from ⟨by decide, by decide⟩) (by decide) (by decide)), hB, rfl, rfl⟩
  · obtain ⟨w_4994, w_4995⟩ := qr1_4992.2 c_4993
    refine ok_bn (s_X12_in) (fun r3_4996 qr3_4996 => ?_)
    refine ok_if (fun c_4997 => ?_) (fun c_4997 => ?_)
    · exact ok_some ⟨(rg_w (show rg (-2 : Int32) (-2) (-2) from ⟨by decide, by decide⟩) (by decide) (by decide)), hB, rfl, rfl⟩
    · obtain ⟨w_4998, w_4999⟩ := qr3_4996.2 c_4997
      refine ok_nm (fun x5_5000 hx5_5000 => ?_)
      refine ok_gd (rg_inb (rg_eq hx5_5000 (rg_add (l := 44) (h := 49) (show rg (44 : Int32) (44) (44) from ⟨by decide, by decide⟩) (rg_le w_4995 (rg_ge w_4994 (show rg (0 : Int32) (0) (0) from ⟨by decide, by decide⟩) (rg_any _)) (show rg (5 : Int32) (5) (5) from ⟨by decide, by decide⟩)) (by decide) (by decide) (by decide) (by decide))) (by decide) (by decide)) ?_
      refine ok_nm (fun x7_5001 hx7_5001 => ?_)
      refine ok_gd (rg_inb (rg_eq (hx7_5001.trans hx5_5000.symm) (rg_eq hx5_5000 (rg_add (l := 44) (h := 49) (show rg (44 : Int32) (44) (44) from ⟨by decide, by decide⟩) (rg_le w_4995 (rg_ge w_4994 (show rg (0 : Int32) (0) (0) from ⟨by decide, by decide⟩) (rg_any _)) (show rg (5 : Int32) (5) (5) from ⟨by decide, by decide⟩)) (by decide) (by decide) (by decide) (by decide)))) (by decide) (by decide)) ?_
      refine ok_nm (fun σ10_5002 hσ10_5002 => ?_)
      have bσ10_5002 : BX m σ10_5002 := by rw [hσ10_5002]; exact bx_thick hB (rg_w (rg_eq (hx7_5001.trans hx5_5000.symm) (rg_eq hx5_5000 (rg_add (l := 44) (h := 49) (show rg (44 : Int32) (44) (44) from ⟨by decide, by decide⟩) (rg_le w_4995 (rg_ge w_4994 (show rg (0 : Int32) (0) (0) from ⟨by decide, by decide⟩) (rg_any _)) (show rg (5 : Int32) (5) (5) from ⟨by decide, by decide⟩)) (by decide) (by decide) (by decide) (by decide)))) (by decide) (by decide)) (rg_w (rg_le w_4999 (rg_ge w_4998 (show rg (1 : Int32) (1) (1) from ⟨by decide, by decide⟩) (rg_any _)) (show rg (40 : Int32) (40) (40) from ⟨by decide, by decide⟩)) (by decide) (by decide))
      exact ok_some ⟨(rg_any _), bσ10_5002, (s2_kx hσ10_5002 (rg_eq (hx7_5001.trans hx5_5000.symm) (rg_eq hx5_5000 (rg_add (l := 44) (h := 49) (show rg (44 : Int32) (44) (44) from ⟨by decide, by decide⟩) (rg_le w_4995 (rg_ge w_4994 (show rg (0 : Int32) (0) (0) from ⟨by decide, by decide⟩) (rg_any _)) (show rg (5 : Int32) (5) (5) from ⟨by decide, by decide⟩)) (by decide) (by decide) (by decide) (by decide)))) (by decide) (by decide)), (s2_kx hσ10_5002 (rg_eq (hx7_5001.trans hx5_5000.symm) (rg_eq hx5_5000 (rg_add (l := 44) (h := 49) (show rg (44 : Int32) (44) (44) from ⟨by decide, by decide⟩) (rg_le w_4995 (rg_ge w_4994 (show rg (0 : Int32) (0) (0) from ⟨by decide, by decide⟩) (rg_any _)) (show rg (5 : Int32) (5) (5) from ⟨by decide, by decide⟩)) (by decide) (by decide) (by decide) (by decide)))) (by decide) (by decide))⟩

set_option maxHeartbeats 4000000 in
set_option maxRecDepth 100000 in
theorem f_X12_row {m : Int} {a1 : Int32} {a2 : Int32} {a3 : Int32} {σ : SG} {ρ : RG} (hB : BX m σ) : ok (F_X12_row a1 a2 a3 σ ρ) (fun q => rg q.1 (-2147483648) (2147483647) ∧ BX m q.2 ∧ q.2 55 11 = σ 55 11 ∧ q.2 55 13 = σ 55 13) := by
  unfold F_X12_row
  refine ok_bn (s_X12_isCutter hB) (fun r1_5024 qr1_5024 => ?_)
  refine ok_if (fun c_5025 => ?_) (fun c_5025 => ?_)
  · exact ok_some ⟨(rg_w (show rg (-1 : Int32) (-1) (-1) from ⟨by decide, by decide⟩) (by decide) (by decide)), hB, rfl, rfl⟩
  · obtain ⟨w_5026, w_5027⟩ := qr1_5024.2 c_5025
    refine ok_bn (s_X12_in) (fun r3_5028 qr3_5028 => ?_)
    refine ok_if (fun c_5029 => ?_) (fun c_5029 => ?_)
    · exact ok_some ⟨(rg_w (show rg (-1 : Int32) (-1) (-1) from ⟨by decide, by decide⟩) (by decide) (by decide)), hB, rfl, rfl⟩
    · obtain ⟨w_5030, w_5031⟩ := qr3_5028.2 c_5029
      refine ok_bn (s_X12_in) (fun r5_5032 qr5_5032 => ?_)
      refine ok_if (fun c_5033 => ?_) (fun c_5033 => ?_)
      · exact ok_some ⟨(rg_w (show rg (-2 : Int32) (-2) (-2) from ⟨by decide, by decide⟩) (by decide) (by decide)), hB, rfl, rfl⟩
      · obtain ⟨w_5034, w_5035⟩ := qr5_5032.2 c_5033
        refine ok_nm (fun x7_5036 hx7_5036 => ?_)
        refine ok_gd (rg_inb (rg_eq hx7_5036 (rg_add (l := 20) (h := 25) (show rg (20 : Int32) (20) (20) from ⟨by decide, by decide⟩) (rg_le w_5027 (rg_ge w_5026 (show rg (0 : Int32) (0) (0) from ⟨by decide, by decide⟩) (rg_any _)) (show rg (5 : Int32) (5) (5) from ⟨by decide, by decide⟩)) (by decide) (by decide) (by decide) (by decide))) (by decide) (by decide)) ?_
        refine ok_if (fun c_5037 => ?_) (fun c_5037 => ?_)
        · refine ok_nm (fun x10_5038 hx10_5038 => ?_)
          refine ok_nm (fun x11_5039 hx11_5039 => ?_)
          refine ok_nm (fun x12_5040 hx12_5040 => ?_)
          refine ok_gd (rg_inb (rg_eq hx12_5040 (rg_add (l := 50) (h := 73) (rg_eq hx11_5039 (rg_add (l := 50) (h := 70) (show rg (50 : Int32) (50) (50) from ⟨by decide, by decide⟩) (rg_eq hx10_5038 (rg_mul (h := 20) (show rg (4 : Int32) (4) (4) from ⟨by decide, by decide⟩) (rg_le w_5027 (rg_ge w_5026 (show rg (0 : Int32) (0) (0) from ⟨by decide, by decide⟩) (rg_any _)) (show rg (5 : Int32) (5) (5) from ⟨by decide, by decide⟩)) (by decide) (by decide) (by decide) (by decide))) (by decide) (by decide) (by decide) (by decide))) (rg_le w_5031 (rg_ge w_5030 (show rg (0 : Int32) (0) (0) from ⟨by decide, by decide⟩) (rg_any _)) (show rg (3 : Int32) (3) (3) from ⟨by decide, by decide⟩)) (by decide) (by decide) (by decide) (by decide))) (by decide) (by decide)) ?_
          refine ok_nm (fun x14_5041 hx14_5041 => ?_)
          refine ok_nm (fun x15_5042 hx15_5042 => ?_)
          refine ok_nm (fun x16_5043 hx16_5043 => ?_)
          refine ok_gd (rg_inb (rg_eq hx16_5043 (rg_add (l := 50) (h := 73) (rg_eq hx15_5042 (rg_add (l := 50) (h := 70) (show rg (50 : Int32) (50) (50) from ⟨by decide, by decide⟩) (rg_eq (hx14_5041.trans hx10_5038.symm) (rg_eq hx10_5038 (rg_mul (h := 20) (show rg (4 : Int32) (4) (4) from ⟨by decide, by decide⟩) (rg_le w_5027 (rg_ge w_5026 (show rg (0 : Int32) (0) (0) from ⟨by decide, by decide⟩) (rg_any _)) (show rg (5 : Int32) (5) (5) from ⟨by decide, by decide⟩)) (by decide) (by decide) (by decide) (by decide)))) (by decide) (by decide) (by decide) (by decide))) (rg_le w_5031 (rg_ge w_5030 (show rg (0 : Int32) (0) (0) from ⟨by decide, by decide⟩) (rg_any _)) (show rg (3 : Int32) (3) (3) from ⟨by decide, by decide⟩)) (by decide) (by decide) (by decide) (by decide))) (by decide) (by decide)) ?_
          refine ok_nm (fun σ19_5044 hσ19_5044 => ?_)
          have bσ19_5044 : BX m σ19_5044 := by rw [hσ19_5044]; exact bx_setx hB (a := 50) (b := 73) (rg_eq hx16_5043 (rg_add (l := 50) (h := 73) (rg_eq hx15_5042 (rg_add (l := 50) (h := 70) (show rg (50 : Int32) (50) (50) from ⟨by decide, by decide⟩) (rg_eq (hx14_5041.trans hx10_5038.symm) (rg_eq hx10_5038 (rg_mul (h := 20) (show rg (4 : Int32) (4) (4) from ⟨by decide, by decide⟩) (rg_le w_5027 (rg_ge w_5026 (show rg (0 : Int32) (0) (0) from ⟨by decide, by decide⟩) (rg_any _)) (show rg (5 : Int32) (5) (5) from ⟨by decide, by decide⟩)) (by decide) (by decide) (by decide) (by decide)))) (by decide) (by decide) (by decide) (by decide))) (rg_le w_5031 (rg_ge w_5030 (show rg (0 : Int32) (0) (0) from ⟨by decide, by decide⟩) (rg_any _)) (show rg (3 : Int32) (3) (3) from ⟨by decide, by decide⟩)) (by decide) (by decide) (by decide) (by decide))) (rg_any _) (by decide)
          exact ok_some ⟨(rg_any _), bσ19_5044, (s2_kx hσ19_5044 (rg_eq hx16_5043 (rg_add (l := 50) (h := 73) (rg_eq hx15_5042 (rg_add (l := 50) (h := 70) (show rg (50 : Int32) (50) (50) from ⟨by decide, by decide⟩) (rg_eq (hx14_5041.trans hx10_5038.symm) (rg_eq hx10_5038 (rg_mul (h := 20) (show rg (4 : Int32) (4) (4) from ⟨by decide, by decide⟩) (rg_le w_5027 (rg_ge w_5026 (show rg (0 : Int32) (0) (0) from ⟨by decide, by decide⟩) (rg_any _)) (show rg (5 : Int32) (5) (5) from ⟨by decide, by decide⟩)) (by decide) (by decide) (by decide) (by decide)))) (by decide) (by decide) (by decide) (by decide))) (rg_le w_5031 (rg_ge w_5030 (show rg (0 : Int32) (0) (0) from ⟨by decide, by decide⟩) (rg_any _)) (show rg (3 : Int32) (3) (3) from ⟨by decide, by decide⟩)) (by decide) (by decide) (by decide) (by decide))) (by decide) (by decide)), (s2_kx hσ19_5044 (rg_eq hx16_5043 (rg_add (l := 50) (h := 73) (rg_eq hx15_5042 (rg_add (l := 50) (h := 70) (show rg (50 : Int32) (50) (50) from ⟨by decide, by decide⟩) (rg_eq (hx14_5041.trans hx10_5038.symm) (rg_eq hx10_5038 (rg_mul (h := 20) (show rg (4 : Int32) (4) (4) from ⟨by decide, by decide⟩) (rg_le w_5027 (rg_ge w_5026 (show rg (0 : Int32) (0) (0) from ⟨by decide, by decide⟩) (rg_any _)) (show rg (5 : Int32) (5) (5) from ⟨by decide, by decide⟩)) (by decide) (by decide) (by decide) (by decide)))) (by decide) (by decide) (by decide) (by decide))) (rg_le w_5031 (rg_ge w_5030 (show rg (0 : Int32) (0) (0) from ⟨by decide, by decide⟩) (rg_any _)) (show rg (3 : Int32) (3) (3) from ⟨by decide, by decide⟩)) (by decide) (by decide) (by decide) (by decide))) (by decide) (by decide))⟩
        · exact ok_some ⟨(rg_w (show rg (-3 : Int32) (-3) (-3) from ⟨by decide, by decide⟩) (by decide) (by decide)), hB, rfl, rfl⟩

set_option maxHeartbeats 4000000 in
set_option maxRecDepth 100000 in
theorem f_X12_loaf {m : Int} {a1 : Int32} {σ : SG} {ρ : RG} (hB : BX m σ) : ok (F_X12_loaf a1 σ ρ) (fun q => rg q.1 (-2147483648) (2147483647) ∧ BX m q.2 ∧ q.2 55 11 = σ 55 11 ∧ q.2 55 13 = σ 55 13) := by
  unfold F_X12_loaf
  refine ok_bn (s_X12_in) (fun r1_5055 qr1_5055 => ?_)
  refine ok_if (fun c_5056 => ?_) (fun c_5056 => ?_)
  · exact ok_some ⟨(rg_w (show rg (-2 : Int32) (-2) (-2) from ⟨by decide, by decide⟩) (by decide) (by decide)), hB, rfl, rfl⟩
  · obtain ⟨w_5057, w_5058⟩ := qr1_5055.2 c_5056
    refine ok_nm (fun σ4_5059 hσ4_5059 => ?_)
    have bσ4_5059 : BX m σ4_5059 := by rw [hσ4_5059]; exact bx_set hB (rg_any _) (by decide)
    refine ok_nm (fun σ6_5060 hσ6_5060 => ?_)
    have bσ6_5060 : BX m σ6_5060 := by rw [hσ6_5060]; exact bx_set bσ4_5059 (rg_any _) (by decide)
    refine ok_nm (fun σ8_5061 hσ8_5061 => ?_)
    have bσ8_5061 : BX m σ8_5061 := by rw [hσ8_5061]; exact bx_set bσ6_5060 (rg_any _) (by decide)
    refine ok_nm (fun σ10_5062 hσ10_5062 => ?_)
    have bσ10_5062 : BX m σ10_5062 := by rw [hσ10_5062]; exact bx_set bσ8_5061 (rg_any _) (by decide)
    refine ok_nm (fun σ12_5063 hσ12_5063 => ?_)
    have bσ12_5063 : BX m σ12_5063 := by rw [hσ12_5063]; exact bx_set bσ10_5062 (rg_any _) (by decide)
    refine ok_nm (fun σ14_5064 hσ14_5064 => ?_)
    have bσ14_5064 : BX m σ14_5064 := by rw [hσ14_5064]; exact bx_set bσ12_5063 (rg_any _) (by decide)
    exact ok_some ⟨(rg_any _), bσ14_5064, ((((((s2_k hσ14_5064 (by decide)).trans (s2_k hσ12_5063 (by decide))).trans (s2_k hσ10_5062 (by decide))).trans (s2_k hσ8_5061 (by decide))).trans (s2_k hσ6_5060 (by decide))).trans (s2_k hσ4_5059 (by decide))), ((((((s2_k hσ14_5064 (by decide)).trans (s2_k hσ12_5063 (by decide))).trans (s2_k hσ10_5062 (by decide))).trans (s2_k hσ8_5061 (by decide))).trans (s2_k hσ6_5060 (by decide))).trans (s2_k hσ4_5059 (by decide)))⟩

set_option maxHeartbeats 4000000 in
set_option maxRecDepth 100000 in
theorem f_X12_see {m : Int} {a1 : Int32} {a2 : Int32} {σ : SG} {ρ : RG} (hB : BX m σ) : ok (F_X12_see a1 a2 σ ρ) (fun q => rg q.1 (-2) (1) ∧ BX m q.2 ∧ q.2 55 11 = σ 55 11 ∧ q.2 55 13 = σ 55 13) := by
  unfold F_X12_see
  refine ok_bn (s_X12_in) (fun r1_5075 qr1_5075 => ?_)
  refine ok_if (fun c_5076 => ?_) (fun c_5076 => ?_)
  · exact ok_some ⟨(rg_w (show rg (-2 : Int32) (-2) (-2) from ⟨by decide, by decide⟩) (by decide) (by decide)), hB, rfl, rfl⟩
  · obtain ⟨w_5077, w_5078⟩ := qr1_5075.2 c_5076
    refine ok_bn (s_X12_in) (fun r3_5079 qr3_5079 => ?_)
    refine ok_if (fun c_5080 => ?_) (fun c_5080 => ?_)
    · exact ok_some ⟨(rg_w (show rg (-2 : Int32) (-2) (-2) from ⟨by decide, by decide⟩) (by decide) (by decide)), hB, rfl, rfl⟩
    · obtain ⟨w_5081, w_5082⟩ := qr3_5079.2 c_5080
      refine ok_nm (fun σ6_5083 hσ6_5083 => ?_)
      have bσ6_5083 : BX m σ6_5083 := by rw [hσ6_5083]; exact bx_set hB (rg_any _) (by decide)
      refine ok_nm (fun σ8_5084 hσ8_5084 => ?_)
      have bσ8_5084 : BX m σ8_5084 := by rw [hσ8_5084]; exact bx_set bσ6_5083 (rg_any _) (by decide)
      exact ok_some ⟨(rg_w (show rg (1 : Int32) (1) (1) from ⟨by decide, by decide⟩) (by decide) (by decide)), bσ8_5084, ((s2_k hσ8_5084 (by decide)).trans (s2_k hσ6_5083 (by decide))), ((s2_k hσ8_5084 (by decide)).trans (s2_k hσ6_5083 (by decide)))⟩

set_option maxHeartbeats 4000000 in
set_option maxRecDepth 100000 in
theorem f_X12_book {m : Int} {a1 : Int32} {a2 : Int32} {σ : SG} {ρ : RG} (hB : BX m σ) : ok (F_X12_book a1 a2 σ ρ) (fun q => rg q.1 (-4) (8) ∧ BX m q.2 ∧ q.2 55 11 = σ 55 11 ∧ q.2 55 13 = σ 55 13) := by
  unfold F_X12_book
  refine ok_if (fun c_5102 => ?_) (fun c_5102 => ?_)
  · refine ok_nm (fun σ19_5103 hσ19_5103 => ?_)
    have bσ19_5103 : BX m σ19_5103 := by rw [hσ19_5103]; exact bx_set hB (show rg (0 : Int32) (0) (0) from ⟨by decide, by decide⟩) (by decide)
    exact ok_some ⟨(rg_w (show rg (0 : Int32) (0) (0) from ⟨by decide, by decide⟩) (by decide) (by decide)), bσ19_5103, (s2_k hσ19_5103 (by decide)), (s2_k hσ19_5103 (by decide))⟩
  · refine ok_bn (s_X12_isCutter hB) (fun r2_5104 qr2_5104 => ?_)
    refine ok_if (fun c_5105 => ?_) (fun c_5105 => ?_)
    · exact ok_some ⟨(rg_w (show rg (-1 : Int32) (-1) (-1) from ⟨by decide, by decide⟩) (by decide) (by decide)), hB, rfl, rfl⟩
    · obtain ⟨w_5106, w_5107⟩ := qr2_5104.2 c_5105
      refine ok_bn (s_X12_in) (fun r4_5108 qr4_5108 => ?_)
      refine ok_if (fun c_5109 => ?_) (fun c_5109 => ?_)
      · exact ok_some ⟨(rg_w (show rg (-2 : Int32) (-2) (-2) from ⟨by decide, by decide⟩) (by decide) (by decide)), hB, rfl, rfl⟩
      · obtain ⟨w_5110, w_5111⟩ := qr4_5108.2 c_5109
        refine ok_if (fun c_5112 => ?_) (fun c_5112 => ?_)
        · exact ok_some ⟨(rg_w (show rg (-4 : Int32) (-4) (-4) from ⟨by decide, by decide⟩) (by decide) (by decide)), hB, rfl, rfl⟩
        · refine ok_nm (fun x7_5113 hx7_5113 => ?_)
          refine ok_gd (rg_inb (rg_eq hx7_5113 (rg_add (l := 78) (h := 85) (show rg (78 : Int32) (78) (78) from ⟨by decide, by decide⟩) (rg_neh c_5112 (bx_get hB (r := 55) (a := 14) (b := 14) (k := 14) (l := 0) (h := 8) (by decide) (by decide) (by decide)) (show rg (8 : Int32) (8) (8) from ⟨by decide, by decide⟩) rfl) (by decide) (by decide) (by decide) (by decide))) (by decide) (by decide)) ?_
          refine ok_nm (fun σ10_5114 hσ10_5114 => ?_)
          have bσ10_5114 : BX m σ10_5114 := by rw [hσ10_5114]; exact bx_setx hB (a := 78) (b := 85) (rg_eq hx7_5113 (rg_add (l := 78) (h := 85) (show rg (78 : Int32) (78) (78) from ⟨by decide, by decide⟩) (rg_neh c_5112 (bx_get hB (r := 55) (a := 14) (b := 14) (k := 14) (l := 0) (h := 8) (by decide) (by decide) (by decide)) (show rg (8 : Int32) (8) (8) from ⟨by decide, by decide⟩) rfl) (by decide) (by decide) (by decide) (by decide))) (rg_le w_5107 (rg_ge w_5106 (show rg (0 : Int32) (0) (0) from ⟨by decide, by decide⟩) (rg_any _)) (show rg (5 : Int32) (5) (5) from ⟨by decide, by decide⟩)) (by decide)
          refine ok_nm (fun x11_5115 hx11_5115 => ?_)
          refine ok_gd (rg_inb (rg_eq hx11_5115 (rg_add (l := 86) (h := 93) (show rg (86 : Int32) (86) (86) from ⟨by decide, by decide⟩) (rg_eq (s2_kx hσ10_5114 (rg_eq hx7_5113 (rg_add (l := 78) (h := 85) (show rg (78 : Int32) (78) (78) from ⟨by decide, by decide⟩) (rg_neh c_5112 (bx_get hB (r := 55) (a := 14) (b := 14) (k := 14) (l := 0) (h := 8) (by decide) (by decide) (by decide)) (show rg (8 : Int32) (8) (8) from ⟨by decide, by decide⟩) rfl) (by decide) (by decide) (by decide) (by decide))) (by decide) (by decide)) (rg_neh c_5112 (bx_get hB (r := 55) (a := 14) (b := 14) (k := 14) (l := 0) (h := 8) (by decide) (by decide) (by decide)) (show rg (8 : Int32) (8) (8) from ⟨by decide, by decide⟩) rfl)) (by decide) (by decide) (by decide) (by decide))) (by decide) (by decide)) ?_
          refine ok_nm (fun σ14_5116 hσ14_5116 => ?_)
          have bσ14_5116 : BX m σ14_5116 := by rw [hσ14_5116]; exact bx_setx bσ10_5114 (a := 86) (b := 93) (rg_eq hx11_5115 (rg_add (l := 86) (h := 93) (show rg (86 : Int32) (86) (86) from ⟨by decide, by decide⟩) (rg_eq (s2_kx hσ10_5114 (rg_eq hx7_5113 (rg_add (l := 78) (h := 85) (show rg (78 : Int32) (78) (78) from ⟨by decide, by decide⟩) (rg_neh c_5112 (bx_get hB (r := 55) (a := 14) (b := 14) (k := 14) (l := 0) (h := 8) (by decide) (by decide) (by decide)) (show rg (8 : Int32) (8) (8) from ⟨by decide, by decide⟩) rfl) (by decide) (by decide) (by decide) (by decide))) (by decide) (by decide)) (rg_neh c_5112 (bx_get hB (r := 55) (a := 14) (b := 14) (k := 14) (l := 0) (h := 8) (by decide) (by decide) (by decide)) (show rg (8 : Int32) (8) (8) from ⟨by decide, by decide⟩) rfl)) (by decide) (by decide) (by decide) (by decide))) (rg_any _) (by decide)
          refine ok_nm (fun x15_5117 hx15_5117 => ?_)
          refine ok_nm (fun σ17_5118 hσ17_5118 => ?_)
          have bσ17_5118 : BX m σ17_5118 := by rw [hσ17_5118]; exact bx_set bσ14_5116 (rg_eq hx15_5117 (rg_add (l := 1) (h := 8) (rg_eq (s2_kx hσ14_5116 (rg_eq hx11_5115 (rg_add (l := 86) (h := 93) (show rg (86 : Int32) (86) (86) from ⟨by decide, by decide⟩) (rg_eq (s2_kx hσ10_5114 (rg_eq hx7_5113 (rg_add (l := 78) (h := 85) (show rg (78 : Int32) (78) (78) from ⟨by decide, by decide⟩) (rg_neh c_5112 (bx_get hB (r := 55) (a := 14) (b := 14) (k := 14) (l := 0) (h := 8) (by decide) (by decide) (by decide)) (show rg (8 : Int32) (8) (8) from ⟨by decide, by decide⟩) rfl) (by decide) (by decide) (by decide) (by decide))) (by decide) (by decide)) (rg_neh c_5112 (bx_get hB (r := 55) (a := 14) (b := 14) (k := 14) (l := 0) (h := 8) (by decide) (by decide) (by decide)) (show rg (8 : Int32) (8) (8) from ⟨by decide, by decide⟩) rfl)) (by decide) (by decide) (by decide) (by decide))) (by decide) (by decide)) (rg_eq (s2_kx hσ10_5114 (rg_eq hx7_5113 (rg_add (l := 78) (h := 85) (show rg (78 : Int32) (78) (78) from ⟨by decide, by decide⟩) (rg_neh c_5112 (bx_get hB (r := 55) (a := 14) (b := 14) (k := 14) (l := 0) (h := 8) (by decide) (by decide) (by decide)) (show rg (8 : Int32) (8) (8) from ⟨by decide, by decide⟩) rfl) (by decide) (by decide) (by decide) (by decide))) (by decide) (by decide)) (rg_neh c_5112 (bx_get hB (r := 55) (a := 14) (b := 14) (k := 14) (l := 0) (h := 8) (by decide) (by decide) (by decide)) (show rg (8 : Int32) (8) (8) from ⟨by decide, by decide⟩) rfl))) (show rg (1 : Int32) (1) (1) from ⟨by decide, by decide⟩) (by decide) (by decide) (by decide) (by decide))) (by decide)
          exact ok_some ⟨(rg_w (rg_eq (s2_v hσ17_5118) (rg_eq hx15_5117 (rg_add (l := 1) (h := 8) (rg_eq (s2_kx hσ14_5116 (rg_eq hx11_5115 (rg_add (l := 86) (h := 93) (show rg (86 : Int32) (86) (86) from ⟨by decide, by decide⟩) (rg_eq (s2_kx hσ10_5114 (rg_eq hx7_5113 (rg_add (l := 78) (h := 85) (show rg (78 : Int32) (78) (78) from ⟨by decide, by decide⟩) (rg_neh c_5112 (bx_get hB (r := 55) (a := 14) (b := 14) (k := 14) (l := 0) (h := 8) (by decide) (by decide) (by decide)) (show rg (8 : Int32) (8) (8) from ⟨by decide, by decide⟩) rfl) (by decide) (by decide) (by decide) (by decide))) (by decide) (by decide)) (rg_neh c_5112 (bx_get hB (r := 55) (a := 14) (b := 14) (k := 14) (l := 0) (h := 8) (by decide) (by decide) (by decide)) (show rg (8 : Int32) (8) (8) from ⟨by decide, by decide⟩) rfl)) (by decide) (by decide) (by decide) (by decide))) (by decide) (by decide)) (rg_eq (s2_kx hσ10_5114 (rg_eq hx7_5113 (rg_add (l := 78) (h := 85) (show rg (78 : Int32) (78) (78) from ⟨by decide, by decide⟩) (rg_neh c_5112 (bx_get hB (r := 55) (a := 14) (b := 14) (k := 14) (l := 0) (h := 8) (by decide) (by decide) (by decide)) (show rg (8 : Int32) (8) (8) from ⟨by decide, by decide⟩) rfl) (by decide) (by decide) (by decide) (by decide))) (by decide) (by decide)) (rg_neh c_5112 (bx_get hB (r := 55) (a := 14) (b := 14) (k := 14) (l := 0) (h := 8) (by decide) (by decide) (by decide)) (show rg (8 : Int32) (8) (8) from ⟨by decide, by decide⟩) rfl))) (show rg (1 : Int32) (1) (1) from ⟨by decide, by decide⟩) (by decide) (by decide) (by decide) (by decide)))) (by decide) (by decide)), bσ17_5118, (((s2_k hσ17_5118 (by decide)).trans (s2_kx hσ14_5116 (rg_eq hx11_5115 (rg_add (l := 86) (h := 93) (show rg (86 : Int32) (86) (86) from ⟨by decide, by decide⟩) (rg_eq (s2_kx hσ10_5114 (rg_eq hx7_5113 (rg_add (l := 78) (h := 85) (show rg (78 : Int32) (78) (78) from ⟨by decide, by decide⟩) (rg_neh c_5112 (bx_get hB (r := 55) (a := 14) (b := 14) (k := 14) (l := 0) (h := 8) (by decide) (by decide) (by decide)) (show rg (8 : Int32) (8) (8) from ⟨by decide, by decide⟩) rfl) (by decide) (by decide) (by decide) (by decide))) (by decide) (by decide)) (rg_neh c_5112 (bx_get hB (r := 55) (a := 14) (b := 14) (k := 14) (l := 0) (h := 8) (by decide) (by decide) (by decide)) (show rg (8 : Int32) (8) (8) from ⟨by decide, by decide⟩) rfl)) (by decide) (by decide) (by decide) (by decide))) (by decide) (by decide))).trans (s2_kx hσ10_5114 (rg_eq hx7_5113 (rg_add (l := 78) (h := 85) (show rg (78 : Int32) (78) (78) from ⟨by decide, by decide⟩) (rg_neh c_5112 (bx_get hB (r := 55) (a := 14) (b := 14) (k := 14) (l := 0) (h := 8) (by decide) (by decide) (by decide)) (show rg (8 : Int32) (8) (8) from ⟨by decide, by decide⟩) rfl) (by decide) (by decide) (by decide) (by decide))) (by decide) (by decide))), (((s2_k hσ17_5118 (by decide)).trans (s2_kx hσ14_5116 (rg_eq hx11_5115 (rg_add (l := 86) (h := 93) (show rg (86 : Int32) (86) (86) from ⟨by decide, by decide⟩) (rg_eq (s2_kx hσ10_5114 (rg_eq hx7_5113 (rg_add (l := 78) (h := 85) (show rg (78 : Int32) (78) (78) from ⟨by decide, by decide⟩) (rg_neh c_5112 (bx_get hB (r := 55) (a := 14) (b := 14) (k := 14) (l := 0) (h := 8) (by decide) (by decide) (by decide)) (show rg (8 : Int32) (8) (8) from ⟨by decide, by decide⟩) rfl) (by decide) (by decide) (by decide) (by decide))) (by decide) (by decide)) (rg_neh c_5112 (bx_get hB (r := 55) (a := 14) (b := 14) (k := 14) (l := 0) (h := 8) (by decide) (by decide) (by decide)) (show rg (8 : Int32) (8) (8) from ⟨by decide, by decide⟩) rfl)) (by decide) (by decide) (by decide) (by decide))) (by decide) (by decide))).trans (s2_kx hσ10_5114 (rg_eq hx7_5113 (rg_add (l := 78) (h := 85) (show rg (78 : Int32) (78) (78) from ⟨by decide, by decide⟩) (rg_neh c_5112 (bx_get hB (r := 55) (a := 14) (b := 14) (k := 14) (l := 0) (h := 8) (by decide) (by decide) (by decide)) (show rg (8 : Int32) (8) (8) from ⟨by decide, by decide⟩) rfl) (by decide) (by decide) (by decide) (by decide))) (by decide) (by decide)))⟩
