/-! PART 66.sm: printed by wip/gen/s26m.py -/
set_option maxHeartbeats 4000000 in
set_option maxRecDepth 100000 in
theorem s_X12_within {g : Nat → Int32} {m : Int} {a1 : Int32} {a2 : Int32} {a3 : Int32} {σ : SG} {ρ : RG} (hB : BF g m σ) : ok (F_X12_within a1 a2 a3 σ ρ) (fun q => rg q (-2147483648) (2147483647)) := by
  unfold F_X12_within
  refine ok_if (fun c_2495 => ?_) (fun c_2495 => ?_)
  · refine ok_if (fun c_2496 => ?_) (fun c_2496 => ?_)
    · exact ok_some (rg_any _)
    · exact ok_some (rg_w (rg_lt (nle c_2496) (rg_any _) (rg_gt (nle c_2496) (rg_any _) (rg_any _))) (by decide) (by decide))
  · exact ok_some (rg_w (rg_gt (nle c_2495) (rg_lt (nle c_2495) (rg_any _) (rg_any _)) (rg_any _)) (by decide) (by decide))

set_option maxHeartbeats 4000000 in
set_option maxRecDepth 100000 in
theorem s_X12_size {g : Nat → Int32} {m : Int} {a1 : Int32} {σ : SG} {ρ : RG} (hB : BF g m σ) : ok (F_X12_size a1 σ ρ) (fun q => rg q (-2147483648) (2147483647)) := by
  unfold F_X12_size
  refine ok_if (fun c_2499 => ?_) (fun c_2499 => ?_)
  · exact ok_some (rg_w (rg_ge c_2499 (show rg (0 : Int32) (0) (0) from ⟨by decide, by decide⟩) (rg_any _)) (by decide) (by decide))
  · refine ok_nm (fun x2_2500 hx2_2500 => ?_)
    exact ok_some (rg_any _)

set_option maxHeartbeats 4000000 in
set_option maxRecDepth 100000 in
theorem s_X12_keeps_2 {g : Nat → Int32} {m : Int} {ρ : RG} : ∀ (n : Nat) (σ : SG) (v1 : Int32), rg v1 (0) (11) → (11 : Int) - v1.toInt < (n : Int) → BF g m σ → ok (F_X12_keeps_2 n σ ρ v1) (fun q => BF g m q) := by
  intro n
  induction n with
  | zero => intro σ v1 r_v1 hm hB; exact (ms_z r_v1 (by decide) hm).elim
  | succ n ih =>
    intro σ v1 r_v1 hm hB
    unfold F_X12_keeps_2
    refine ok_if (fun c_2504 => ?_) (fun c_2504 => ?_)
    · exact ok_some hB
    · refine ok_gd (rg_inb (rg_lt (nle c_2504) r_v1 (show rg (11 : Int32) (11) (11) from ⟨by decide, by decide⟩)) (by decide) (by decide)) ?_
      refine ok_gd (rg_inb (rg_lt (nle c_2504) r_v1 (show rg (11 : Int32) (11) (11) from ⟨by decide, by decide⟩)) (by decide) (by decide)) ?_
      refine ok_nm (fun σ5_2505 hσ5_2505 => ?_)
      have bσ5_2505 : BF g m σ5_2505 := by rw [hσ5_2505]; exact bf_far hB (by decide) (by decide) (by decide) (by decide)
      refine ok_nm (fun x6_2506 hx6_2506 => ?_)
      exact ih _ _ (rg_w (rg_eq hx6_2506 (rg_add (l := 1) (h := 11) (rg_lt (nle c_2504) r_v1 (show rg (11 : Int32) (11) (11) from ⟨by decide, by decide⟩)) (show rg (1 : Int32) (1) (1) from ⟨by decide, by decide⟩) (by decide) (by decide) (by decide) (by decide))) (by decide) (by decide)) (ms_s hx6_2506 (rg_lt (nle c_2504) r_v1 (show rg (11 : Int32) (11) (11) from ⟨by decide, by decide⟩)) (by decide) (by decide) hm) bσ5_2505

set_option maxHeartbeats 4000000 in
set_option maxRecDepth 100000 in
theorem s_X12_keeps {g : Nat → Int32} {m : Int} {σ : SG} {ρ : RG} (hB : BF g m σ) : ok (F_X12_keeps σ ρ) (fun q => BF g m q) := by
  unfold F_X12_keeps
  exact (s_X12_keeps_2 1024 _ _ (rg_w (show rg (0 : Int32) (0) (0) from ⟨by decide, by decide⟩) (by decide) (by decide)) (ms_0 (show rg (0 : Int32) (0) (0) from ⟨by decide, by decide⟩) (by decide)) hB)

set_option maxHeartbeats 4000000 in
set_option maxRecDepth 100000 in
theorem s_X12_goesBack_2 {g : Nat → Int32} {m : Int} {ρ : RG} : ∀ (n : Nat) (σ : SG) (v1 : Int32), rg v1 (0) (11) → (11 : Int) - v1.toInt < (n : Int) → BF g m σ → ok (F_X12_goesBack_2 n σ ρ v1) (fun q => BF g m q) := by
  intro n
  induction n with
  | zero => intro σ v1 r_v1 hm hB; exact (ms_z r_v1 (by decide) hm).elim
  | succ n ih =>
    intro σ v1 r_v1 hm hB
    unfold F_X12_goesBack_2
    refine ok_if (fun c_2510 => ?_) (fun c_2510 => ?_)
    · exact ok_some hB
    · refine ok_gd (rg_inb (rg_lt (nle c_2510) r_v1 (show rg (11 : Int32) (11) (11) from ⟨by decide, by decide⟩)) (by decide) (by decide)) ?_
      refine ok_gd (rg_inb (rg_lt (nle c_2510) r_v1 (show rg (11 : Int32) (11) (11) from ⟨by decide, by decide⟩)) (by decide) (by decide)) ?_
      refine ok_nm (fun σ5_2511 hσ5_2511 => ?_)
      have bσ5_2511 : BF g m σ5_2511 := by rw [hσ5_2511]; exact bf_setx hB (a := 0) (b := 10) (rg_lt (nle c_2510) r_v1 (show rg (11 : Int32) (11) (11) from ⟨by decide, by decide⟩)) (rg_any _) (by decide)
      refine ok_nm (fun x6_2512 hx6_2512 => ?_)
      exact ih _ _ (rg_w (rg_eq hx6_2512 (rg_add (l := 1) (h := 11) (rg_lt (nle c_2510) r_v1 (show rg (11 : Int32) (11) (11) from ⟨by decide, by decide⟩)) (show rg (1 : Int32) (1) (1) from ⟨by decide, by decide⟩) (by decide) (by decide) (by decide) (by decide))) (by decide) (by decide)) (ms_s hx6_2512 (rg_lt (nle c_2510) r_v1 (show rg (11 : Int32) (11) (11) from ⟨by decide, by decide⟩)) (by decide) (by decide) hm) bσ5_2511

set_option maxHeartbeats 4000000 in
set_option maxRecDepth 100000 in
theorem s_X12_goesBack {g : Nat → Int32} {m : Int} {σ : SG} {ρ : RG} (hB : BF g m σ) : ok (F_X12_goesBack σ ρ) (fun q => BF g m q) := by
  unfold F_X12_goesBack
  exact (s_X12_goesBack_2 1024 _ _ (rg_w (show rg (0 : Int32) (0) (0) from ⟨by decide, by decide⟩) (by decide) (by decide)) (ms_0 (show rg (0 : Int32) (0) (0) from ⟨by decide, by decide⟩) (by decide)) hB)

set_option maxHeartbeats 4000000 in
set_option maxRecDepth 100000 in
theorem s_X12_tellsOf {g : Nat → Int32} {m : Int} {a1 : Int32} {a2 : Int32} {σ : SG} {ρ : RG} (r_a1 : rg a1 (190) (210)) (hB : BF g m σ) : ok (F_X12_tellsOf a1 a2 σ ρ) (fun q => rg q (-2147483648) (2147483647)) := by
  unfold F_X12_tellsOf
  refine ok_if (fun c_2515 => ?_) (fun c_2515 => ?_)
  · exact ok_some (rg_any _)
  · refine ok_nm (fun x2_2516 hx2_2516 => ?_)
    refine ok_gd (rg_inb (rg_eq hx2_2516 (rg_add (l := 190) (h := 214) r_a1 (rg_nel c_2515 (bx_get hB.1 (r := 55) (a := 16) (b := 16) (k := 16) (l := -1) (h := 4) (by decide) (by decide) (by decide)) (show rg (-1 : Int32) (-1) (-1) from ⟨by decide, by decide⟩) rfl) (by decide) (by decide) (by decide) (by decide))) (by decide) (by decide)) ?_
    exact ok_some (rg_any _)

theorem tells_204 {g : Nat → Int32} {m : Int} {σ : SG} {ρ : RG} (hB : BF g m σ) : ok (F_X12_tellsOf (204 : Int32) (0 : Int32) σ ρ) (fun q => ((σ 55 16).toInt = -1 ∧ q = 0) ∨ ∃ h : Nat, (σ 55 16).toInt = (h : Int) ∧ h ≤ 4 ∧ q = σ 55 (204 + h)) := by
  have h16 : rg (σ 55 16) (-1) 4 := bx_get hB.1 (r := 55) (a := 16) (b := 16) (k := 16) (l := -1) (h := 4) (by decide) (by decide) (by decide)
  unfold F_X12_tellsOf
  refine ok_if (fun c => ok_some (Or.inl ⟨by rw [c]; rfl, rfl⟩)) (fun c => ?_)
  have c1 : (σ 55 16).toInt ≠ -1 := fun e => c (Int32.toInt_inj.mp (by rw [e]; rfl))
  have l1 := h16.1
  have l2 := h16.2
  have e204 : (204 : Int32).toInt = 204 := rfl
  refine ok_nm (fun x hx => ?_)
  have ex : x.toInt = 204 + (σ 55 16).toInt := by rw [hx, ti_add (by omega) (by omega), e204]
  have rx : rg x 204 208 := ⟨by omega, by omega⟩
  have ix := rg_cl rx (by decide)
  refine ok_gd (rg_inb rx (by decide) (by decide)) (ok_some (Or.inr ⟨(σ 55 16).toInt.toNat, by omega, by omega, ?_⟩))
  rw [show x.toNatClampNeg = 204 + (σ 55 16).toInt.toNat by omega]
theorem looks_0 {g : Nat → Int32} {m : Int} {a1 a2 v3 v4 v5 : Int32} {σ : SG} {ρ : RG} (h3 : v3 = 0) (hB : BF g m σ) (n : Nat) : ok (F_X12_looks_117 a1 a2 (n + 1) σ ρ v3 v4 v5 v4) (fun q => BF g m q) := by
  unfold F_X12_looks_117
  refine ok_nm (fun x hx => ?_)
  have e : x = v4 := by rw [hx, h3, Int32.add_zero]
  refine ok_if (fun _ => ok_some hB) (fun c => absurd (by rw [e]; exact Int32.le_iff_toInt_le.mpr (Int.le_refl _)) c)
theorem s_X12_looks {g : Nat → Int32} {m : Int} {a1 a2 : Int32} {σ : SG} {ρ : RG} (r_a1 : rg a1 0 5) (hB : BF g m σ) : ok (F_X12_looks a1 a2 σ ρ) (fun q => BF g m q) := by
  unfold F_X12_looks
  refine ok_nm (fun σ2 h2 => ?_)
  have b2 : BF g m σ2 := by rw [h2]; exact bf_far hB (by decide) (by decide) (by decide) (by decide)
  refine ok_nm (fun x3 hx3 => ?_)
  have r3 : rg x3 20 25 := rg_eq hx3 (rg_add (show rg (20 : Int32) 20 20 from ⟨by decide, by decide⟩) r_a1 (by decide) (by decide) (by decide) (by decide))
  refine ok_gd (rg_inb r3 (by decide) (by decide)) (ok_nm (fun σ6 h6 => ?_))
  have b6 : BF g m σ6 := by rw [h6]; exact bf_far b2 (by decide) (by decide) (by decide) (by decide)
  refine ok_nm (fun σ8 h8 => ?_)
  have b8 : BF g m σ8 := by rw [h8]; exact bf_far b6 (by decide) (by decide) (by decide) (by decide)
  refine ok_bn (s_X12_size b8) (fun r9 _ => ok_nm (fun σ11 h11 => ?_))
  have b11 : BF g m σ11 := by rw [h11]; exact bf_far b8 (by decide) (by decide) (by decide) (by decide)
  refine ok_nm (fun x12 _ => ok_nm (fun σ14 h14 => ?_))
  have b14 : BF g m σ14 := by rw [h14]; exact bf_far b11 (by decide) (by decide) (by decide) (by decide)
  refine ok_nm (fun x15 _ => ok_nm (fun σ17 h17 => ?_))
  have b17 : BF g m σ17 := by rw [h17]; exact bf_far b14 (by decide) (by decide) (by decide) (by decide)
  refine ok_nm (fun σ19 h19 => ?_)
  have b19 : BF g m σ19 := by rw [h19]; exact bf_set b17 (rg_any _) (by decide)
  refine ok_nm (fun σ21 h21 => ?_)
  have b21 : BF g m σ21 := by rw [h21]; exact bf_set b19 (rg_any _) (by decide)
  refine ok_bn (tells_204 b21) (fun r22 q22 => ok_nm (fun x23 hx23 => ok_nm (fun x24 hx24 => ?_)))
  rcases q22 with ⟨_, rfl⟩ | ⟨h, eh, h4, rfl⟩
  · exact looks_0 rfl b21 1023
  · have e140 : (140 : Int32).toInt = 140 := rfl
    have e209 : (209 : Int32).toInt = 209 := rfl
    have e23 : x23.toInt = 140 * (h : Int) := by rw [hx23, Int32.toInt_mul, bmod_id (by omega) (by omega), e140, eh]
    have e24 : x24.toInt = 209 + 140 * (h : Int) := by rw [hx24, ti_add (by omega) (by omega), e209, e23]
    have r24 : rg x24 209 769 := ⟨by omega, by omega⟩
    have i24 := rg_cl r24 (by decide)
    have rm : rg (σ21 55 (204 + h)) 0 140 := bx_get b21.1 (r := 55) (a := 204) (b := 208) (k := 204 + h) (l := 0) (h := 140) (by decide) (by omega) (by omega)
    have im := rg_cl rm (by decide)
    have r1 := rm.1
    have r2 := rm.2
    obtain ⟨-, w⟩ := b21.1.2.2.1.1 h eh
    refine s_X12_looks_117 rm r24 1024 σ21 0 x24 0 (σ21 55 (204 + h)).toNatClampNeg rfl (by omega) (by omega) (by omega) ?_ b21
    rw [show x24.toNatClampNeg = 209 + 140 * h by omega]
    exact w

set_option maxHeartbeats 4000000 in
set_option maxRecDepth 100000 in
theorem s_X12_corner {g : Nat → Int32} {m : Int} {a1 : Int32} {a2 : Int32} {a3 : Int32} {a4 : Int32} {σ : SG} {ρ : RG} (hB : BF g m σ) : ok (F_X12_corner a1 a2 a3 a4 σ ρ) (fun q => rg q (-2147483648) (2147483647)) := by
  unfold F_X12_corner
  refine ok_if (fun c_2531 => ?_) (fun c_2531 => ?_)
  · refine ok_nm (fun x2_2532 hx2_2532 => ?_)
    unfold F_X12_corner_12
    refine ok_nm (fun x3_2533 hx3_2533 => ?_)
    refine ok_nm (fun x4_2534 hx4_2534 => ?_)
    refine ok_if (fun c_2535 => ?_) (fun c_2535 => ?_)
    · refine ok_nm (fun x7_2536 hx7_2536 => ?_)
      refine ok_nm (fun x8_2537 hx8_2537 => ?_)
      exact ok_some (rg_any _)
    · refine ok_nm (fun x6_2538 hx6_2538 => ?_)
      exact ok_some (rg_any _)
  · unfold F_X12_corner_12
    refine ok_nm (fun x3_2539 hx3_2539 => ?_)
    refine ok_nm (fun x4_2540 hx4_2540 => ?_)
    refine ok_if (fun c_2541 => ?_) (fun c_2541 => ?_)
    · refine ok_nm (fun x7_2542 hx7_2542 => ?_)
      refine ok_nm (fun x8_2543 hx8_2543 => ?_)
      exact ok_some (rg_any _)
    · refine ok_nm (fun x6_2544 hx6_2544 => ?_)
      exact ok_some (rg_any _)

set_option maxHeartbeats 4000000 in
set_option maxRecDepth 100000 in
theorem s_X12_leastCorner {g : Nat → Int32} {m : Int} {σ : SG} {ρ : RG} (hB : BF g m σ) : ok (F_X12_leastCorner σ ρ) (fun q => rg q (-2147483648) (2147483647)) := by
  unfold F_X12_leastCorner
  refine ok_bn (s_X12_size hB) (fun r1_2549 qr1_2549 => ?_)
  refine ok_nm (fun x2_2550 hx2_2550 => ?_)
  refine ok_bn (s_X12_size hB) (fun r3_2551 qr3_2551 => ?_)
  refine ok_nm (fun x4_2552 hx4_2552 => ?_)
  exact ok_some (rg_any _)

set_option maxHeartbeats 4000000 in
set_option maxRecDepth 100000 in
theorem s_X12_told {g : Nat → Int32} {m : Int} {a1 : Int32} {σ : SG} {ρ : RG} (hB : BF g m σ) : ok (F_X12_told a1 σ ρ) (fun q => rg q (-2147483648) (2147483647)) := by
  unfold F_X12_told
  refine ok_bn (s_X12_in) (fun r1_2569 qr1_2569 => ?_)
  refine ok_if (fun c_2570 => ?_) (fun c_2570 => ?_)
  · refine ok_if (fun c_2571 => ?_) (fun c_2571 => ?_)
    · exact ok_some (rg_any _)
    · refine ok_if (fun c_2572 => ?_) (fun c_2572 => ?_)
      · exact ok_some (rg_any _)
      · refine ok_if (fun c_2573 => ?_) (fun c_2573 => ?_)
        · exact ok_some (rg_any _)
        · refine ok_if (fun c_2574 => ?_) (fun c_2574 => ?_)
          · exact ok_some (rg_any _)
          · refine ok_if (fun c_2575 => ?_) (fun c_2575 => ?_)
            · exact ok_some (rg_any _)
            · refine ok_if (fun c_2576 => ?_) (fun c_2576 => ?_)
              · exact ok_some (rg_any _)
              · refine ok_if (fun c_2577 => ?_) (fun c_2577 => ?_)
                · refine ok_bn (s_X12_tellsOf (rg_w (show rg (194 : Int32) (194) (194) from ⟨by decide, by decide⟩) (by decide) (by decide)) hB) (fun r4_2578 qr4_2578 => ?_)
                  exact ok_some qr4_2578
                · refine ok_if (fun c_2579 => ?_) (fun c_2579 => ?_)
                  · refine ok_bn (s_X12_tellsOf (rg_w (show rg (199 : Int32) (199) (199) from ⟨by decide, by decide⟩) (by decide) (by decide)) hB) (fun r5_2580 qr5_2580 => ?_)
                    exact ok_some qr5_2580
                  · exact ok_some (rg_w (show rg (-10001 : Int32) (-10001) (-10001) from ⟨by decide, by decide⟩) (by decide) (by decide))
  · obtain ⟨w_2581, w_2582⟩ := qr1_2569.2 c_2570
    refine ok_nm (fun x6_2583 hx6_2583 => ?_)
    refine ok_bn (s_X12_corner hB) (fun r7_2584 qr7_2584 => ?_)
    exact ok_some qr7_2584

set_option maxHeartbeats 4000000 in
set_option maxRecDepth 100000 in
theorem s_X12_rights {g : Nat → Int32} {m : Int} {σ : SG} {ρ : RG} (hB : BF g m σ) : ok (F_X12_rights σ ρ) (fun q => BF g m q) := by
  unfold F_X12_rights
  refine ok_bn (s_X12_leastCorner hB) (fun r1_2593 qr1_2593 => ?_)
  refine ok_nm (fun x2_2594 hx2_2594 => ?_)
  refine ok_nm (fun x3_2595 hx3_2595 => ?_)
  refine ok_nm (fun x4_2596 hx4_2596 => ?_)
  refine ok_nm (fun σ6_2597 hσ6_2597 => ?_)
  have bσ6_2597 : BF g m σ6_2597 := by rw [hσ6_2597]; exact bf_set hB (rg_any _) (by decide)
  refine ok_nm (fun σ8_2598 hσ8_2598 => ?_)
  have bσ8_2598 : BF g m σ8_2598 := by rw [hσ8_2598]; exact bf_set bσ6_2597 (rg_any _) (by decide)
  refine ok_nm (fun σ10_2599 hσ10_2599 => ?_)
  have bσ10_2599 : BF g m σ10_2599 := by rw [hσ10_2599]; exact bf_set bσ8_2598 (rg_any _) (by decide)
  refine ok_nm (fun σ12_2600 hσ12_2600 => ?_)
  have bσ12_2600 : BF g m σ12_2600 := by rw [hσ12_2600]; exact bf_set bσ10_2599 (rg_any _) (by decide)
  exact ok_some bσ12_2600

set_option maxHeartbeats 4000000 in
set_option maxRecDepth 100000 in
theorem s_X12_slant {g : Nat → Int32} {m : Int} {a1 : Int32} {a2 : Int32} {a3 : Int32} {σ : SG} {ρ : RG} (r_a1 : rg a1 (0) (5)) (hB : BF g m σ) : ok (F_X12_slant a1 a2 a3 σ ρ) (fun q => rg q (-2147483648) (2147483647)) := by
  unfold F_X12_slant
  refine ok_nm (fun x1_2614 hx1_2614 => ?_)
  refine ok_gd (rg_inb (rg_eq hx1_2614 (rg_add (l := 20) (h := 25) (show rg (20 : Int32) (20) (20) from ⟨by decide, by decide⟩) r_a1 (by decide) (by decide) (by decide) (by decide))) (by decide) (by decide)) ?_
  refine ok_if (fun c_2615 => ?_) (fun c_2615 => ?_)
  · exact ok_some (rg_w (show rg (0 : Int32) (0) (0) from ⟨by decide, by decide⟩) (by decide) (by decide))
  · refine ok_if (fun c_2616 => ?_) (fun c_2616 => ?_)
    · refine ok_nm (fun x4_2617 hx4_2617 => ?_)
      refine ok_nm (fun x5_2618 hx5_2618 => ?_)
      exact ok_some (rg_any _)
    · refine ok_if (fun c_2619 => ?_) (fun c_2619 => ?_)
      · refine ok_nm (fun x6_2620 hx6_2620 => ?_)
        exact ok_some (rg_any _)
      · refine ok_if (fun c_2621 => ?_) (fun c_2621 => ?_)
        · exact ok_some (rg_w (show rg (0 : Int32) (0) (0) from ⟨by decide, by decide⟩) (by decide) (by decide))
        · refine ok_if (fun c_2622 => ?_) (fun c_2622 => ?_)
          · refine ok_nm (fun x7_2623 hx7_2623 => ?_)
            refine ok_nm (fun x8_2624 hx8_2624 => ?_)
            exact ok_some (rg_any _)
          · refine ok_if (fun c_2625 => ?_) (fun c_2625 => ?_)
            · refine ok_nm (fun x9_2626 hx9_2626 => ?_)
              exact ok_some (rg_any _)
            · exact ok_some (rg_any _)

set_option maxHeartbeats 4000000 in
set_option maxRecDepth 100000 in
theorem s_X12_half {g : Nat → Int32} {m : Int} {a1 : Int32} {σ : SG} {ρ : RG} (hB : BF g m σ) : ok (F_X12_half a1 σ ρ) (fun q => rg q (-2147483648) (2147483647)) := by
  unfold F_X12_half
  refine ok_if (fun c_2629 => ?_) (fun c_2629 => ?_)
  · exact ok_some (rg_any _)
  · refine ok_nm (fun x2_2630 hx2_2630 => ?_)
    exact ok_some (rg_any _)

set_option maxHeartbeats 4000000 in
set_option maxRecDepth 100000 in
theorem s_X12_cuts_305 {g : Nat → Int32} {m : Int} {a1 : Int32} {a2 : Int32} {ρ : RG} (r_a1 : rg a1 (0) (5)) : ∀ (n : Nat) (σ : SG) (v1 : Int32) (v7 : Int32) (v9 : Int32) (v10 : Int32) (v11 : Int32), rg v1 (0) (5) → rg v11 (0) (4) → (4 : Int) - v11.toInt < (n : Int) → BF g m σ → ok (F_X12_cuts_305 a1 a2 n σ ρ v1 v7 v9 v10 v11) (fun q => rg q.1 (1) (1) ∧ BF g m q.2) := by
  intro n
  induction n with
  | zero => intro σ v1 v7 v9 v10 v11 r_v1 r_v11 hm hB; exact (ms_z r_v11 (by decide) hm).elim
  | succ n ih =>
    intro σ v1 v7 v9 v10 v11 r_v1 r_v11 hm hB
    unfold F_X12_cuts_305
    refine ok_if (fun c_2706 => ?_) (fun c_2706 => ?_)
    · refine ok_nm (fun σ35_2707 hσ35_2707 => ?_)
      have bσ35_2707 : BF g m σ35_2707 := by rw [hσ35_2707]; exact bf_set hB (rg_any _) (by decide)
      refine ok_nm (fun σ37_2708 hσ37_2708 => ?_)
      have bσ37_2708 : BF g m σ37_2708 := by rw [hσ37_2708]; exact bf_set bσ35_2707 (rg_any _) (by decide)
      refine ok_nm (fun σ39_2709 hσ39_2709 => ?_)
      have bσ39_2709 : BF g m σ39_2709 := by rw [hσ39_2709]; exact bf_set bσ37_2708 (rg_any _) (by decide)
      refine ok_nm (fun x40_2710 hx40_2710 => ?_)
      refine ok_gd (rg_inb (rg_eq hx40_2710 (rg_add (l := 5) (h := 10) (show rg (5 : Int32) (5) (5) from ⟨by decide, by decide⟩) r_v1 (by decide) (by decide) (by decide) (by decide))) (by decide) (by decide)) ?_
      refine ok_nm (fun x42_2711 hx42_2711 => ?_)
      refine ok_gd (rg_inb (rg_eq hx40_2710 (rg_add (l := 5) (h := 10) (show rg (5 : Int32) (5) (5) from ⟨by decide, by decide⟩) r_v1 (by decide) (by decide) (by decide) (by decide))) (by decide) (by decide)) ?_
      refine ok_nm (fun σ45_2712 hσ45_2712 => ?_)
      have bσ45_2712 : BF g m σ45_2712 := by rw [hσ45_2712]; exact bf_setx bσ39_2709 (a := 5) (b := 10) (rg_eq hx40_2710 (rg_add (l := 5) (h := 10) (show rg (5 : Int32) (5) (5) from ⟨by decide, by decide⟩) r_v1 (by decide) (by decide) (by decide) (by decide))) (rg_any _) (by decide)
      refine ok_nm (fun x46_2713 hx46_2713 => ?_)
      refine ok_nm (fun σ48_2714 hσ48_2714 => ?_)
      have bσ48_2714 : BF g m σ48_2714 := by rw [hσ48_2714]; exact bf_set bσ45_2712 (rg_any _) (by decide)
      exact ok_some ⟨(show rg (1 : Int32) (1) (1) from ⟨by decide, by decide⟩), bσ48_2714⟩
    · refine ok_bn (s_X12_corner hB) (fun r49_2715 qr49_2715 => ?_)
      refine ok_bn (s_X12_corner hB) (fun r50_2716 qr50_2716 => ?_)
      refine ok_nm (fun x51_2717 hx51_2717 => ?_)
      refine ok_if (fun c_2718 => ?_) (fun c_2718 => ?_)
      · unfold F_X12_cuts_359
        refine ok_nm (fun x53_2719 hx53_2719 => ?_)
        refine ok_nm (fun σ55_2720 hσ55_2720 => ?_)
        have bσ55_2720 : BF g m σ55_2720 := by rw [hσ55_2720]; exact bf_set hB (rg_any _) (by decide)
        refine ok_if (fun c_2721 => ?_) (fun c_2721 => ?_)
        · unfold F_X12_cuts_391
          refine ok_nm (fun σ58_2722 hσ58_2722 => ?_)
          have bσ58_2722 : BF g m σ58_2722 := by rw [hσ58_2722]; exact bf_set bσ55_2720 (rg_any _) (by decide)
          refine ok_if (fun c_2723 => ?_) (fun c_2723 => ?_)
          · unfold F_X12_cuts_413
            refine ok_nm (fun σ61_2724 hσ61_2724 => ?_)
            have bσ61_2724 : BF g m σ61_2724 := by rw [hσ61_2724]; exact bf_set bσ58_2722 (rg_any _) (by decide)
            refine ok_nm (fun x62_2725 hx62_2725 => ?_)
            exact ih _ _ _ _ _ _ r_v1 (rg_w (rg_eq hx62_2725 (rg_add (l := 1) (h := 4) (rg_lt (nle c_2706) r_v11 (show rg (4 : Int32) (4) (4) from ⟨by decide, by decide⟩)) (show rg (1 : Int32) (1) (1) from ⟨by decide, by decide⟩) (by decide) (by decide) (by decide) (by decide))) (by decide) (by decide)) (ms_s hx62_2725 (rg_lt (nle c_2706) r_v11 (show rg (4 : Int32) (4) (4) from ⟨by decide, by decide⟩)) (by decide) (by decide) hm) bσ61_2724
          · unfold F_X12_cuts_413
            refine ok_nm (fun σ61_2726 hσ61_2726 => ?_)
            have bσ61_2726 : BF g m σ61_2726 := by rw [hσ61_2726]; exact bf_set bσ58_2722 (rg_any _) (by decide)
            refine ok_nm (fun x62_2727 hx62_2727 => ?_)
            exact ih _ _ _ _ _ _ r_v1 (rg_w (rg_eq hx62_2727 (rg_add (l := 1) (h := 4) (rg_lt (nle c_2706) r_v11 (show rg (4 : Int32) (4) (4) from ⟨by decide, by decide⟩)) (show rg (1 : Int32) (1) (1) from ⟨by decide, by decide⟩) (by decide) (by decide) (by decide) (by decide))) (by decide) (by decide)) (ms_s hx62_2727 (rg_lt (nle c_2706) r_v11 (show rg (4 : Int32) (4) (4) from ⟨by decide, by decide⟩)) (by decide) (by decide) hm) bσ61_2726
        · unfold F_X12_cuts_391
          refine ok_nm (fun σ58_2728 hσ58_2728 => ?_)
          have bσ58_2728 : BF g m σ58_2728 := by rw [hσ58_2728]; exact bf_set bσ55_2720 (rg_any _) (by decide)
          refine ok_if (fun c_2729 => ?_) (fun c_2729 => ?_)
          · unfold F_X12_cuts_413
            refine ok_nm (fun σ61_2730 hσ61_2730 => ?_)
            have bσ61_2730 : BF g m σ61_2730 := by rw [hσ61_2730]; exact bf_set bσ58_2728 (rg_any _) (by decide)
            refine ok_nm (fun x62_2731 hx62_2731 => ?_)
            exact ih _ _ _ _ _ _ r_v1 (rg_w (rg_eq hx62_2731 (rg_add (l := 1) (h := 4) (rg_lt (nle c_2706) r_v11 (show rg (4 : Int32) (4) (4) from ⟨by decide, by decide⟩)) (show rg (1 : Int32) (1) (1) from ⟨by decide, by decide⟩) (by decide) (by decide) (by decide) (by decide))) (by decide) (by decide)) (ms_s hx62_2731 (rg_lt (nle c_2706) r_v11 (show rg (4 : Int32) (4) (4) from ⟨by decide, by decide⟩)) (by decide) (by decide) hm) bσ61_2730
          · unfold F_X12_cuts_413
            refine ok_nm (fun σ61_2732 hσ61_2732 => ?_)
            have bσ61_2732 : BF g m σ61_2732 := by rw [hσ61_2732]; exact bf_set bσ58_2728 (rg_any _) (by decide)
            refine ok_nm (fun x62_2733 hx62_2733 => ?_)
            exact ih _ _ _ _ _ _ r_v1 (rg_w (rg_eq hx62_2733 (rg_add (l := 1) (h := 4) (rg_lt (nle c_2706) r_v11 (show rg (4 : Int32) (4) (4) from ⟨by decide, by decide⟩)) (show rg (1 : Int32) (1) (1) from ⟨by decide, by decide⟩) (by decide) (by decide) (by decide) (by decide))) (by decide) (by decide)) (ms_s hx62_2733 (rg_lt (nle c_2706) r_v11 (show rg (4 : Int32) (4) (4) from ⟨by decide, by decide⟩)) (by decide) (by decide) hm) bσ61_2732
      · unfold F_X12_cuts_359
        refine ok_nm (fun x53_2734 hx53_2734 => ?_)
        refine ok_nm (fun σ55_2735 hσ55_2735 => ?_)
        have bσ55_2735 : BF g m σ55_2735 := by rw [hσ55_2735]; exact bf_set hB (rg_any _) (by decide)
        refine ok_if (fun c_2736 => ?_) (fun c_2736 => ?_)
        · unfold F_X12_cuts_391
          refine ok_nm (fun σ58_2737 hσ58_2737 => ?_)
          have bσ58_2737 : BF g m σ58_2737 := by rw [hσ58_2737]; exact bf_set bσ55_2735 (rg_any _) (by decide)
          refine ok_if (fun c_2738 => ?_) (fun c_2738 => ?_)
          · unfold F_X12_cuts_413
            refine ok_nm (fun σ61_2739 hσ61_2739 => ?_)
            have bσ61_2739 : BF g m σ61_2739 := by rw [hσ61_2739]; exact bf_set bσ58_2737 (rg_any _) (by decide)
            refine ok_nm (fun x62_2740 hx62_2740 => ?_)
            exact ih _ _ _ _ _ _ r_v1 (rg_w (rg_eq hx62_2740 (rg_add (l := 1) (h := 4) (rg_lt (nle c_2706) r_v11 (show rg (4 : Int32) (4) (4) from ⟨by decide, by decide⟩)) (show rg (1 : Int32) (1) (1) from ⟨by decide, by decide⟩) (by decide) (by decide) (by decide) (by decide))) (by decide) (by decide)) (ms_s hx62_2740 (rg_lt (nle c_2706) r_v11 (show rg (4 : Int32) (4) (4) from ⟨by decide, by decide⟩)) (by decide) (by decide) hm) bσ61_2739
          · unfold F_X12_cuts_413
            refine ok_nm (fun σ61_2741 hσ61_2741 => ?_)
            have bσ61_2741 : BF g m σ61_2741 := by rw [hσ61_2741]; exact bf_set bσ58_2737 (rg_any _) (by decide)
            refine ok_nm (fun x62_2742 hx62_2742 => ?_)
            exact ih _ _ _ _ _ _ r_v1 (rg_w (rg_eq hx62_2742 (rg_add (l := 1) (h := 4) (rg_lt (nle c_2706) r_v11 (show rg (4 : Int32) (4) (4) from ⟨by decide, by decide⟩)) (show rg (1 : Int32) (1) (1) from ⟨by decide, by decide⟩) (by decide) (by decide) (by decide) (by decide))) (by decide) (by decide)) (ms_s hx62_2742 (rg_lt (nle c_2706) r_v11 (show rg (4 : Int32) (4) (4) from ⟨by decide, by decide⟩)) (by decide) (by decide) hm) bσ61_2741
        · unfold F_X12_cuts_391
          refine ok_nm (fun σ58_2743 hσ58_2743 => ?_)
          have bσ58_2743 : BF g m σ58_2743 := by rw [hσ58_2743]; exact bf_set bσ55_2735 (rg_any _) (by decide)
          refine ok_if (fun c_2744 => ?_) (fun c_2744 => ?_)
          · unfold F_X12_cuts_413
            refine ok_nm (fun σ61_2745 hσ61_2745 => ?_)
            have bσ61_2745 : BF g m σ61_2745 := by rw [hσ61_2745]; exact bf_set bσ58_2743 (rg_any _) (by decide)
            refine ok_nm (fun x62_2746 hx62_2746 => ?_)
            exact ih _ _ _ _ _ _ r_v1 (rg_w (rg_eq hx62_2746 (rg_add (l := 1) (h := 4) (rg_lt (nle c_2706) r_v11 (show rg (4 : Int32) (4) (4) from ⟨by decide, by decide⟩)) (show rg (1 : Int32) (1) (1) from ⟨by decide, by decide⟩) (by decide) (by decide) (by decide) (by decide))) (by decide) (by decide)) (ms_s hx62_2746 (rg_lt (nle c_2706) r_v11 (show rg (4 : Int32) (4) (4) from ⟨by decide, by decide⟩)) (by decide) (by decide) hm) bσ61_2745
          · unfold F_X12_cuts_413
            refine ok_nm (fun σ61_2747 hσ61_2747 => ?_)
            have bσ61_2747 : BF g m σ61_2747 := by rw [hσ61_2747]; exact bf_set bσ58_2743 (rg_any _) (by decide)
            refine ok_nm (fun x62_2748 hx62_2748 => ?_)
            exact ih _ _ _ _ _ _ r_v1 (rg_w (rg_eq hx62_2748 (rg_add (l := 1) (h := 4) (rg_lt (nle c_2706) r_v11 (show rg (4 : Int32) (4) (4) from ⟨by decide, by decide⟩)) (show rg (1 : Int32) (1) (1) from ⟨by decide, by decide⟩) (by decide) (by decide) (by decide) (by decide))) (by decide) (by decide)) (ms_s hx62_2748 (rg_lt (nle c_2706) r_v11 (show rg (4 : Int32) (4) (4) from ⟨by decide, by decide⟩)) (by decide) (by decide) hm) bσ61_2747

set_option maxHeartbeats 4000000 in
set_option maxRecDepth 100000 in
theorem s_X12_cuts {g : Nat → Int32} {m : Int} {a1 : Int32} {a2 : Int32} {σ : SG} {ρ : RG} (r_a1 : rg a1 (0) (5)) (hB : BF g m σ) : ok (F_X12_cuts a1 a2 σ ρ) (fun q => rg q.1 (0) (1) ∧ BF g m q.2) := by
  unfold F_X12_cuts
  refine ok_bn (s_X12_looks r_a1 hB) (fun σ1_2917 qσ1_2917 => ?_)
  refine ok_nm (fun x2_2918 hx2_2918 => ?_)
  refine ok_gd (rg_inb (rg_eq hx2_2918 (rg_add (l := 20) (h := 25) (show rg (20 : Int32) (20) (20) from ⟨by decide, by decide⟩) r_a1 (by decide) (by decide) (by decide) (by decide))) (by decide) (by decide)) ?_
  refine ok_if (fun c_2919 => ?_) (fun c_2919 => ?_)
  · refine ok_bn (s_X12_rights qσ1_2917) (fun σ86_2920 qσ86_2920 => ?_)
    unfold F_X12_cuts_83
    refine ok_nm (fun x8_2921 hx8_2921 => ?_)
    refine ok_nm (fun x9_2922 hx9_2922 => ?_)
    refine ok_gd (rg_inb (rg_eq (hx9_2922.trans hx2_2918.symm) (rg_eq hx2_2918 (rg_add (l := 20) (h := 25) (show rg (20 : Int32) (20) (20) from ⟨by decide, by decide⟩) r_a1 (by decide) (by decide) (by decide) (by decide)))) (by decide) (by decide)) ?_
    refine ok_if (fun c_2923 => ?_) (fun c_2923 => ?_)
    · refine ok_nm (fun x77_2924 hx77_2924 => ?_)
      refine ok_nm (fun x78_2925 hx78_2925 => ?_)
      refine ok_nm (fun x79_2926 hx79_2926 => ?_)
      refine ok_nm (fun x80_2927 hx80_2927 => ?_)
      refine ok_gd (rg_inb (rg_eq hx80_2927 (rg_add (l := 47) (h := 73) (rg_eq hx78_2925 (rg_add (l := 50) (h := 70) (show rg (50 : Int32) (50) (50) from ⟨by decide, by decide⟩) (rg_eq hx77_2924 (rg_mul (h := 20) (show rg (4 : Int32) (4) (4) from ⟨by decide, by decide⟩) r_a1 (by decide) (by decide) (by decide) (by decide))) (by decide) (by decide) (by decide) (by decide))) (rg_eq hx79_2926 (rg_rem (show rg (4 : Int32) (4) (4) from ⟨by decide, by decide⟩) (by decide))) (by decide) (by decide) (by decide) (by decide))) (by decide) (by decide)) ?_
      refine ok_nm (fun x82_2928 hx82_2928 => ?_)
      unfold F_X12_cuts_145
      refine ok_bn (s_X12_slant r_a1 qσ86_2920) (fun r15_2929 qr15_2929 => ?_)
      refine ok_bn (s_X12_half qσ86_2920) (fun r16_2930 qr16_2930 => ?_)
      refine ok_nm (fun x17_2931 hx17_2931 => ?_)
      refine ok_bn (s_X12_within qσ86_2920) (fun r18_2932 qr18_2932 => ?_)
      refine ok_nm (fun x19_2933 hx19_2933 => ?_)
      refine ok_gd (rg_inb (rg_eq hx19_2933 (rg_add (l := 38) (h := 43) (show rg (38 : Int32) (38) (38) from ⟨by decide, by decide⟩) r_a1 (by decide) (by decide) (by decide) (by decide))) (by decide) (by decide)) ?_
      refine ok_bn (s_X12_half qσ86_2920) (fun r21_2934 qr21_2934 => ?_)
      refine ok_bn (s_X12_slant r_a1 qσ86_2920) (fun r22_2935 qr22_2935 => ?_)
      refine ok_bn (s_X12_half qσ86_2920) (fun r23_2936 qr23_2936 => ?_)
      refine ok_nm (fun x24_2937 hx24_2937 => ?_)
      refine ok_bn (s_X12_within qσ86_2920) (fun r25_2938 qr25_2938 => ?_)
      refine ok_if (fun c_2939 => ?_) (fun c_2939 => ?_)
      · refine ok_bn (s_X12_size qσ86_2920) (fun r63_2940 qr63_2940 => ?_)
        refine ok_nm (fun x64_2941 hx64_2941 => ?_)
        refine ok_bn (s_X12_size qσ86_2920) (fun r65_2942 qr65_2942 => ?_)
        refine ok_nm (fun x66_2943 hx66_2943 => ?_)
        refine ok_bn (s_X12_tellsOf (rg_w (show rg (199 : Int32) (199) (199) from ⟨by decide, by decide⟩) (by decide) (by decide)) qσ86_2920) (fun r67_2944 qr67_2944 => ?_)
        refine ok_if (fun c_2945 => ?_) (fun c_2945 => ?_)
        · unfold F_X12_cuts_286
          refine ok_nm (fun σ28_2946 hσ28_2946 => ?_)
          have bσ28_2946 : BF g m σ28_2946 := by rw [hσ28_2946]; exact bf_set qσ86_2920 (rg_any _) (by decide)
          refine ok_nm (fun σ30_2947 hσ30_2947 => ?_)
          have bσ30_2947 : BF g m σ30_2947 := by rw [hσ30_2947]; exact bf_set bσ28_2946 (rg_any _) (by decide)
          refine ok_nm (fun σ32_2948 hσ32_2948 => ?_)
          have bσ32_2948 : BF g m σ32_2948 := by rw [hσ32_2948]; exact bf_set bσ30_2947 (rg_any _) (by decide)
          exact ok_mono (s_X12_cuts_305 r_a1 1024 _ _ _ _ _ _ r_a1 (rg_w (show rg (0 : Int32) (0) (0) from ⟨by decide, by decide⟩) (by decide) (by decide)) (ms_0 (show rg (0 : Int32) (0) (0) from ⟨by decide, by decide⟩) (by decide)) bσ32_2948) (fun q hq => ⟨rg_w hq.1 (by decide) (by decide), hq.2⟩)
        · refine ok_nm (fun σ70_2949 hσ70_2949 => ?_)
          have bσ70_2949 : BF g m σ70_2949 := by rw [hσ70_2949]; exact bf_set qσ86_2920 (rg_any _) (by decide)
          refine ok_nm (fun σ72_2950 hσ72_2950 => ?_)
          have bσ72_2950 : BF g m σ72_2950 := by rw [hσ72_2950]; exact bf_set bσ70_2949 (rg_any _) (by decide)
          refine ok_nm (fun σ74_2951 hσ74_2951 => ?_)
          have bσ74_2951 : BF g m σ74_2951 := by rw [hσ74_2951]; exact bf_set bσ72_2950 (rg_any _) (by decide)
          refine ok_nm (fun σ76_2952 hσ76_2952 => ?_)
          have bσ76_2952 : BF g m σ76_2952 := by rw [hσ76_2952]; exact bf_set bσ74_2951 (rg_any _) (by decide)
          exact ok_some ⟨(rg_w (show rg (0 : Int32) (0) (0) from ⟨by decide, by decide⟩) (by decide) (by decide)), bσ76_2952⟩
      · unfold F_X12_cuts_286
        refine ok_nm (fun σ28_2953 hσ28_2953 => ?_)
        have bσ28_2953 : BF g m σ28_2953 := by rw [hσ28_2953]; exact bf_set qσ86_2920 (rg_any _) (by decide)
        refine ok_nm (fun σ30_2954 hσ30_2954 => ?_)
        have bσ30_2954 : BF g m σ30_2954 := by rw [hσ30_2954]; exact bf_set bσ28_2953 (rg_any _) (by decide)
        refine ok_nm (fun σ32_2955 hσ32_2955 => ?_)
        have bσ32_2955 : BF g m σ32_2955 := by rw [hσ32_2955]; exact bf_set bσ30_2954 (rg_any _) (by decide)
        exact ok_mono (s_X12_cuts_305 r_a1 1024 _ _ _ _ _ _ r_a1 (rg_w (show rg (0 : Int32) (0) (0) from ⟨by decide, by decide⟩) (by decide) (by decide)) (ms_0 (show rg (0 : Int32) (0) (0) from ⟨by decide, by decide⟩) (by decide)) bσ32_2955) (fun q hq => ⟨rg_w hq.1 (by decide) (by decide), hq.2⟩)
    · refine ok_nm (fun x12_2956 hx12_2956 => ?_)
      refine ok_gd (rg_inb (rg_eq hx12_2956 (rg_add (l := 32) (h := 37) (show rg (32 : Int32) (32) (32) from ⟨by decide, by decide⟩) r_a1 (by decide) (by decide) (by decide) (by decide))) (by decide) (by decide)) ?_
      refine ok_bn (s_X12_half qσ86_2920) (fun r14_2957 qr14_2957 => ?_)
      unfold F_X12_cuts_145
      refine ok_bn (s_X12_slant r_a1 qσ86_2920) (fun r15_2958 qr15_2958 => ?_)
      refine ok_bn (s_X12_half qσ86_2920) (fun r16_2959 qr16_2959 => ?_)
      refine ok_nm (fun x17_2960 hx17_2960 => ?_)
      refine ok_bn (s_X12_within qσ86_2920) (fun r18_2961 qr18_2961 => ?_)
      refine ok_nm (fun x19_2962 hx19_2962 => ?_)
      refine ok_gd (rg_inb (rg_eq hx19_2962 (rg_add (l := 38) (h := 43) (show rg (38 : Int32) (38) (38) from ⟨by decide, by decide⟩) r_a1 (by decide) (by decide) (by decide) (by decide))) (by decide) (by decide)) ?_
      refine ok_bn (s_X12_half qσ86_2920) (fun r21_2963 qr21_2963 => ?_)
      refine ok_bn (s_X12_slant r_a1 qσ86_2920) (fun r22_2964 qr22_2964 => ?_)
      refine ok_bn (s_X12_half qσ86_2920) (fun r23_2965 qr23_2965 => ?_)
      refine ok_nm (fun x24_2966 hx24_2966 => ?_)
      refine ok_bn (s_X12_within qσ86_2920) (fun r25_2967 qr25_2967 => ?_)
      refine ok_if (fun c_2968 => ?_) (fun c_2968 => ?_)
      · refine ok_bn (s_X12_size qσ86_2920) (fun r63_2969 qr63_2969 => ?_)
        refine ok_nm (fun x64_2970 hx64_2970 => ?_)
        refine ok_bn (s_X12_size qσ86_2920) (fun r65_2971 qr65_2971 => ?_)
        refine ok_nm (fun x66_2972 hx66_2972 => ?_)
        refine ok_bn (s_X12_tellsOf (rg_w (show rg (199 : Int32) (199) (199) from ⟨by decide, by decide⟩) (by decide) (by decide)) qσ86_2920) (fun r67_2973 qr67_2973 => ?_)
        refine ok_if (fun c_2974 => ?_) (fun c_2974 => ?_)
        · unfold F_X12_cuts_286
          refine ok_nm (fun σ28_2975 hσ28_2975 => ?_)
          have bσ28_2975 : BF g m σ28_2975 := by rw [hσ28_2975]; exact bf_set qσ86_2920 (rg_any _) (by decide)
          refine ok_nm (fun σ30_2976 hσ30_2976 => ?_)
          have bσ30_2976 : BF g m σ30_2976 := by rw [hσ30_2976]; exact bf_set bσ28_2975 (rg_any _) (by decide)
          refine ok_nm (fun σ32_2977 hσ32_2977 => ?_)
          have bσ32_2977 : BF g m σ32_2977 := by rw [hσ32_2977]; exact bf_set bσ30_2976 (rg_any _) (by decide)
          exact ok_mono (s_X12_cuts_305 r_a1 1024 _ _ _ _ _ _ r_a1 (rg_w (show rg (0 : Int32) (0) (0) from ⟨by decide, by decide⟩) (by decide) (by decide)) (ms_0 (show rg (0 : Int32) (0) (0) from ⟨by decide, by decide⟩) (by decide)) bσ32_2977) (fun q hq => ⟨rg_w hq.1 (by decide) (by decide), hq.2⟩)
        · refine ok_nm (fun σ70_2978 hσ70_2978 => ?_)
          have bσ70_2978 : BF g m σ70_2978 := by rw [hσ70_2978]; exact bf_set qσ86_2920 (rg_any _) (by decide)
          refine ok_nm (fun σ72_2979 hσ72_2979 => ?_)
          have bσ72_2979 : BF g m σ72_2979 := by rw [hσ72_2979]; exact bf_set bσ70_2978 (rg_any _) (by decide)
          refine ok_nm (fun σ74_2980 hσ74_2980 => ?_)
          have bσ74_2980 : BF g m σ74_2980 := by rw [hσ74_2980]; exact bf_set bσ72_2979 (rg_any _) (by decide)
          refine ok_nm (fun σ76_2981 hσ76_2981 => ?_)
          have bσ76_2981 : BF g m σ76_2981 := by rw [hσ76_2981]; exact bf_set bσ74_2980 (rg_any _) (by decide)
          exact ok_some ⟨(rg_w (show rg (0 : Int32) (0) (0) from ⟨by decide, by decide⟩) (by decide) (by decide)), bσ76_2981⟩
      · unfold F_X12_cuts_286
        refine ok_nm (fun σ28_2982 hσ28_2982 => ?_)
        have bσ28_2982 : BF g m σ28_2982 := by rw [hσ28_2982]; exact bf_set qσ86_2920 (rg_any _) (by decide)
        refine ok_nm (fun σ30_2983 hσ30_2983 => ?_)
        have bσ30_2983 : BF g m σ30_2983 := by rw [hσ30_2983]; exact bf_set bσ28_2982 (rg_any _) (by decide)
        refine ok_nm (fun σ32_2984 hσ32_2984 => ?_)
        have bσ32_2984 : BF g m σ32_2984 := by rw [hσ32_2984]; exact bf_set bσ30_2983 (rg_any _) (by decide)
        exact ok_mono (s_X12_cuts_305 r_a1 1024 _ _ _ _ _ _ r_a1 (rg_w (show rg (0 : Int32) (0) (0) from ⟨by decide, by decide⟩) (by decide) (by decide)) (ms_0 (show rg (0 : Int32) (0) (0) from ⟨by decide, by decide⟩) (by decide)) bσ32_2984) (fun q hq => ⟨rg_w hq.1 (by decide) (by decide), hq.2⟩)
  · refine ok_nm (fun x5_2985 hx5_2985 => ?_)
    refine ok_gd (rg_inb (rg_eq (hx5_2985.trans hx2_2918.symm) (rg_eq hx2_2918 (rg_add (l := 20) (h := 25) (show rg (20 : Int32) (20) (20) from ⟨by decide, by decide⟩) r_a1 (by decide) (by decide) (by decide) (by decide)))) (by decide) (by decide)) ?_
    refine ok_if (fun c_2986 => ?_) (fun c_2986 => ?_)
    · refine ok_nm (fun x83_2987 hx83_2987 => ?_)
      refine ok_nm (fun σ85_2988 hσ85_2988 => ?_)
      have bσ85_2988 : BF g m σ85_2988 := by rw [hσ85_2988]; exact bf_set qσ1_2917 (rg_any _) (by decide)
      unfold F_X12_cuts_83
      refine ok_nm (fun x8_2989 hx8_2989 => ?_)
      refine ok_nm (fun x9_2990 hx9_2990 => ?_)
      refine ok_gd (rg_inb (rg_eq (hx9_2990.trans hx5_2985.symm) (rg_eq (hx5_2985.trans hx2_2918.symm) (rg_eq hx2_2918 (rg_add (l := 20) (h := 25) (show rg (20 : Int32) (20) (20) from ⟨by decide, by decide⟩) r_a1 (by decide) (by decide) (by decide) (by decide))))) (by decide) (by decide)) ?_
      refine ok_if (fun c_2991 => ?_) (fun c_2991 => ?_)
      · refine ok_nm (fun x77_2992 hx77_2992 => ?_)
        refine ok_nm (fun x78_2993 hx78_2993 => ?_)
        refine ok_nm (fun x79_2994 hx79_2994 => ?_)
        refine ok_nm (fun x80_2995 hx80_2995 => ?_)
        refine ok_gd (rg_inb (rg_eq hx80_2995 (rg_add (l := 47) (h := 73) (rg_eq hx78_2993 (rg_add (l := 50) (h := 70) (show rg (50 : Int32) (50) (50) from ⟨by decide, by decide⟩) (rg_eq hx77_2992 (rg_mul (h := 20) (show rg (4 : Int32) (4) (4) from ⟨by decide, by decide⟩) r_a1 (by decide) (by decide) (by decide) (by decide))) (by decide) (by decide) (by decide) (by decide))) (rg_eq hx79_2994 (rg_rem (show rg (4 : Int32) (4) (4) from ⟨by decide, by decide⟩) (by decide))) (by decide) (by decide) (by decide) (by decide))) (by decide) (by decide)) ?_
        refine ok_nm (fun x82_2996 hx82_2996 => ?_)
        unfold F_X12_cuts_145
        refine ok_bn (s_X12_slant r_a1 bσ85_2988) (fun r15_2997 qr15_2997 => ?_)
        refine ok_bn (s_X12_half bσ85_2988) (fun r16_2998 qr16_2998 => ?_)
        refine ok_nm (fun x17_2999 hx17_2999 => ?_)
        refine ok_bn (s_X12_within bσ85_2988) (fun r18_3000 qr18_3000 => ?_)
        refine ok_nm (fun x19_3001 hx19_3001 => ?_)
        refine ok_gd (rg_inb (rg_eq hx19_3001 (rg_add (l := 38) (h := 43) (show rg (38 : Int32) (38) (38) from ⟨by decide, by decide⟩) r_a1 (by decide) (by decide) (by decide) (by decide))) (by decide) (by decide)) ?_
        refine ok_bn (s_X12_half bσ85_2988) (fun r21_3002 qr21_3002 => ?_)
        refine ok_bn (s_X12_slant r_a1 bσ85_2988) (fun r22_3003 qr22_3003 => ?_)
        refine ok_bn (s_X12_half bσ85_2988) (fun r23_3004 qr23_3004 => ?_)
        refine ok_nm (fun x24_3005 hx24_3005 => ?_)
        refine ok_bn (s_X12_within bσ85_2988) (fun r25_3006 qr25_3006 => ?_)
        refine ok_if (fun c_3007 => ?_) (fun c_3007 => ?_)
        · refine ok_bn (s_X12_size bσ85_2988) (fun r63_3008 qr63_3008 => ?_)
          refine ok_nm (fun x64_3009 hx64_3009 => ?_)
          refine ok_bn (s_X12_size bσ85_2988) (fun r65_3010 qr65_3010 => ?_)
          refine ok_nm (fun x66_3011 hx66_3011 => ?_)
          refine ok_bn (s_X12_tellsOf (rg_w (show rg (199 : Int32) (199) (199) from ⟨by decide, by decide⟩) (by decide) (by decide)) bσ85_2988) (fun r67_3012 qr67_3012 => ?_)
          refine ok_if (fun c_3013 => ?_) (fun c_3013 => ?_)
          · unfold F_X12_cuts_286
            refine ok_nm (fun σ28_3014 hσ28_3014 => ?_)
            have bσ28_3014 : BF g m σ28_3014 := by rw [hσ28_3014]; exact bf_set bσ85_2988 (rg_any _) (by decide)
            refine ok_nm (fun σ30_3015 hσ30_3015 => ?_)
            have bσ30_3015 : BF g m σ30_3015 := by rw [hσ30_3015]; exact bf_set bσ28_3014 (rg_any _) (by decide)
            refine ok_nm (fun σ32_3016 hσ32_3016 => ?_)
            have bσ32_3016 : BF g m σ32_3016 := by rw [hσ32_3016]; exact bf_set bσ30_3015 (rg_any _) (by decide)
            exact ok_mono (s_X12_cuts_305 r_a1 1024 _ _ _ _ _ _ r_a1 (rg_w (show rg (0 : Int32) (0) (0) from ⟨by decide, by decide⟩) (by decide) (by decide)) (ms_0 (show rg (0 : Int32) (0) (0) from ⟨by decide, by decide⟩) (by decide)) bσ32_3016) (fun q hq => ⟨rg_w hq.1 (by decide) (by decide), hq.2⟩)
          · refine ok_nm (fun σ70_3017 hσ70_3017 => ?_)
            have bσ70_3017 : BF g m σ70_3017 := by rw [hσ70_3017]; exact bf_set bσ85_2988 (rg_any _) (by decide)
            refine ok_nm (fun σ72_3018 hσ72_3018 => ?_)
            have bσ72_3018 : BF g m σ72_3018 := by rw [hσ72_3018]; exact bf_set bσ70_3017 (rg_any _) (by decide)
            refine ok_nm (fun σ74_3019 hσ74_3019 => ?_)
            have bσ74_3019 : BF g m σ74_3019 := by rw [hσ74_3019]; exact bf_set bσ72_3018 (rg_any _) (by decide)
            refine ok_nm (fun σ76_3020 hσ76_3020 => ?_)
            have bσ76_3020 : BF g m σ76_3020 := by rw [hσ76_3020]; exact bf_set bσ74_3019 (rg_any _) (by decide)
            exact ok_some ⟨(rg_w (show rg (0 : Int32) (0) (0) from ⟨by decide, by decide⟩) (by decide) (by decide)), bσ76_3020⟩
        · unfold F_X12_cuts_286
          refine ok_nm (fun σ28_3021 hσ28_3021 => ?_)
          have bσ28_3021 : BF g m σ28_3021 := by rw [hσ28_3021]; exact bf_set bσ85_2988 (rg_any _) (by decide)
          refine ok_nm (fun σ30_3022 hσ30_3022 => ?_)
          have bσ30_3022 : BF g m σ30_3022 := by rw [hσ30_3022]; exact bf_set bσ28_3021 (rg_any _) (by decide)
          refine ok_nm (fun σ32_3023 hσ32_3023 => ?_)
          have bσ32_3023 : BF g m σ32_3023 := by rw [hσ32_3023]; exact bf_set bσ30_3022 (rg_any _) (by decide)
          exact ok_mono (s_X12_cuts_305 r_a1 1024 _ _ _ _ _ _ r_a1 (rg_w (show rg (0 : Int32) (0) (0) from ⟨by decide, by decide⟩) (by decide) (by decide)) (ms_0 (show rg (0 : Int32) (0) (0) from ⟨by decide, by decide⟩) (by decide)) bσ32_3023) (fun q hq => ⟨rg_w hq.1 (by decide) (by decide), hq.2⟩)
      · refine ok_nm (fun x12_3024 hx12_3024 => ?_)
        refine ok_gd (rg_inb (rg_eq hx12_3024 (rg_add (l := 32) (h := 37) (show rg (32 : Int32) (32) (32) from ⟨by decide, by decide⟩) r_a1 (by decide) (by decide) (by decide) (by decide))) (by decide) (by decide)) ?_
        refine ok_bn (s_X12_half bσ85_2988) (fun r14_3025 qr14_3025 => ?_)
        unfold F_X12_cuts_145
        refine ok_bn (s_X12_slant r_a1 bσ85_2988) (fun r15_3026 qr15_3026 => ?_)
        refine ok_bn (s_X12_half bσ85_2988) (fun r16_3027 qr16_3027 => ?_)
        refine ok_nm (fun x17_3028 hx17_3028 => ?_)
        refine ok_bn (s_X12_within bσ85_2988) (fun r18_3029 qr18_3029 => ?_)
        refine ok_nm (fun x19_3030 hx19_3030 => ?_)
        refine ok_gd (rg_inb (rg_eq hx19_3030 (rg_add (l := 38) (h := 43) (show rg (38 : Int32) (38) (38) from ⟨by decide, by decide⟩) r_a1 (by decide) (by decide) (by decide) (by decide))) (by decide) (by decide)) ?_
        refine ok_bn (s_X12_half bσ85_2988) (fun r21_3031 qr21_3031 => ?_)
        refine ok_bn (s_X12_slant r_a1 bσ85_2988) (fun r22_3032 qr22_3032 => ?_)
        refine ok_bn (s_X12_half bσ85_2988) (fun r23_3033 qr23_3033 => ?_)
        refine ok_nm (fun x24_3034 hx24_3034 => ?_)
        refine ok_bn (s_X12_within bσ85_2988) (fun r25_3035 qr25_3035 => ?_)
        refine ok_if (fun c_3036 => ?_) (fun c_3036 => ?_)
        · refine ok_bn (s_X12_size bσ85_2988) (fun r63_3037 qr63_3037 => ?_)
          refine ok_nm (fun x64_3038 hx64_3038 => ?_)
          refine ok_bn (s_X12_size bσ85_2988) (fun r65_3039 qr65_3039 => ?_)
          refine ok_nm (fun x66_3040 hx66_3040 => ?_)
          refine ok_bn (s_X12_tellsOf (rg_w (show rg (199 : Int32) (199) (199) from ⟨by decide, by decide⟩) (by decide) (by decide)) bσ85_2988) (fun r67_3041 qr67_3041 => ?_)
          refine ok_if (fun c_3042 => ?_) (fun c_3042 => ?_)
          · unfold F_X12_cuts_286
            refine ok_nm (fun σ28_3043 hσ28_3043 => ?_)
            have bσ28_3043 : BF g m σ28_3043 := by rw [hσ28_3043]; exact bf_set bσ85_2988 (rg_any _) (by decide)
            refine ok_nm (fun σ30_3044 hσ30_3044 => ?_)
            have bσ30_3044 : BF g m σ30_3044 := by rw [hσ30_3044]; exact bf_set bσ28_3043 (rg_any _) (by decide)
            refine ok_nm (fun σ32_3045 hσ32_3045 => ?_)
            have bσ32_3045 : BF g m σ32_3045 := by rw [hσ32_3045]; exact bf_set bσ30_3044 (rg_any _) (by decide)
            exact ok_mono (s_X12_cuts_305 r_a1 1024 _ _ _ _ _ _ r_a1 (rg_w (show rg (0 : Int32) (0) (0) from ⟨by decide, by decide⟩) (by decide) (by decide)) (ms_0 (show rg (0 : Int32) (0) (0) from ⟨by decide, by decide⟩) (by decide)) bσ32_3045) (fun q hq => ⟨rg_w hq.1 (by decide) (by decide), hq.2⟩)
          · refine ok_nm (fun σ70_3046 hσ70_3046 => ?_)
            have bσ70_3046 : BF g m σ70_3046 := by rw [hσ70_3046]; exact bf_set bσ85_2988 (rg_any _) (by decide)
            refine ok_nm (fun σ72_3047 hσ72_3047 => ?_)
            have bσ72_3047 : BF g m σ72_3047 := by rw [hσ72_3047]; exact bf_set bσ70_3046 (rg_any _) (by decide)
            refine ok_nm (fun σ74_3048 hσ74_3048 => ?_)
            have bσ74_3048 : BF g m σ74_3048 := by rw [hσ74_3048]; exact bf_set bσ72_3047 (rg_any _) (by decide)
            refine ok_nm (fun σ76_3049 hσ76_3049 => ?_)
            have bσ76_3049 : BF g m σ76_3049 := by rw [hσ76_3049]; exact bf_set bσ74_3048 (rg_any _) (by decide)
            exact ok_some ⟨(rg_w (show rg (0 : Int32) (0) (0) from ⟨by decide, by decide⟩) (by decide) (by decide)), bσ76_3049⟩
        · unfold F_X12_cuts_286
          refine ok_nm (fun σ28_3050 hσ28_3050 => ?_)
          have bσ28_3050 : BF g m σ28_3050 := by rw [hσ28_3050]; exact bf_set bσ85_2988 (rg_any _) (by decide)
          refine ok_nm (fun σ30_3051 hσ30_3051 => ?_)
          have bσ30_3051 : BF g m σ30_3051 := by rw [hσ30_3051]; exact bf_set bσ28_3050 (rg_any _) (by decide)
          refine ok_nm (fun σ32_3052 hσ32_3052 => ?_)
          have bσ32_3052 : BF g m σ32_3052 := by rw [hσ32_3052]; exact bf_set bσ30_3051 (rg_any _) (by decide)
          exact ok_mono (s_X12_cuts_305 r_a1 1024 _ _ _ _ _ _ r_a1 (rg_w (show rg (0 : Int32) (0) (0) from ⟨by decide, by decide⟩) (by decide) (by decide)) (ms_0 (show rg (0 : Int32) (0) (0) from ⟨by decide, by decide⟩) (by decide)) bσ32_3052) (fun q hq => ⟨rg_w hq.1 (by decide) (by decide), hq.2⟩)
    · unfold F_X12_cuts_83
      refine ok_nm (fun x8_3053 hx8_3053 => ?_)
      refine ok_nm (fun x9_3054 hx9_3054 => ?_)
      refine ok_gd (rg_inb (rg_eq (hx9_3054.trans hx5_2985.symm) (rg_eq (hx5_2985.trans hx2_2918.symm) (rg_eq hx2_2918 (rg_add (l := 20) (h := 25) (show rg (20 : Int32) (20) (20) from ⟨by decide, by decide⟩) r_a1 (by decide) (by decide) (by decide) (by decide))))) (by decide) (by decide)) ?_
      refine ok_if (fun c_3055 => ?_) (fun c_3055 => ?_)
      · refine ok_nm (fun x77_3056 hx77_3056 => ?_)
        refine ok_nm (fun x78_3057 hx78_3057 => ?_)
        refine ok_nm (fun x79_3058 hx79_3058 => ?_)
        refine ok_nm (fun x80_3059 hx80_3059 => ?_)
        refine ok_gd (rg_inb (rg_eq hx80_3059 (rg_add (l := 47) (h := 73) (rg_eq hx78_3057 (rg_add (l := 50) (h := 70) (show rg (50 : Int32) (50) (50) from ⟨by decide, by decide⟩) (rg_eq hx77_3056 (rg_mul (h := 20) (show rg (4 : Int32) (4) (4) from ⟨by decide, by decide⟩) r_a1 (by decide) (by decide) (by decide) (by decide))) (by decide) (by decide) (by decide) (by decide))) (rg_eq hx79_3058 (rg_rem (show rg (4 : Int32) (4) (4) from ⟨by decide, by decide⟩) (by decide))) (by decide) (by decide) (by decide) (by decide))) (by decide) (by decide)) ?_
        refine ok_nm (fun x82_3060 hx82_3060 => ?_)
        unfold F_X12_cuts_145
        refine ok_bn (s_X12_slant r_a1 qσ1_2917) (fun r15_3061 qr15_3061 => ?_)
        refine ok_bn (s_X12_half qσ1_2917) (fun r16_3062 qr16_3062 => ?_)
        refine ok_nm (fun x17_3063 hx17_3063 => ?_)
        refine ok_bn (s_X12_within qσ1_2917) (fun r18_3064 qr18_3064 => ?_)
        refine ok_nm (fun x19_3065 hx19_3065 => ?_)
        refine ok_gd (rg_inb (rg_eq hx19_3065 (rg_add (l := 38) (h := 43) (show rg (38 : Int32) (38) (38) from ⟨by decide, by decide⟩) r_a1 (by decide) (by decide) (by decide) (by decide))) (by decide) (by decide)) ?_
        refine ok_bn (s_X12_half qσ1_2917) (fun r21_3066 qr21_3066 => ?_)
        refine ok_bn (s_X12_slant r_a1 qσ1_2917) (fun r22_3067 qr22_3067 => ?_)
        refine ok_bn (s_X12_half qσ1_2917) (fun r23_3068 qr23_3068 => ?_)
        refine ok_nm (fun x24_3069 hx24_3069 => ?_)
        refine ok_bn (s_X12_within qσ1_2917) (fun r25_3070 qr25_3070 => ?_)
        refine ok_if (fun c_3071 => ?_) (fun c_3071 => ?_)
        · refine ok_bn (s_X12_size qσ1_2917) (fun r63_3072 qr63_3072 => ?_)
          refine ok_nm (fun x64_3073 hx64_3073 => ?_)
          refine ok_bn (s_X12_size qσ1_2917) (fun r65_3074 qr65_3074 => ?_)
          refine ok_nm (fun x66_3075 hx66_3075 => ?_)
          refine ok_bn (s_X12_tellsOf (rg_w (show rg (199 : Int32) (199) (199) from ⟨by decide, by decide⟩) (by decide) (by decide)) qσ1_2917) (fun r67_3076 qr67_3076 => ?_)
          refine ok_if (fun c_3077 => ?_) (fun c_3077 => ?_)
          · unfold F_X12_cuts_286
            refine ok_nm (fun σ28_3078 hσ28_3078 => ?_)
            have bσ28_3078 : BF g m σ28_3078 := by rw [hσ28_3078]; exact bf_set qσ1_2917 (rg_any _) (by decide)
            refine ok_nm (fun σ30_3079 hσ30_3079 => ?_)
            have bσ30_3079 : BF g m σ30_3079 := by rw [hσ30_3079]; exact bf_set bσ28_3078 (rg_any _) (by decide)
            refine ok_nm (fun σ32_3080 hσ32_3080 => ?_)
            have bσ32_3080 : BF g m σ32_3080 := by rw [hσ32_3080]; exact bf_set bσ30_3079 (rg_any _) (by decide)
            exact ok_mono (s_X12_cuts_305 r_a1 1024 _ _ _ _ _ _ r_a1 (rg_w (show rg (0 : Int32) (0) (0) from ⟨by decide, by decide⟩) (by decide) (by decide)) (ms_0 (show rg (0 : Int32) (0) (0) from ⟨by decide, by decide⟩) (by decide)) bσ32_3080) (fun q hq => ⟨rg_w hq.1 (by decide) (by decide), hq.2⟩)
          · refine ok_nm (fun σ70_3081 hσ70_3081 => ?_)
            have bσ70_3081 : BF g m σ70_3081 := by rw [hσ70_3081]; exact bf_set qσ1_2917 (rg_any _) (by decide)
            refine ok_nm (fun σ72_3082 hσ72_3082 => ?_)
            have bσ72_3082 : BF g m σ72_3082 := by rw [hσ72_3082]; exact bf_set bσ70_3081 (rg_any _) (by decide)
            refine ok_nm (fun σ74_3083 hσ74_3083 => ?_)
            have bσ74_3083 : BF g m σ74_3083 := by rw [hσ74_3083]; exact bf_set bσ72_3082 (rg_any _) (by decide)
            refine ok_nm (fun σ76_3084 hσ76_3084 => ?_)
            have bσ76_3084 : BF g m σ76_3084 := by rw [hσ76_3084]; exact bf_set bσ74_3083 (rg_any _) (by decide)
            exact ok_some ⟨(rg_w (show rg (0 : Int32) (0) (0) from ⟨by decide, by decide⟩) (by decide) (by decide)), bσ76_3084⟩
        · unfold F_X12_cuts_286
          refine ok_nm (fun σ28_3085 hσ28_3085 => ?_)
          have bσ28_3085 : BF g m σ28_3085 := by rw [hσ28_3085]; exact bf_set qσ1_2917 (rg_any _) (by decide)
          refine ok_nm (fun σ30_3086 hσ30_3086 => ?_)
          have bσ30_3086 : BF g m σ30_3086 := by rw [hσ30_3086]; exact bf_set bσ28_3085 (rg_any _) (by decide)
          refine ok_nm (fun σ32_3087 hσ32_3087 => ?_)
          have bσ32_3087 : BF g m σ32_3087 := by rw [hσ32_3087]; exact bf_set bσ30_3086 (rg_any _) (by decide)
          exact ok_mono (s_X12_cuts_305 r_a1 1024 _ _ _ _ _ _ r_a1 (rg_w (show rg (0 : Int32) (0) (0) from ⟨by decide, by decide⟩) (by decide) (by decide)) (ms_0 (show rg (0 : Int32) (0) (0) from ⟨by decide, by decide⟩) (by decide)) bσ32_3087) (fun q hq => ⟨rg_w hq.1 (by decide) (by decide), hq.2⟩)
      · refine ok_nm (fun x12_3088 hx12_3088 => ?_)
        refine ok_gd (rg_inb (rg_eq hx12_3088 (rg_add (l := 32) (h := 37) (show rg (32 : Int32) (32) (32) from ⟨by decide, by decide⟩) r_a1 (by decide) (by decide) (by decide) (by decide))) (by decide) (by decide)) ?_
        refine ok_bn (s_X12_half qσ1_2917) (fun r14_3089 qr14_3089 => ?_)
        unfold F_X12_cuts_145
        refine ok_bn (s_X12_slant r_a1 qσ1_2917) (fun r15_3090 qr15_3090 => ?_)
        refine ok_bn (s_X12_half qσ1_2917) (fun r16_3091 qr16_3091 => ?_)
        refine ok_nm (fun x17_3092 hx17_3092 => ?_)
        refine ok_bn (s_X12_within qσ1_2917) (fun r18_3093 qr18_3093 => ?_)
        refine ok_nm (fun x19_3094 hx19_3094 => ?_)
        refine ok_gd (rg_inb (rg_eq hx19_3094 (rg_add (l := 38) (h := 43) (show rg (38 : Int32) (38) (38) from ⟨by decide, by decide⟩) r_a1 (by decide) (by decide) (by decide) (by decide))) (by decide) (by decide)) ?_
        refine ok_bn (s_X12_half qσ1_2917) (fun r21_3095 qr21_3095 => ?_)
        refine ok_bn (s_X12_slant r_a1 qσ1_2917) (fun r22_3096 qr22_3096 => ?_)
        refine ok_bn (s_X12_half qσ1_2917) (fun r23_3097 qr23_3097 => ?_)
        refine ok_nm (fun x24_3098 hx24_3098 => ?_)
        refine ok_bn (s_X12_within qσ1_2917) (fun r25_3099 qr25_3099 => ?_)
        refine ok_if (fun c_3100 => ?_) (fun c_3100 => ?_)
        · refine ok_bn (s_X12_size qσ1_2917) (fun r63_3101 qr63_3101 => ?_)
          refine ok_nm (fun x64_3102 hx64_3102 => ?_)
          refine ok_bn (s_X12_size qσ1_2917) (fun r65_3103 qr65_3103 => ?_)
          refine ok_nm (fun x66_3104 hx66_3104 => ?_)
          refine ok_bn (s_X12_tellsOf (rg_w (show rg (199 : Int32) (199) (199) from ⟨by decide, by decide⟩) (by decide) (by decide)) qσ1_2917) (fun r67_3105 qr67_3105 => ?_)
          refine ok_if (fun c_3106 => ?_) (fun c_3106 => ?_)
          · unfold F_X12_cuts_286
            refine ok_nm (fun σ28_3107 hσ28_3107 => ?_)
            have bσ28_3107 : BF g m σ28_3107 := by rw [hσ28_3107]; exact bf_set qσ1_2917 (rg_any _) (by decide)
            refine ok_nm (fun σ30_3108 hσ30_3108 => ?_)
            have bσ30_3108 : BF g m σ30_3108 := by rw [hσ30_3108]; exact bf_set bσ28_3107 (rg_any _) (by decide)
            refine ok_nm (fun σ32_3109 hσ32_3109 => ?_)
            have bσ32_3109 : BF g m σ32_3109 := by rw [hσ32_3109]; exact bf_set bσ30_3108 (rg_any _) (by decide)
            exact ok_mono (s_X12_cuts_305 r_a1 1024 _ _ _ _ _ _ r_a1 (rg_w (show rg (0 : Int32) (0) (0) from ⟨by decide, by decide⟩) (by decide) (by decide)) (ms_0 (show rg (0 : Int32) (0) (0) from ⟨by decide, by decide⟩) (by decide)) bσ32_3109) (fun q hq => ⟨rg_w hq.1 (by decide) (by decide), hq.2⟩)
          · refine ok_nm (fun σ70_3110 hσ70_3110 => ?_)
            have bσ70_3110 : BF g m σ70_3110 := by rw [hσ70_3110]; exact bf_set qσ1_2917 (rg_any _) (by decide)
            refine ok_nm (fun σ72_3111 hσ72_3111 => ?_)
            have bσ72_3111 : BF g m σ72_3111 := by rw [hσ72_3111]; exact bf_set bσ70_3110 (rg_any _) (by decide)
            refine ok_nm (fun σ74_3112 hσ74_3112 => ?_)
            have bσ74_3112 : BF g m σ74_3112 := by rw [hσ74_3112]; exact bf_set bσ72_3111 (rg_any _) (by decide)
            refine ok_nm (fun σ76_3113 hσ76_3113 => ?_)
            have bσ76_3113 : BF g m σ76_3113 := by rw [hσ76_3113]; exact bf_set bσ74_3112 (rg_any _) (by decide)
            exact ok_some ⟨(rg_w (show rg (0 : Int32) (0) (0) from ⟨by decide, by decide⟩) (by decide) (by decide)), bσ76_3113⟩
        · unfold F_X12_cuts_286
          refine ok_nm (fun σ28_3114 hσ28_3114 => ?_)
          have bσ28_3114 : BF g m σ28_3114 := by rw [hσ28_3114]; exact bf_set qσ1_2917 (rg_any _) (by decide)
          refine ok_nm (fun σ30_3115 hσ30_3115 => ?_)
          have bσ30_3115 : BF g m σ30_3115 := by rw [hσ30_3115]; exact bf_set bσ28_3114 (rg_any _) (by decide)
          refine ok_nm (fun σ32_3116 hσ32_3116 => ?_)
          have bσ32_3116 : BF g m σ32_3116 := by rw [hσ32_3116]; exact bf_set bσ30_3115 (rg_any _) (by decide)
          exact ok_mono (s_X12_cuts_305 r_a1 1024 _ _ _ _ _ _ r_a1 (rg_w (show rg (0 : Int32) (0) (0) from ⟨by decide, by decide⟩) (by decide) (by decide)) (ms_0 (show rg (0 : Int32) (0) (0) from ⟨by decide, by decide⟩) (by decide)) bσ32_3116) (fun q hq => ⟨rg_w hq.1 (by decide) (by decide), hq.2⟩)

set_option maxHeartbeats 4000000 in
set_option maxRecDepth 100000 in
theorem s_X12_isGood {g : Nat → Int32} {m : Int} {σ : SG} {ρ : RG} (hB : BF g m σ) : ok (F_X12_isGood σ ρ) (fun q => rg q (0) (1)) := by
  unfold F_X12_isGood
  refine ok_bn (s_X12_tellsOf (rg_w (show rg (194 : Int32) (194) (194) from ⟨by decide, by decide⟩) (by decide) (by decide)) hB) (fun r1_3119 qr1_3119 => ?_)
  refine ok_if (fun c_3120 => ?_) (fun c_3120 => ?_)
  · exact ok_some (rg_w (show rg (0 : Int32) (0) (0) from ⟨by decide, by decide⟩) (by decide) (by decide))
  · exact ok_some (rg_w (show rg (1 : Int32) (1) (1) from ⟨by decide, by decide⟩) (by decide) (by decide))

set_option maxHeartbeats 4000000 in
set_option maxRecDepth 100000 in
theorem s_X12_cut {g : Nat → Int32} {m : Int} {a1 : Int32} {σ : SG} {ρ : RG} (hB : BF g m σ) : ok (F_X12_cut a1 σ ρ) (fun q => rg q.1 (-2147483648) (2147483647) ∧ BF g m q.2) := by
  unfold F_X12_cut
  refine ok_bn (s_X12_isCutter hB.1) (fun r1_3130 qr1_3130 => ?_)
  refine ok_if (fun c_3131 => ?_) (fun c_3131 => ?_)
  · exact ok_some ⟨(rg_w (show rg (-1 : Int32) (-1) (-1) from ⟨by decide, by decide⟩) (by decide) (by decide)), hB⟩
  · obtain ⟨w_3132, w_3133⟩ := qr1_3130.2 c_3131
    refine ok_if (fun c_3134 => ?_) (fun c_3134 => ?_)
    · exact ok_some ⟨(rg_w (show rg (-3 : Int32) (-3) (-3) from ⟨by decide, by decide⟩) (by decide) (by decide)), hB⟩
    · refine ok_nm (fun x4_3135 hx4_3135 => ?_)
      refine ok_gd (rg_inb (rg_eq hx4_3135 (rg_add (l := 44) (h := 49) (show rg (44 : Int32) (44) (44) from ⟨by decide, by decide⟩) (rg_le w_3133 (rg_ge w_3132 (show rg (0 : Int32) (0) (0) from ⟨by decide, by decide⟩) (rg_any _)) (show rg (5 : Int32) (5) (5) from ⟨by decide, by decide⟩)) (by decide) (by decide) (by decide) (by decide))) (by decide) (by decide)) ?_
      refine ok_bn2 (s_X12_cuts (rg_le w_3133 (rg_ge w_3132 (show rg (0 : Int32) (0) (0) from ⟨by decide, by decide⟩) (rg_any _)) (show rg (5 : Int32) (5) (5) from ⟨by decide, by decide⟩)) hB) (fun r6_3136 σ6_3137 qr6_3136 => ?_)
      obtain ⟨hr6_3136, bσ6_3137⟩ := qr6_3136
      refine ok_if (fun c_3138 => ?_) (fun c_3138 => ?_)
      · exact ok_some ⟨(rg_w (show rg (-3 : Int32) (-3) (-3) from ⟨by decide, by decide⟩) (by decide) (by decide)), bσ6_3137⟩
      · exact ok_some ⟨(rg_any _), bσ6_3137⟩

set_option maxHeartbeats 4000000 in
set_option maxRecDepth 100000 in
theorem s_X12_right {g : Nat → Int32} {m : Int} {σ : SG} {ρ : RG} (hB : BF g m σ) : ok (F_X12_right σ ρ) (fun q => rg q.1 (-2147483648) (2147483647) ∧ BF g m q.2) := by
  unfold F_X12_right
  refine ok_bn (s_X12_leastCorner hB) (fun r1_3144 qr1_3144 => ?_)
  refine ok_bn (s_X12_tellsOf (rg_w (show rg (199 : Int32) (199) (199) from ⟨by decide, by decide⟩) (by decide) (by decide)) hB) (fun r2_3145 qr2_3145 => ?_)
  refine ok_if (fun c_3146 => ?_) (fun c_3146 => ?_)
  · refine ok_bn (s_X12_rights hB) (fun σ4_3147 qσ4_3147 => ?_)
    refine ok_nm (fun x5_3148 hx5_3148 => ?_)
    exact ok_some ⟨(rg_any _), qσ4_3147⟩
  · exact ok_some ⟨(rg_w (show rg (-3 : Int32) (-3) (-3) from ⟨by decide, by decide⟩) (by decide) (by decide)), hB⟩

set_option maxHeartbeats 4000000 in
set_option maxRecDepth 100000 in
theorem s_X12_turn {g : Nat → Int32} {m : Int} {a1 : Int32} {σ : SG} {ρ : RG} (hB : BF g m σ) : ok (F_X12_turn a1 σ ρ) (fun q => rg q.1 (-2147483648) (2147483647) ∧ BF g m q.2) := by
  unfold F_X12_turn
  refine ok_if (fun c_3154 => ?_) (fun c_3154 => ?_)
  · unfold F_X12_turn_9
    refine ok_gd (rg_inb (show rg (1 : Int32) (1) (1) from ⟨by decide, by decide⟩) (by decide) (by decide)) ?_
    refine ok_nm (fun x3_3155 hx3_3155 => ?_)
    refine ok_gd (rg_inb (show rg (1 : Int32) (1) (1) from ⟨by decide, by decide⟩) (by decide) (by decide)) ?_
    refine ok_nm (fun σ6_3156 hσ6_3156 => ?_)
    have bσ6_3156 : BF g m σ6_3156 := by rw [hσ6_3156]; exact bf_setx hB (a := 1) (b := 1) (show rg (1 : Int32) (1) (1) from ⟨by decide, by decide⟩) (rg_any _) (by decide)
    refine ok_gd (rg_inb (show rg (1 : Int32) (1) (1) from ⟨by decide, by decide⟩) (by decide) (by decide)) ?_
    exact ok_some ⟨(rg_any _), bσ6_3156⟩
  · unfold F_X12_turn_9
    refine ok_gd (rg_inb (show rg (2 : Int32) (2) (2) from ⟨by decide, by decide⟩) (by decide) (by decide)) ?_
    refine ok_nm (fun x3_3157 hx3_3157 => ?_)
    refine ok_gd (rg_inb (show rg (2 : Int32) (2) (2) from ⟨by decide, by decide⟩) (by decide) (by decide)) ?_
    refine ok_nm (fun σ6_3158 hσ6_3158 => ?_)
    have bσ6_3158 : BF g m σ6_3158 := by rw [hσ6_3158]; exact bf_setx hB (a := 2) (b := 2) (show rg (2 : Int32) (2) (2) from ⟨by decide, by decide⟩) (rg_any _) (by decide)
    refine ok_gd (rg_inb (show rg (2 : Int32) (2) (2) from ⟨by decide, by decide⟩) (by decide) (by decide)) ?_
    exact ok_some ⟨(rg_any _), bσ6_3158⟩

set_option maxHeartbeats 4000000 in
set_option maxRecDepth 100000 in
theorem s_X12_would {g : Nat → Int32} {m : Int} {a1 : Int32} {a2 : Int32} {σ : SG} {ρ : RG} (hB : BF g m σ) : ok (F_X12_would a1 a2 σ ρ) (fun q => rg q.1 (-2147483648) (2147483647) ∧ BF g m q.2) := by
  unfold F_X12_would
  refine ok_bn (s_X12_isCutter hB.1) (fun r1_3185 qr1_3185 => ?_)
  refine ok_if (fun c_3186 => ?_) (fun c_3186 => ?_)
  · exact ok_some ⟨(rg_w (show rg (-10001 : Int32) (-10001) (-10001) from ⟨by decide, by decide⟩) (by decide) (by decide)), hB⟩
  · obtain ⟨w_3187, w_3188⟩ := qr1_3185.2 c_3186
    refine ok_bn (s_X12_in) (fun r3_3189 qr3_3189 => ?_)
    refine ok_if (fun c_3190 => ?_) (fun c_3190 => ?_)
    · exact ok_some ⟨(rg_w (show rg (-10001 : Int32) (-10001) (-10001) from ⟨by decide, by decide⟩) (by decide) (by decide)), hB⟩
    · obtain ⟨w_3191, w_3192⟩ := qr3_3189.2 c_3190
      refine ok_bn (s_X12_keeps hB) (fun σ5_3193 qσ5_3193 => ?_)
      refine ok_nm (fun x6_3194 hx6_3194 => ?_)
      refine ok_gd (rg_inb (rg_eq hx6_3194 (rg_add (l := 44) (h := 49) (show rg (44 : Int32) (44) (44) from ⟨by decide, by decide⟩) (rg_le w_3188 (rg_ge w_3187 (show rg (0 : Int32) (0) (0) from ⟨by decide, by decide⟩) (rg_any _)) (show rg (5 : Int32) (5) (5) from ⟨by decide, by decide⟩)) (by decide) (by decide) (by decide) (by decide))) (by decide) (by decide)) ?_
      refine ok_bn2 (s_X12_cuts (rg_le w_3188 (rg_ge w_3187 (show rg (0 : Int32) (0) (0) from ⟨by decide, by decide⟩) (rg_any _)) (show rg (5 : Int32) (5) (5) from ⟨by decide, by decide⟩)) qσ5_3193) (fun r8_3195 σ8_3196 qr8_3195 => ?_)
      obtain ⟨hr8_3195, bσ8_3196⟩ := qr8_3195
      refine ok_if (fun c_3197 => ?_) (fun c_3197 => ?_)
      · refine ok_bn (s_X12_goesBack bσ8_3196) (fun σ10_3198 qσ10_3198 => ?_)
        exact ok_some ⟨(rg_w (show rg (-10005 : Int32) (-10005) (-10005) from ⟨by decide, by decide⟩) (by decide) (by decide)), qσ10_3198⟩
      · refine ok_nm (fun x11_3199 hx11_3199 => ?_)
        refine ok_if (fun c_3200 => ?_) (fun c_3200 => ?_)
        · refine ok_bn (s_X12_goesBack bσ8_3196) (fun σ23_3201 qσ23_3201 => ?_)
          exact ok_some ⟨(rg_any _), qσ23_3201⟩
        · refine ok_if (fun c_3202 => ?_) (fun c_3202 => ?_)
          · refine ok_bn (s_X12_goesBack bσ8_3196) (fun σ22_3203 qσ22_3203 => ?_)
            exact ok_some ⟨(rg_any _), qσ22_3203⟩
          · refine ok_if (fun c_3204 => ?_) (fun c_3204 => ?_)
            · refine ok_bn (s_X12_goesBack bσ8_3196) (fun σ21_3205 qσ21_3205 => ?_)
              exact ok_some ⟨(rg_any _), qσ21_3205⟩
            · refine ok_if (fun c_3206 => ?_) (fun c_3206 => ?_)
              · refine ok_bn (s_X12_goesBack bσ8_3196) (fun σ20_3207 qσ20_3207 => ?_)
                exact ok_some ⟨(rg_any _), qσ20_3207⟩
              · refine ok_nm (fun x16_3208 hx16_3208 => ?_)
                refine ok_nm (fun x17_3209 hx17_3209 => ?_)
                refine ok_gd (rg_inb (rg_eq hx17_3209 (rg_sub (l := 0) (h := 2) (rg_eq hx16_3208 (rg_add (l := 3) (h := 5) (show rg (0 : Int32) (0) (0) from ⟨by decide, by decide⟩) (rg_neh c_3206 (rg_nel c_3204 (rg_nel c_3202 (rg_nel c_3200 (rg_le w_3192 (rg_ge w_3191 (show rg (0 : Int32) (0) (0) from ⟨by decide, by decide⟩) (rg_any _)) (show rg (6 : Int32) (6) (6) from ⟨by decide, by decide⟩)) (show rg (0 : Int32) (0) (0) from ⟨by decide, by decide⟩) rfl) (show rg (1 : Int32) (1) (1) from ⟨by decide, by decide⟩) rfl) (show rg (2 : Int32) (2) (2) from ⟨by decide, by decide⟩) rfl) (show rg (6 : Int32) (6) (6) from ⟨by decide, by decide⟩) rfl) (by decide) (by decide) (by decide) (by decide))) (show rg (3 : Int32) (3) (3) from ⟨by decide, by decide⟩) (by decide) (by decide) (by decide) (by decide))) (by decide) (by decide)) ?_
                refine ok_bn (s_X12_goesBack bσ8_3196) (fun σ19_3210 qσ19_3210 => ?_)
                exact ok_some ⟨(rg_any _), qσ19_3210⟩

set_option maxHeartbeats 4000000 in
set_option maxRecDepth 100000 in
theorem s_X12_goesOn_18 {g : Nat → Int32} {m : Int} {a1 : Int32} {a2 : Int32} {a3 : Int32} {ρ : RG} (r_a1 : rg a1 (0) (200)) : ∀ (n : Nat) (σ : SG) (v1 : Int32) (v2 : Int32) (v3 : Int32) (v4 : Int32), rg v1 (0) (200) → rg v4 (0) (200) → (200 : Int) - v4.toInt < (n : Int) → BF g m σ → ok (F_X12_goesOn_18 a1 a2 a3 n σ ρ v1 v2 v3 v4) (fun q => BF g m q) := by
  intro n
  induction n with
  | zero => intro σ v1 v2 v3 v4 r_v1 r_v4 hm hB; exact (ms_z r_v4 (by decide) hm).elim
  | succ n ih =>
    intro σ v1 v2 v3 v4 r_v1 r_v4 hm hB
    unfold F_X12_goesOn_18
    refine ok_if (fun c_3300 => ?_) (fun c_3300 => ?_)
    · exact ok_some hB
    · refine ok_if (fun c_3301 => ?_) (fun c_3301 => ?_)
      · exact ok_some hB
      · refine ok_gd (rg_ne0 (rg_gt (nle c_3301) (show rg (0 : Int32) (0) (0) from ⟨by decide, by decide⟩) (bx_get hB.1 (r := 55) (a := 11) (b := 11) (k := 11) (l := 0) (h := 6) (by decide) (by decide) (by decide))) (by decide)) ?_
        refine ok_nm (fun x10_3302 hx10_3302 => ?_)
        refine ok_if (fun c_3303 => ?_) (fun c_3303 => ?_)
        · refine ok_bn (s_X12_leastCorner hB) (fun r29_3304 qr29_3304 => ?_)
          refine ok_bn (s_X12_tellsOf (rg_w (show rg (199 : Int32) (199) (199) from ⟨by decide, by decide⟩) (by decide) (by decide)) hB) (fun r30_3305 qr30_3305 => ?_)
          refine ok_if (fun c_3306 => ?_) (fun c_3306 => ?_)
          · unfold F_X12_goesOn_72
            refine ok_nm (fun x12_3307 hx12_3307 => ?_)
            refine ok_gd (rg_inb (rg_eq hx12_3307 (rg_add (l := 44) (h := 49) (show rg (44 : Int32) (44) (44) from ⟨by decide, by decide⟩) (rg_eq hx10_3302 (rg_rem0 (rg_lt (nle c_3300) r_v4 (rg_gt (nle c_3300) r_v4 r_v1)) (rg_gt (nle c_3301) (show rg (0 : Int32) (0) (0) from ⟨by decide, by decide⟩) (bx_get hB.1 (r := 55) (a := 11) (b := 11) (k := 11) (l := 0) (h := 6) (by decide) (by decide) (by decide))) (by decide) (by decide))) (by decide) (by decide) (by decide) (by decide))) (by decide) (by decide)) ?_
            refine ok_bn2 (s_X12_cuts (rg_eq hx10_3302 (rg_rem0 (rg_lt (nle c_3300) r_v4 (rg_gt (nle c_3300) r_v4 r_v1)) (rg_gt (nle c_3301) (show rg (0 : Int32) (0) (0) from ⟨by decide, by decide⟩) (bx_get hB.1 (r := 55) (a := 11) (b := 11) (k := 11) (l := 0) (h := 6) (by decide) (by decide) (by decide))) (by decide) (by decide))) hB) (fun r14_3308 σ14_3309 qr14_3308 => ?_)
            obtain ⟨hr14_3308, bσ14_3309⟩ := qr14_3308
            refine ok_if (fun c_3310 => ?_) (fun c_3310 => ?_)
            · exact ok_some bσ14_3309
            · refine ok_nm (fun x16_3311 hx16_3311 => ?_)
              refine ok_nm (fun σ18_3312 hσ18_3312 => ?_)
              have bσ18_3312 : BF g m σ18_3312 := by rw [hσ18_3312]; exact bf_set bσ14_3309 (rg_any _) (by decide)
              refine ok_bn (s_X12_isGood bσ18_3312) (fun r19_3313 qr19_3313 => ?_)
              refine ok_if (fun c_3314 => ?_) (fun c_3314 => ?_)
              · unfold F_X12_goesOn_119
                refine ok_nm (fun x21_3315 hx21_3315 => ?_)
                refine ok_nm (fun σ23_3316 hσ23_3316 => ?_)
                have bσ23_3316 : BF g m σ23_3316 := by rw [hσ23_3316]; exact bf_set bσ18_3312 (rg_any _) (by decide)
                refine ok_if (fun c_3317 => ?_) (fun c_3317 => ?_)
                · unfold F_X12_goesOn_141
                  refine ok_nm (fun x25_3318 hx25_3318 => ?_)
                  refine ok_nm (fun σ27_3319 hσ27_3319 => ?_)
                  have bσ27_3319 : BF g m σ27_3319 := by rw [hσ27_3319]; exact bf_set bσ23_3316 (rg_any _) (by decide)
                  refine ok_nm (fun x28_3320 hx28_3320 => ?_)
                  exact ih _ _ _ _ _ (rg_w (rg_gt (nle c_3300) (rg_lt (nle c_3300) r_v4 r_v1) r_v1) (by decide) (by decide)) (rg_w (rg_eq hx28_3320 (rg_add (l := 1) (h := 200) (rg_lt (nle c_3300) r_v4 (rg_gt (nle c_3300) r_v4 r_v1)) (show rg (1 : Int32) (1) (1) from ⟨by decide, by decide⟩) (by decide) (by decide) (by decide) (by decide))) (by decide) (by decide)) (ms_s hx28_3320 (rg_lt (nle c_3300) r_v4 (rg_gt (nle c_3300) r_v4 r_v1)) (by decide) (by decide) hm) bσ27_3319
                · unfold F_X12_goesOn_141
                  refine ok_nm (fun x25_3321 hx25_3321 => ?_)
                  refine ok_nm (fun σ27_3322 hσ27_3322 => ?_)
                  have bσ27_3322 : BF g m σ27_3322 := by rw [hσ27_3322]; exact bf_set bσ23_3316 (rg_any _) (by decide)
                  refine ok_nm (fun x28_3323 hx28_3323 => ?_)
                  exact ih _ _ _ _ _ (rg_w (rg_gt (nle c_3300) (rg_lt (nle c_3300) r_v4 r_v1) r_v1) (by decide) (by decide)) (rg_w (rg_eq hx28_3323 (rg_add (l := 1) (h := 200) (rg_lt (nle c_3300) r_v4 (rg_gt (nle c_3300) r_v4 r_v1)) (show rg (1 : Int32) (1) (1) from ⟨by decide, by decide⟩) (by decide) (by decide) (by decide) (by decide))) (by decide) (by decide)) (ms_s hx28_3323 (rg_lt (nle c_3300) r_v4 (rg_gt (nle c_3300) r_v4 r_v1)) (by decide) (by decide) hm) bσ27_3322
              · unfold F_X12_goesOn_119
                refine ok_nm (fun x21_3324 hx21_3324 => ?_)
                refine ok_nm (fun σ23_3325 hσ23_3325 => ?_)
                have bσ23_3325 : BF g m σ23_3325 := by rw [hσ23_3325]; exact bf_set bσ18_3312 (rg_any _) (by decide)
                refine ok_if (fun c_3326 => ?_) (fun c_3326 => ?_)
                · unfold F_X12_goesOn_141
                  refine ok_nm (fun x25_3327 hx25_3327 => ?_)
                  refine ok_nm (fun σ27_3328 hσ27_3328 => ?_)
                  have bσ27_3328 : BF g m σ27_3328 := by rw [hσ27_3328]; exact bf_set bσ23_3325 (rg_any _) (by decide)
                  refine ok_nm (fun x28_3329 hx28_3329 => ?_)
                  exact ih _ _ _ _ _ (rg_w (rg_gt (nle c_3300) (rg_lt (nle c_3300) r_v4 r_v1) r_v1) (by decide) (by decide)) (rg_w (rg_eq hx28_3329 (rg_add (l := 1) (h := 200) (rg_lt (nle c_3300) r_v4 (rg_gt (nle c_3300) r_v4 r_v1)) (show rg (1 : Int32) (1) (1) from ⟨by decide, by decide⟩) (by decide) (by decide) (by decide) (by decide))) (by decide) (by decide)) (ms_s hx28_3329 (rg_lt (nle c_3300) r_v4 (rg_gt (nle c_3300) r_v4 r_v1)) (by decide) (by decide) hm) bσ27_3328
                · unfold F_X12_goesOn_141
                  refine ok_nm (fun x25_3330 hx25_3330 => ?_)
                  refine ok_nm (fun σ27_3331 hσ27_3331 => ?_)
                  have bσ27_3331 : BF g m σ27_3331 := by rw [hσ27_3331]; exact bf_set bσ23_3325 (rg_any _) (by decide)
                  refine ok_nm (fun x28_3332 hx28_3332 => ?_)
                  exact ih _ _ _ _ _ (rg_w (rg_gt (nle c_3300) (rg_lt (nle c_3300) r_v4 r_v1) r_v1) (by decide) (by decide)) (rg_w (rg_eq hx28_3332 (rg_add (l := 1) (h := 200) (rg_lt (nle c_3300) r_v4 (rg_gt (nle c_3300) r_v4 r_v1)) (show rg (1 : Int32) (1) (1) from ⟨by decide, by decide⟩) (by decide) (by decide) (by decide) (by decide))) (by decide) (by decide)) (ms_s hx28_3332 (rg_lt (nle c_3300) r_v4 (rg_gt (nle c_3300) r_v4 r_v1)) (by decide) (by decide) hm) bσ27_3331
          · refine ok_bn (s_X12_rights hB) (fun σ32_3333 qσ32_3333 => ?_)
            unfold F_X12_goesOn_72
            refine ok_nm (fun x12_3334 hx12_3334 => ?_)
            refine ok_gd (rg_inb (rg_eq hx12_3334 (rg_add (l := 44) (h := 49) (show rg (44 : Int32) (44) (44) from ⟨by decide, by decide⟩) (rg_eq hx10_3302 (rg_rem0 (rg_lt (nle c_3300) r_v4 (rg_gt (nle c_3300) r_v4 r_v1)) (rg_gt (nle c_3301) (show rg (0 : Int32) (0) (0) from ⟨by decide, by decide⟩) (bx_get hB.1 (r := 55) (a := 11) (b := 11) (k := 11) (l := 0) (h := 6) (by decide) (by decide) (by decide))) (by decide) (by decide))) (by decide) (by decide) (by decide) (by decide))) (by decide) (by decide)) ?_
            refine ok_bn2 (s_X12_cuts (rg_eq hx10_3302 (rg_rem0 (rg_lt (nle c_3300) r_v4 (rg_gt (nle c_3300) r_v4 r_v1)) (rg_gt (nle c_3301) (show rg (0 : Int32) (0) (0) from ⟨by decide, by decide⟩) (bx_get hB.1 (r := 55) (a := 11) (b := 11) (k := 11) (l := 0) (h := 6) (by decide) (by decide) (by decide))) (by decide) (by decide))) qσ32_3333) (fun r14_3335 σ14_3336 qr14_3335 => ?_)
            obtain ⟨hr14_3335, bσ14_3336⟩ := qr14_3335
            refine ok_if (fun c_3337 => ?_) (fun c_3337 => ?_)
            · exact ok_some bσ14_3336
            · refine ok_nm (fun x16_3338 hx16_3338 => ?_)
              refine ok_nm (fun σ18_3339 hσ18_3339 => ?_)
              have bσ18_3339 : BF g m σ18_3339 := by rw [hσ18_3339]; exact bf_set bσ14_3336 (rg_any _) (by decide)
              refine ok_bn (s_X12_isGood bσ18_3339) (fun r19_3340 qr19_3340 => ?_)
              refine ok_if (fun c_3341 => ?_) (fun c_3341 => ?_)
              · unfold F_X12_goesOn_119
                refine ok_nm (fun x21_3342 hx21_3342 => ?_)
                refine ok_nm (fun σ23_3343 hσ23_3343 => ?_)
                have bσ23_3343 : BF g m σ23_3343 := by rw [hσ23_3343]; exact bf_set bσ18_3339 (rg_any _) (by decide)
                refine ok_if (fun c_3344 => ?_) (fun c_3344 => ?_)
                · unfold F_X12_goesOn_141
                  refine ok_nm (fun x25_3345 hx25_3345 => ?_)
                  refine ok_nm (fun σ27_3346 hσ27_3346 => ?_)
                  have bσ27_3346 : BF g m σ27_3346 := by rw [hσ27_3346]; exact bf_set bσ23_3343 (rg_any _) (by decide)
                  refine ok_nm (fun x28_3347 hx28_3347 => ?_)
                  exact ih _ _ _ _ _ (rg_w (rg_gt (nle c_3300) (rg_lt (nle c_3300) r_v4 r_v1) r_v1) (by decide) (by decide)) (rg_w (rg_eq hx28_3347 (rg_add (l := 1) (h := 200) (rg_lt (nle c_3300) r_v4 (rg_gt (nle c_3300) r_v4 r_v1)) (show rg (1 : Int32) (1) (1) from ⟨by decide, by decide⟩) (by decide) (by decide) (by decide) (by decide))) (by decide) (by decide)) (ms_s hx28_3347 (rg_lt (nle c_3300) r_v4 (rg_gt (nle c_3300) r_v4 r_v1)) (by decide) (by decide) hm) bσ27_3346
                · unfold F_X12_goesOn_141
                  refine ok_nm (fun x25_3348 hx25_3348 => ?_)
                  refine ok_nm (fun σ27_3349 hσ27_3349 => ?_)
                  have bσ27_3349 : BF g m σ27_3349 := by rw [hσ27_3349]; exact bf_set bσ23_3343 (rg_any _) (by decide)
                  refine ok_nm (fun x28_3350 hx28_3350 => ?_)
                  exact ih _ _ _ _ _ (rg_w (rg_gt (nle c_3300) (rg_lt (nle c_3300) r_v4 r_v1) r_v1) (by decide) (by decide)) (rg_w (rg_eq hx28_3350 (rg_add (l := 1) (h := 200) (rg_lt (nle c_3300) r_v4 (rg_gt (nle c_3300) r_v4 r_v1)) (show rg (1 : Int32) (1) (1) from ⟨by decide, by decide⟩) (by decide) (by decide) (by decide) (by decide))) (by decide) (by decide)) (ms_s hx28_3350 (rg_lt (nle c_3300) r_v4 (rg_gt (nle c_3300) r_v4 r_v1)) (by decide) (by decide) hm) bσ27_3349
              · unfold F_X12_goesOn_119
                refine ok_nm (fun x21_3351 hx21_3351 => ?_)
                refine ok_nm (fun σ23_3352 hσ23_3352 => ?_)
                have bσ23_3352 : BF g m σ23_3352 := by rw [hσ23_3352]; exact bf_set bσ18_3339 (rg_any _) (by decide)
                refine ok_if (fun c_3353 => ?_) (fun c_3353 => ?_)
                · unfold F_X12_goesOn_141
                  refine ok_nm (fun x25_3354 hx25_3354 => ?_)
                  refine ok_nm (fun σ27_3355 hσ27_3355 => ?_)
                  have bσ27_3355 : BF g m σ27_3355 := by rw [hσ27_3355]; exact bf_set bσ23_3352 (rg_any _) (by decide)
                  refine ok_nm (fun x28_3356 hx28_3356 => ?_)
                  exact ih _ _ _ _ _ (rg_w (rg_gt (nle c_3300) (rg_lt (nle c_3300) r_v4 r_v1) r_v1) (by decide) (by decide)) (rg_w (rg_eq hx28_3356 (rg_add (l := 1) (h := 200) (rg_lt (nle c_3300) r_v4 (rg_gt (nle c_3300) r_v4 r_v1)) (show rg (1 : Int32) (1) (1) from ⟨by decide, by decide⟩) (by decide) (by decide) (by decide) (by decide))) (by decide) (by decide)) (ms_s hx28_3356 (rg_lt (nle c_3300) r_v4 (rg_gt (nle c_3300) r_v4 r_v1)) (by decide) (by decide) hm) bσ27_3355
                · unfold F_X12_goesOn_141
                  refine ok_nm (fun x25_3357 hx25_3357 => ?_)
                  refine ok_nm (fun σ27_3358 hσ27_3358 => ?_)
                  have bσ27_3358 : BF g m σ27_3358 := by rw [hσ27_3358]; exact bf_set bσ23_3352 (rg_any _) (by decide)
                  refine ok_nm (fun x28_3359 hx28_3359 => ?_)
                  exact ih _ _ _ _ _ (rg_w (rg_gt (nle c_3300) (rg_lt (nle c_3300) r_v4 r_v1) r_v1) (by decide) (by decide)) (rg_w (rg_eq hx28_3359 (rg_add (l := 1) (h := 200) (rg_lt (nle c_3300) r_v4 (rg_gt (nle c_3300) r_v4 r_v1)) (show rg (1 : Int32) (1) (1) from ⟨by decide, by decide⟩) (by decide) (by decide) (by decide) (by decide))) (by decide) (by decide)) (ms_s hx28_3359 (rg_lt (nle c_3300) r_v4 (rg_gt (nle c_3300) r_v4 r_v1)) (by decide) (by decide) hm) bσ27_3358
        · unfold F_X12_goesOn_72
          refine ok_nm (fun x12_3360 hx12_3360 => ?_)
          refine ok_gd (rg_inb (rg_eq hx12_3360 (rg_add (l := 44) (h := 49) (show rg (44 : Int32) (44) (44) from ⟨by decide, by decide⟩) (rg_eq hx10_3302 (rg_rem0 (rg_lt (nle c_3300) r_v4 (rg_gt (nle c_3300) r_v4 r_v1)) (rg_gt (nle c_3301) (show rg (0 : Int32) (0) (0) from ⟨by decide, by decide⟩) (bx_get hB.1 (r := 55) (a := 11) (b := 11) (k := 11) (l := 0) (h := 6) (by decide) (by decide) (by decide))) (by decide) (by decide))) (by decide) (by decide) (by decide) (by decide))) (by decide) (by decide)) ?_
          refine ok_bn2 (s_X12_cuts (rg_eq hx10_3302 (rg_rem0 (rg_lt (nle c_3300) r_v4 (rg_gt (nle c_3300) r_v4 r_v1)) (rg_gt (nle c_3301) (show rg (0 : Int32) (0) (0) from ⟨by decide, by decide⟩) (bx_get hB.1 (r := 55) (a := 11) (b := 11) (k := 11) (l := 0) (h := 6) (by decide) (by decide) (by decide))) (by decide) (by decide))) hB) (fun r14_3361 σ14_3362 qr14_3361 => ?_)
          obtain ⟨hr14_3361, bσ14_3362⟩ := qr14_3361
          refine ok_if (fun c_3363 => ?_) (fun c_3363 => ?_)
          · exact ok_some bσ14_3362
          · refine ok_nm (fun x16_3364 hx16_3364 => ?_)
            refine ok_nm (fun σ18_3365 hσ18_3365 => ?_)
            have bσ18_3365 : BF g m σ18_3365 := by rw [hσ18_3365]; exact bf_set bσ14_3362 (rg_any _) (by decide)
            refine ok_bn (s_X12_isGood bσ18_3365) (fun r19_3366 qr19_3366 => ?_)
            refine ok_if (fun c_3367 => ?_) (fun c_3367 => ?_)
            · unfold F_X12_goesOn_119
              refine ok_nm (fun x21_3368 hx21_3368 => ?_)
              refine ok_nm (fun σ23_3369 hσ23_3369 => ?_)
              have bσ23_3369 : BF g m σ23_3369 := by rw [hσ23_3369]; exact bf_set bσ18_3365 (rg_any _) (by decide)
              refine ok_if (fun c_3370 => ?_) (fun c_3370 => ?_)
              · unfold F_X12_goesOn_141
                refine ok_nm (fun x25_3371 hx25_3371 => ?_)
                refine ok_nm (fun σ27_3372 hσ27_3372 => ?_)
                have bσ27_3372 : BF g m σ27_3372 := by rw [hσ27_3372]; exact bf_set bσ23_3369 (rg_any _) (by decide)
                refine ok_nm (fun x28_3373 hx28_3373 => ?_)
                exact ih _ _ _ _ _ (rg_w (rg_gt (nle c_3300) (rg_lt (nle c_3300) r_v4 r_v1) r_v1) (by decide) (by decide)) (rg_w (rg_eq hx28_3373 (rg_add (l := 1) (h := 200) (rg_lt (nle c_3300) r_v4 (rg_gt (nle c_3300) r_v4 r_v1)) (show rg (1 : Int32) (1) (1) from ⟨by decide, by decide⟩) (by decide) (by decide) (by decide) (by decide))) (by decide) (by decide)) (ms_s hx28_3373 (rg_lt (nle c_3300) r_v4 (rg_gt (nle c_3300) r_v4 r_v1)) (by decide) (by decide) hm) bσ27_3372
              · unfold F_X12_goesOn_141
                refine ok_nm (fun x25_3374 hx25_3374 => ?_)
                refine ok_nm (fun σ27_3375 hσ27_3375 => ?_)
                have bσ27_3375 : BF g m σ27_3375 := by rw [hσ27_3375]; exact bf_set bσ23_3369 (rg_any _) (by decide)
                refine ok_nm (fun x28_3376 hx28_3376 => ?_)
                exact ih _ _ _ _ _ (rg_w (rg_gt (nle c_3300) (rg_lt (nle c_3300) r_v4 r_v1) r_v1) (by decide) (by decide)) (rg_w (rg_eq hx28_3376 (rg_add (l := 1) (h := 200) (rg_lt (nle c_3300) r_v4 (rg_gt (nle c_3300) r_v4 r_v1)) (show rg (1 : Int32) (1) (1) from ⟨by decide, by decide⟩) (by decide) (by decide) (by decide) (by decide))) (by decide) (by decide)) (ms_s hx28_3376 (rg_lt (nle c_3300) r_v4 (rg_gt (nle c_3300) r_v4 r_v1)) (by decide) (by decide) hm) bσ27_3375
            · unfold F_X12_goesOn_119
              refine ok_nm (fun x21_3377 hx21_3377 => ?_)
              refine ok_nm (fun σ23_3378 hσ23_3378 => ?_)
              have bσ23_3378 : BF g m σ23_3378 := by rw [hσ23_3378]; exact bf_set bσ18_3365 (rg_any _) (by decide)
              refine ok_if (fun c_3379 => ?_) (fun c_3379 => ?_)
              · unfold F_X12_goesOn_141
                refine ok_nm (fun x25_3380 hx25_3380 => ?_)
                refine ok_nm (fun σ27_3381 hσ27_3381 => ?_)
                have bσ27_3381 : BF g m σ27_3381 := by rw [hσ27_3381]; exact bf_set bσ23_3378 (rg_any _) (by decide)
                refine ok_nm (fun x28_3382 hx28_3382 => ?_)
                exact ih _ _ _ _ _ (rg_w (rg_gt (nle c_3300) (rg_lt (nle c_3300) r_v4 r_v1) r_v1) (by decide) (by decide)) (rg_w (rg_eq hx28_3382 (rg_add (l := 1) (h := 200) (rg_lt (nle c_3300) r_v4 (rg_gt (nle c_3300) r_v4 r_v1)) (show rg (1 : Int32) (1) (1) from ⟨by decide, by decide⟩) (by decide) (by decide) (by decide) (by decide))) (by decide) (by decide)) (ms_s hx28_3382 (rg_lt (nle c_3300) r_v4 (rg_gt (nle c_3300) r_v4 r_v1)) (by decide) (by decide) hm) bσ27_3381
              · unfold F_X12_goesOn_141
                refine ok_nm (fun x25_3383 hx25_3383 => ?_)
                refine ok_nm (fun σ27_3384 hσ27_3384 => ?_)
                have bσ27_3384 : BF g m σ27_3384 := by rw [hσ27_3384]; exact bf_set bσ23_3378 (rg_any _) (by decide)
                refine ok_nm (fun x28_3385 hx28_3385 => ?_)
                exact ih _ _ _ _ _ (rg_w (rg_gt (nle c_3300) (rg_lt (nle c_3300) r_v4 r_v1) r_v1) (by decide) (by decide)) (rg_w (rg_eq hx28_3385 (rg_add (l := 1) (h := 200) (rg_lt (nle c_3300) r_v4 (rg_gt (nle c_3300) r_v4 r_v1)) (show rg (1 : Int32) (1) (1) from ⟨by decide, by decide⟩) (by decide) (by decide) (by decide) (by decide))) (by decide) (by decide)) (ms_s hx28_3385 (rg_lt (nle c_3300) r_v4 (rg_gt (nle c_3300) r_v4 r_v1)) (by decide) (by decide) hm) bσ27_3384

set_option maxHeartbeats 4000000 in
set_option maxRecDepth 100000 in
theorem s_X12_goesOn {g : Nat → Int32} {m : Int} {a1 : Int32} {a2 : Int32} {a3 : Int32} {σ : SG} {ρ : RG} (r_a1 : rg a1 (0) (200)) (hB : BF g m σ) : ok (F_X12_goesOn a1 a2 a3 σ ρ) (fun q => BF g m q) := by
  unfold F_X12_goesOn
  refine ok_nm (fun σ2_3386 hσ2_3386 => ?_)
  have bσ2_3386 : BF g m σ2_3386 := by rw [hσ2_3386]; exact bf_set hB (rg_any _) (by decide)
  refine ok_nm (fun σ4_3387 hσ4_3387 => ?_)
  have bσ4_3387 : BF g m σ4_3387 := by rw [hσ4_3387]; exact bf_set bσ2_3386 (rg_any _) (by decide)
  refine ok_nm (fun σ6_3388 hσ6_3388 => ?_)
  have bσ6_3388 : BF g m σ6_3388 := by rw [hσ6_3388]; exact bf_set bσ4_3387 (rg_any _) (by decide)
  exact (s_X12_goesOn_18 r_a1 1024 _ _ _ _ _ r_a1 (rg_w (show rg (0 : Int32) (0) (0) from ⟨by decide, by decide⟩) (by decide) (by decide)) (ms_0 (show rg (0 : Int32) (0) (0) from ⟨by decide, by decide⟩) (by decide)) bσ6_3388)

set_option maxHeartbeats 4000000 in
set_option maxRecDepth 100000 in
theorem s_X12_goodBy {g : Nat → Int32} {m : Int} {a1 : Int32} {a2 : Int32} {σ : SG} {ρ : RG} (r_a1 : rg a1 (0) (40)) (hB : BF g m σ) : ok (F_X12_goodBy a1 a2 σ ρ) (fun q => rg q.1 (-2147483648) (2147483647) ∧ BF g m q.2) := by
  unfold F_X12_goodBy
  refine ok_bn (s_X12_goesOn (rg_w r_a1 (by decide) (by decide)) hB) (fun σ1_3391 qσ1_3391 => ?_)
  refine ok_bn (s_X12_goesBack qσ1_3391) (fun σ2_3392 qσ2_3392 => ?_)
  exact ok_some ⟨(rg_any _), qσ2_3392⟩

set_option maxHeartbeats 4000000 in
set_option maxRecDepth 100000 in
theorem s_X12_on {g : Nat → Int32} {m : Int} {a1 : Int32} {a2 : Int32} {σ : SG} {ρ : RG} (hB : BF g m σ) : ok (F_X12_on a1 a2 σ ρ) (fun q => rg q.1 (-2147483648) (2147483647) ∧ BF g m q.2) := by
  unfold F_X12_on
  refine ok_bn (s_X12_in) (fun r1_3446 qr1_3446 => ?_)
  refine ok_if (fun c_3447 => ?_) (fun c_3447 => ?_)
  · refine ok_nm (fun x26_3448 hx26_3448 => ?_)
    refine ok_bn (s_X12_isCutter hB.1) (fun r27_3449 qr27_3449 => ?_)
    refine ok_if (fun c_3450 => ?_) (fun c_3450 => ?_)
    · exact ok_some ⟨(rg_w (show rg (-10001 : Int32) (-10001) (-10001) from ⟨by decide, by decide⟩) (by decide) (by decide)), hB⟩
    · obtain ⟨w_3451, w_3452⟩ := qr27_3449.2 c_3450
      unfold F_X12_on_24
      refine ok_bn (s_X12_in) (fun r3_3453 qr3_3453 => ?_)
      refine ok_if (fun c_3454 => ?_) (fun c_3454 => ?_)
      · exact ok_some ⟨(rg_w (show rg (-10002 : Int32) (-10002) (-10002) from ⟨by decide, by decide⟩) (by decide) (by decide)), hB⟩
      · obtain ⟨w_3455, w_3456⟩ := qr3_3453.2 c_3454
        refine ok_bn (s_X12_keeps hB) (fun σ5_3457 qσ5_3457 => ?_)
        refine ok_bn (s_X12_goesOn (rg_w (rg_le w_3456 (rg_ge w_3455 (show rg (0 : Int32) (0) (0) from ⟨by decide, by decide⟩) (rg_any _)) (show rg (40 : Int32) (40) (40) from ⟨by decide, by decide⟩)) (by decide) (by decide)) qσ5_3457) (fun σ6_3458 qσ6_3458 => ?_)
        refine ok_if (fun c_3459 => ?_) (fun c_3459 => ?_)
        · refine ok_if (fun c_3460 => ?_) (fun c_3460 => ?_)
          · refine ok_nm (fun x21_3461 hx21_3461 => ?_)
            refine ok_bn (s_X12_goesBack qσ6_3458) (fun σ22_3462 qσ22_3462 => ?_)
            exact ok_some ⟨(rg_any _), qσ22_3462⟩
          · refine ok_if (fun c_3463 => ?_) (fun c_3463 => ?_)
            · refine ok_bn (s_X12_goesBack qσ6_3458) (fun σ20_3464 qσ20_3464 => ?_)
              exact ok_some ⟨(rg_any _), qσ20_3464⟩
            · refine ok_if (fun c_3465 => ?_) (fun c_3465 => ?_)
              · refine ok_bn (s_X12_goesBack qσ6_3458) (fun σ19_3466 qσ19_3466 => ?_)
                exact ok_some ⟨(rg_any _), qσ19_3466⟩
              · refine ok_nm (fun x11_3467 hx11_3467 => ?_)
                refine ok_nm (fun x12_3468 hx12_3468 => ?_)
                refine ok_gd (rg_inb (rg_eq hx12_3468 (rg_sub (l := 5) (h := 10) (rg_eq hx11_3467 (rg_add (l := 15) (h := 20) (show rg (5 : Int32) (5) (5) from ⟨by decide, by decide⟩) (rg_eq (uns hx26_3448) (rg_add (l := 10) (h := 15) (rg_le w_3452 (rg_ge w_3451 (show rg (0 : Int32) (0) (0) from ⟨by decide, by decide⟩) (rg_any _)) (show rg (5 : Int32) (5) (5) from ⟨by decide, by decide⟩)) (show rg (10 : Int32) (10) (10) from ⟨by decide, by decide⟩) (by decide) (by decide) (by decide) (by decide))) (by decide) (by decide) (by decide) (by decide))) (show rg (10 : Int32) (10) (10) from ⟨by decide, by decide⟩) (by decide) (by decide) (by decide) (by decide))) (by decide) (by decide)) ?_
                refine ok_nm (fun x14_3469 hx14_3469 => ?_)
                refine ok_nm (fun x15_3470 hx15_3470 => ?_)
                refine ok_gd (rg_inb (rg_eq hx15_3470 (rg_sub (l := 5) (h := 10) (rg_eq (hx14_3469.trans hx11_3467.symm) (rg_eq hx11_3467 (rg_add (l := 15) (h := 20) (show rg (5 : Int32) (5) (5) from ⟨by decide, by decide⟩) (rg_eq (uns hx26_3448) (rg_add (l := 10) (h := 15) (rg_le w_3452 (rg_ge w_3451 (show rg (0 : Int32) (0) (0) from ⟨by decide, by decide⟩) (rg_any _)) (show rg (5 : Int32) (5) (5) from ⟨by decide, by decide⟩)) (show rg (10 : Int32) (10) (10) from ⟨by decide, by decide⟩) (by decide) (by decide) (by decide) (by decide))) (by decide) (by decide) (by decide) (by decide)))) (show rg (10 : Int32) (10) (10) from ⟨by decide, by decide⟩) (by decide) (by decide) (by decide) (by decide))) (by decide) (by decide)) ?_
                refine ok_nm (fun x17_3471 hx17_3471 => ?_)
                refine ok_bn (s_X12_goesBack qσ6_3458) (fun σ18_3472 qσ18_3472 => ?_)
                exact ok_some ⟨(rg_any _), qσ18_3472⟩
        · refine ok_nm (fun x23_3473 hx23_3473 => ?_)
          refine ok_gd (rg_inb (rg_eq hx23_3473 (rg_add (l := 10) (h := -6) (rg_le w_3451 (show rg (0 : Int32) (0) (0) from ⟨by decide, by decide⟩) (rg_eq hx26_3448 (rg_sub (l := 0) (h := -8) (rg_lt (nle c_3459) (rg_eq (uns hx26_3448) (rg_add (l := 10) (h := 15) (rg_le w_3452 (rg_ge w_3451 (show rg (0 : Int32) (0) (0) from ⟨by decide, by decide⟩) (rg_any _)) (show rg (5 : Int32) (5) (5) from ⟨by decide, by decide⟩)) (show rg (10 : Int32) (10) (10) from ⟨by decide, by decide⟩) (by decide) (by decide) (by decide) (by decide))) (show rg (3 : Int32) (3) (3) from ⟨by decide, by decide⟩)) (show rg (10 : Int32) (10) (10) from ⟨by decide, by decide⟩) (by decide) (by decide) (by decide) (by decide)))) (rg_lt (nle c_3459) (rg_eq (uns hx26_3448) (rg_add (l := 10) (h := 15) (rg_le w_3452 (rg_ge w_3451 (show rg (0 : Int32) (0) (0) from ⟨by decide, by decide⟩) (rg_any _)) (show rg (5 : Int32) (5) (5) from ⟨by decide, by decide⟩)) (show rg (10 : Int32) (10) (10) from ⟨by decide, by decide⟩) (by decide) (by decide) (by decide) (by decide))) (show rg (3 : Int32) (3) (3) from ⟨by decide, by decide⟩)) (by decide) (by decide) (by decide) (by decide))) (by decide) (by decide)) ?_
          refine ok_bn (s_X12_goesBack qσ6_3458) (fun σ25_3474 qσ25_3474 => ?_)
          exact ok_some ⟨(rg_any _), qσ25_3474⟩
  · obtain ⟨w_3475, w_3476⟩ := qr1_3446.2 c_3447
    unfold F_X12_on_24
    refine ok_bn (s_X12_in) (fun r3_3477 qr3_3477 => ?_)
    refine ok_if (fun c_3478 => ?_) (fun c_3478 => ?_)
    · exact ok_some ⟨(rg_w (show rg (-10002 : Int32) (-10002) (-10002) from ⟨by decide, by decide⟩) (by decide) (by decide)), hB⟩
    · obtain ⟨w_3479, w_3480⟩ := qr3_3477.2 c_3478
      refine ok_bn (s_X12_keeps hB) (fun σ5_3481 qσ5_3481 => ?_)
      refine ok_bn (s_X12_goesOn (rg_w (rg_le w_3480 (rg_ge w_3479 (show rg (0 : Int32) (0) (0) from ⟨by decide, by decide⟩) (rg_any _)) (show rg (40 : Int32) (40) (40) from ⟨by decide, by decide⟩)) (by decide) (by decide)) qσ5_3481) (fun σ6_3482 qσ6_3482 => ?_)
      refine ok_if (fun c_3483 => ?_) (fun c_3483 => ?_)
      · refine ok_if (fun c_3484 => ?_) (fun c_3484 => ?_)
        · refine ok_nm (fun x21_3485 hx21_3485 => ?_)
          refine ok_bn (s_X12_goesBack qσ6_3482) (fun σ22_3486 qσ22_3486 => ?_)
          exact ok_some ⟨(rg_any _), qσ22_3486⟩
        · refine ok_if (fun c_3487 => ?_) (fun c_3487 => ?_)
          · refine ok_bn (s_X12_goesBack qσ6_3482) (fun σ20_3488 qσ20_3488 => ?_)
            exact ok_some ⟨(rg_any _), qσ20_3488⟩
          · refine ok_if (fun c_3489 => ?_) (fun c_3489 => ?_)
            · refine ok_bn (s_X12_goesBack qσ6_3482) (fun σ19_3490 qσ19_3490 => ?_)
              exact ok_some ⟨(rg_any _), qσ19_3490⟩
            · refine ok_nm (fun x11_3491 hx11_3491 => ?_)
              refine ok_nm (fun x12_3492 hx12_3492 => ?_)
              refine ok_gd (rg_inb (rg_eq hx12_3492 (rg_sub (l := 2) (h := -1) (rg_eq hx11_3491 (rg_add (l := 12) (h := 9) (rg_ge w_3476 (rg_neh c_3489 (rg_nel c_3489 (rg_nel c_3487 (rg_nel c_3484 (rg_ge c_3483 (show rg (3 : Int32) (3) (3) from ⟨by decide, by decide⟩) (rg_le w_3476 (rg_ge w_3475 (show rg (0 : Int32) (0) (0) from ⟨by decide, by decide⟩) (rg_any _)) (show rg (5 : Int32) (5) (5) from ⟨by decide, by decide⟩))) (show rg (3 : Int32) (3) (3) from ⟨by decide, by decide⟩) rfl) (show rg (4 : Int32) (4) (4) from ⟨by decide, by decide⟩) rfl) (show rg (5 : Int32) (5) (5) from ⟨by decide, by decide⟩) rfl) (show rg (5 : Int32) (5) (5) from ⟨by decide, by decide⟩) rfl) (show rg (5 : Int32) (5) (5) from ⟨by decide, by decide⟩)) (rg_neh c_3489 (rg_nel c_3489 (rg_nel c_3487 (rg_nel c_3484 (rg_ge c_3483 (show rg (3 : Int32) (3) (3) from ⟨by decide, by decide⟩) (rg_le w_3476 (rg_ge w_3475 (show rg (0 : Int32) (0) (0) from ⟨by decide, by decide⟩) (rg_any _)) (show rg (5 : Int32) (5) (5) from ⟨by decide, by decide⟩))) (show rg (3 : Int32) (3) (3) from ⟨by decide, by decide⟩) rfl) (show rg (4 : Int32) (4) (4) from ⟨by decide, by decide⟩) rfl) (show rg (5 : Int32) (5) (5) from ⟨by decide, by decide⟩) rfl) (show rg (5 : Int32) (5) (5) from ⟨by decide, by decide⟩) rfl) (by decide) (by decide) (by decide) (by decide))) (show rg (10 : Int32) (10) (10) from ⟨by decide, by decide⟩) (by decide) (by decide) (by decide) (by decide))) (by decide) (by decide)) ?_
              refine ok_nm (fun x14_3493 hx14_3493 => ?_)
              refine ok_nm (fun x15_3494 hx15_3494 => ?_)
              refine ok_gd (rg_inb (rg_eq hx15_3494 (rg_sub (l := 2) (h := -1) (rg_eq (hx14_3493.trans hx11_3491.symm) (rg_eq hx11_3491 (rg_add (l := 12) (h := 9) (rg_ge w_3476 (rg_neh c_3489 (rg_nel c_3489 (rg_nel c_3487 (rg_nel c_3484 (rg_ge c_3483 (show rg (3 : Int32) (3) (3) from ⟨by decide, by decide⟩) (rg_le w_3476 (rg_ge w_3475 (show rg (0 : Int32) (0) (0) from ⟨by decide, by decide⟩) (rg_any _)) (show rg (5 : Int32) (5) (5) from ⟨by decide, by decide⟩))) (show rg (3 : Int32) (3) (3) from ⟨by decide, by decide⟩) rfl) (show rg (4 : Int32) (4) (4) from ⟨by decide, by decide⟩) rfl) (show rg (5 : Int32) (5) (5) from ⟨by decide, by decide⟩) rfl) (show rg (5 : Int32) (5) (5) from ⟨by decide, by decide⟩) rfl) (show rg (5 : Int32) (5) (5) from ⟨by decide, by decide⟩)) (rg_neh c_3489 (rg_nel c_3489 (rg_nel c_3487 (rg_nel c_3484 (rg_ge c_3483 (show rg (3 : Int32) (3) (3) from ⟨by decide, by decide⟩) (rg_le w_3476 (rg_ge w_3475 (show rg (0 : Int32) (0) (0) from ⟨by decide, by decide⟩) (rg_any _)) (show rg (5 : Int32) (5) (5) from ⟨by decide, by decide⟩))) (show rg (3 : Int32) (3) (3) from ⟨by decide, by decide⟩) rfl) (show rg (4 : Int32) (4) (4) from ⟨by decide, by decide⟩) rfl) (show rg (5 : Int32) (5) (5) from ⟨by decide, by decide⟩) rfl) (show rg (5 : Int32) (5) (5) from ⟨by decide, by decide⟩) rfl) (by decide) (by decide) (by decide) (by decide)))) (show rg (10 : Int32) (10) (10) from ⟨by decide, by decide⟩) (by decide) (by decide) (by decide) (by decide))) (by decide) (by decide)) ?_
              refine ok_nm (fun x17_3495 hx17_3495 => ?_)
              refine ok_bn (s_X12_goesBack qσ6_3482) (fun σ18_3496 qσ18_3496 => ?_)
              exact ok_some ⟨(rg_any _), qσ18_3496⟩
      · refine ok_nm (fun x23_3497 hx23_3497 => ?_)
        refine ok_gd (rg_inb (rg_eq hx23_3497 (rg_add (l := 0) (h := 2) (show rg (0 : Int32) (0) (0) from ⟨by decide, by decide⟩) (rg_lt (nle c_3483) (rg_le w_3476 (rg_ge w_3475 (show rg (0 : Int32) (0) (0) from ⟨by decide, by decide⟩) (rg_any _)) (show rg (5 : Int32) (5) (5) from ⟨by decide, by decide⟩)) (show rg (3 : Int32) (3) (3) from ⟨by decide, by decide⟩)) (by decide) (by decide) (by decide) (by decide))) (by decide) (by decide)) ?_
        refine ok_bn (s_X12_goesBack qσ6_3482) (fun σ25_3498 qσ25_3498 => ?_)
        exact ok_some ⟨(rg_any _), qσ25_3498⟩

set_option maxHeartbeats 4000000 in
set_option maxRecDepth 100000 in
theorem s_X12_toasted {g : Nat → Int32} {m : Int} {a1 : Int32} {a2 : Int32} {σ : SG} {ρ : RG} (hB : BF g m σ) : ok (F_X12_toasted a1 a2 σ ρ) (fun q => rg q.1 (-2147483648) (2147483647) ∧ BF g m q.2) := by
  unfold F_X12_toasted
  refine ok_bn (s_X12_in) (fun r1_3510 qr1_3510 => ?_)
  refine ok_if (fun c_3511 => ?_) (fun c_3511 => ?_)
  · exact ok_some ⟨(rg_w (show rg (-2 : Int32) (-2) (-2) from ⟨by decide, by decide⟩) (by decide) (by decide)), hB⟩
  · obtain ⟨w_3512, w_3513⟩ := qr1_3510.2 c_3511
    refine ok_bn (s_X12_in) (fun r3_3514 qr3_3514 => ?_)
    refine ok_if (fun c_3515 => ?_) (fun c_3515 => ?_)
    · exact ok_some ⟨(rg_w (show rg (-2 : Int32) (-2) (-2) from ⟨by decide, by decide⟩) (by decide) (by decide)), hB⟩
    · obtain ⟨w_3516, w_3517⟩ := qr3_3514.2 c_3515
      refine ok_bn (s_X12_keeps hB) (fun σ5_3518 qσ5_3518 => ?_)
      refine ok_bn (s_X12_goesOn (rg_w (rg_le w_3513 (rg_ge w_3512 (show rg (0 : Int32) (0) (0) from ⟨by decide, by decide⟩) (rg_any _)) (show rg (40 : Int32) (40) (40) from ⟨by decide, by decide⟩)) (by decide) (by decide)) qσ5_3518) (fun σ6_3519 qσ6_3519 => ?_)
      refine ok_bn (s_X12_goesBack qσ6_3519) (fun σ7_3520 qσ7_3520 => ?_)
      exact ok_some ⟨(rg_any _), qσ7_3520⟩

set_option maxHeartbeats 4000000 in
set_option maxRecDepth 100000 in
theorem s_X12_lasts {g : Nat → Int32} {m : Int} {σ : SG} {ρ : RG} (hB : BF g m σ) : ok (F_X12_lasts σ ρ) (fun q => rg q.1 (-2147483648) (2147483647) ∧ BF g m q.2) := by
  unfold F_X12_lasts
  refine ok_bn (s_X12_keeps hB) (fun σ1_3524 qσ1_3524 => ?_)
  refine ok_bn (s_X12_goesOn (rg_w (show rg (200 : Int32) (200) (200) from ⟨by decide, by decide⟩) (by decide) (by decide)) qσ1_3524) (fun σ2_3525 qσ2_3525 => ?_)
  refine ok_bn (s_X12_goesBack qσ2_3525) (fun σ3_3526 qσ3_3526 => ?_)
  exact ok_some ⟨(rg_any _), qσ3_3526⟩

set_option maxHeartbeats 4000000 in
set_option maxRecDepth 100000 in
theorem s_X12_stands_2 {g : Nat → Int32} {m : Int} {a1 : Int32} {ρ : RG} (r_a1 : rg a1 (0) (5)) : ∀ (n : Nat) (σ : SG) (v1 : Int32) (v2 : Int32), rg v1 (0) (5) → rg v2 (0) (11) → (11 : Int) - v2.toInt < (n : Int) → BF g m σ → ok (F_X12_stands_2 a1 n σ ρ v1 v2) (fun q => BF g m q) := by
  intro n
  induction n with
  | zero => intro σ v1 v2 r_v1 r_v2 hm hB; exact (ms_z r_v2 (by decide) hm).elim
  | succ n ih =>
    intro σ v1 v2 r_v1 r_v2 hm hB
    unfold F_X12_stands_2
    refine ok_if (fun c_3532 => ?_) (fun c_3532 => ?_)
    · exact ok_some hB
    · refine ok_nm (fun x2_3533 hx2_3533 => ?_)
      refine ok_nm (fun x3_3534 hx3_3534 => ?_)
      refine ok_gd (rg_inb (rg_lt (nle c_3532) r_v2 (show rg (11 : Int32) (11) (11) from ⟨by decide, by decide⟩)) (by decide) (by decide)) ?_
      refine ok_gd (rg_inb (rg_eq hx3_3534 (rg_add (l := 0) (h := 65) (rg_eq hx2_3533 (rg_mul (h := 55) (show rg (11 : Int32) (11) (11) from ⟨by decide, by decide⟩) r_v1 (by decide) (by decide) (by decide) (by decide))) (rg_lt (nle c_3532) r_v2 (show rg (11 : Int32) (11) (11) from ⟨by decide, by decide⟩)) (by decide) (by decide) (by decide) (by decide))) (by decide) (by decide)) ?_
      refine ok_nm (fun σ7_3535 hσ7_3535 => ?_)
      have bσ7_3535 : BF g m σ7_3535 := by rw [hσ7_3535]; exact bf_far hB (by decide) (by decide) (by decide) (by decide)
      refine ok_nm (fun x8_3536 hx8_3536 => ?_)
      exact ih _ _ _ r_v1 (rg_w (rg_eq hx8_3536 (rg_add (l := 1) (h := 11) (rg_lt (nle c_3532) r_v2 (show rg (11 : Int32) (11) (11) from ⟨by decide, by decide⟩)) (show rg (1 : Int32) (1) (1) from ⟨by decide, by decide⟩) (by decide) (by decide) (by decide) (by decide))) (by decide) (by decide)) (ms_s hx8_3536 (rg_lt (nle c_3532) r_v2 (show rg (11 : Int32) (11) (11) from ⟨by decide, by decide⟩)) (by decide) (by decide) hm) bσ7_3535

set_option maxHeartbeats 4000000 in
set_option maxRecDepth 100000 in
theorem s_X12_stands {g : Nat → Int32} {m : Int} {a1 : Int32} {σ : SG} {ρ : RG} (r_a1 : rg a1 (0) (5)) (hB : BF g m σ) : ok (F_X12_stands a1 σ ρ) (fun q => BF g m q) := by
  unfold F_X12_stands
  exact (s_X12_stands_2 r_a1 1024 _ _ _ r_a1 (rg_w (show rg (0 : Int32) (0) (0) from ⟨by decide, by decide⟩) (by decide) (by decide)) (ms_0 (show rg (0 : Int32) (0) (0) from ⟨by decide, by decide⟩) (by decide)) hB)

set_option maxHeartbeats 4000000 in
set_option maxRecDepth 100000 in
theorem s_X12_standsBack_2 {g : Nat → Int32} {m : Int} {a1 : Int32} {ρ : RG} (r_a1 : rg a1 (0) (5)) : ∀ (n : Nat) (σ : SG) (v1 : Int32) (v2 : Int32), rg v1 (0) (5) → rg v2 (0) (11) → (11 : Int) - v2.toInt < (n : Int) → BF g m σ → ok (F_X12_standsBack_2 a1 n σ ρ v1 v2) (fun q => BF g m q) := by
  intro n
  induction n with
  | zero => intro σ v1 v2 r_v1 r_v2 hm hB; exact (ms_z r_v2 (by decide) hm).elim
  | succ n ih =>
    intro σ v1 v2 r_v1 r_v2 hm hB
    unfold F_X12_standsBack_2
    refine ok_if (fun c_3542 => ?_) (fun c_3542 => ?_)
    · exact ok_some hB
    · refine ok_nm (fun x2_3543 hx2_3543 => ?_)
      refine ok_nm (fun x3_3544 hx3_3544 => ?_)
      refine ok_gd (rg_inb (rg_eq hx3_3544 (rg_add (l := 0) (h := 65) (rg_eq hx2_3543 (rg_mul (h := 55) (show rg (11 : Int32) (11) (11) from ⟨by decide, by decide⟩) r_v1 (by decide) (by decide) (by decide) (by decide))) (rg_lt (nle c_3542) r_v2 (show rg (11 : Int32) (11) (11) from ⟨by decide, by decide⟩)) (by decide) (by decide) (by decide) (by decide))) (by decide) (by decide)) ?_
      refine ok_gd (rg_inb (rg_lt (nle c_3542) r_v2 (show rg (11 : Int32) (11) (11) from ⟨by decide, by decide⟩)) (by decide) (by decide)) ?_
      refine ok_nm (fun σ7_3545 hσ7_3545 => ?_)
      have bσ7_3545 : BF g m σ7_3545 := by rw [hσ7_3545]; exact bf_setx hB (a := 0) (b := 10) (rg_lt (nle c_3542) r_v2 (show rg (11 : Int32) (11) (11) from ⟨by decide, by decide⟩)) (rg_any _) (by decide)
      refine ok_nm (fun x8_3546 hx8_3546 => ?_)
      exact ih _ _ _ r_v1 (rg_w (rg_eq hx8_3546 (rg_add (l := 1) (h := 11) (rg_lt (nle c_3542) r_v2 (show rg (11 : Int32) (11) (11) from ⟨by decide, by decide⟩)) (show rg (1 : Int32) (1) (1) from ⟨by decide, by decide⟩) (by decide) (by decide) (by decide) (by decide))) (by decide) (by decide)) (ms_s hx8_3546 (rg_lt (nle c_3542) r_v2 (show rg (11 : Int32) (11) (11) from ⟨by decide, by decide⟩)) (by decide) (by decide) hm) bσ7_3545

set_option maxHeartbeats 4000000 in
set_option maxRecDepth 100000 in
theorem s_X12_standsBack {g : Nat → Int32} {m : Int} {a1 : Int32} {σ : SG} {ρ : RG} (r_a1 : rg a1 (0) (5)) (hB : BF g m σ) : ok (F_X12_standsBack a1 σ ρ) (fun q => BF g m q) := by
  unfold F_X12_standsBack
  exact (s_X12_standsBack_2 r_a1 1024 _ _ _ r_a1 (rg_w (show rg (0 : Int32) (0) (0) from ⟨by decide, by decide⟩) (by decide) (by decide)) (ms_0 (show rg (0 : Int32) (0) (0) from ⟨by decide, by decide⟩) (by decide)) hB)

set_option maxHeartbeats 4000000 in
set_option maxRecDepth 100000 in
theorem s_X12_cancel_12 {g : Nat → Int32} {m : Int} {ρ : RG} : ∀ (n : Nat) (σ : SG) (v1 : Int32) (v2 : Int32) (v3 : Int32), rg v3 (0) (36) → (36 : Int) - v3.toInt < (n : Int) → BF g m σ → ok (F_X12_cancel_12 n σ ρ v1 v2 v3) (fun q => rg q.1 (-2147483648) (2147483647) ∧ BF g m q.2) := by
  intro n
  induction n with
  | zero => intro σ v1 v2 v3 r_v3 hm hB; exact (ms_z r_v3 (by decide) hm).elim
  | succ n ih =>
    intro σ v1 v2 v3 r_v3 hm hB
    unfold F_X12_cancel_12
    refine ok_nm (fun x2_3577 hx2_3577 => ?_)
    refine ok_if (fun c_3578 => ?_) (fun c_3578 => ?_)
    · exact ok_some ⟨(rg_any _), hB⟩
    · refine ok_gd (rg_ne0 (sq_ge1 hx2_3577 (nle c_3578) (rg_lt (nle c_3578) r_v3 (rg_gt (nle c_3578) r_v3 (rg_eq hx2_3577 (rg_mul (h := 36) (bx_get hB.1 (r := 55) (a := 11) (b := 11) (k := 11) (l := 0) (h := 6) (by decide) (by decide) (by decide)) (bx_get hB.1 (r := 55) (a := 11) (b := 11) (k := 11) (l := 0) (h := 6) (by decide) (by decide) (by decide)) (by decide) (by decide) (by decide) (by decide))))) (bx_get hB.1 (r := 55) (a := 11) (b := 11) (k := 11) (l := 0) (h := 6) (by decide) (by decide) (by decide)) (by decide)) (by decide)) ?_
      refine ok_nm (fun x5_3579 hx5_3579 => ?_)
      refine ok_gd (rg_ne0 (sq_ge1 hx2_3577 (nle c_3578) (rg_lt (nle c_3578) r_v3 (rg_gt (nle c_3578) r_v3 (rg_eq hx2_3577 (rg_mul (h := 36) (bx_get hB.1 (r := 55) (a := 11) (b := 11) (k := 11) (l := 0) (h := 6) (by decide) (by decide) (by decide)) (bx_get hB.1 (r := 55) (a := 11) (b := 11) (k := 11) (l := 0) (h := 6) (by decide) (by decide) (by decide)) (by decide) (by decide) (by decide) (by decide))))) (bx_get hB.1 (r := 55) (a := 11) (b := 11) (k := 11) (l := 0) (h := 6) (by decide) (by decide) (by decide)) (by decide)) (by decide)) ?_
      refine ok_nm (fun x7_3580 hx7_3580 => ?_)
      refine ok_nm (fun x8_3581 hx8_3581 => ?_)
      refine ok_gd (rg_inb (rg_eq hx8_3581 (rg_add (l := 44) (h := 49) (show rg (44 : Int32) (44) (44) from ⟨by decide, by decide⟩) (rg_eq hx5_3579 (dv_sq hx2_3577 (nle c_3578) (rg_lt (nle c_3578) r_v3 (rg_gt (nle c_3578) r_v3 (rg_eq hx2_3577 (rg_mul (h := 36) (sq_ge1 hx2_3577 (nle c_3578) r_v3 (bx_get hB.1 (r := 55) (a := 11) (b := 11) (k := 11) (l := 0) (h := 6) (by decide) (by decide) (by decide)) (by decide)) (sq_ge1 hx2_3577 (nle c_3578) r_v3 (bx_get hB.1 (r := 55) (a := 11) (b := 11) (k := 11) (l := 0) (h := 6) (by decide) (by decide) (by decide)) (by decide)) (by decide) (by decide) (by decide) (by decide))))) (sq_ge1 hx2_3577 (nle c_3578) (rg_lt (nle c_3578) r_v3 (rg_gt (nle c_3578) r_v3 (rg_eq hx2_3577 (rg_mul (h := 36) (bx_get hB.1 (r := 55) (a := 11) (b := 11) (k := 11) (l := 0) (h := 6) (by decide) (by decide) (by decide)) (bx_get hB.1 (r := 55) (a := 11) (b := 11) (k := 11) (l := 0) (h := 6) (by decide) (by decide) (by decide)) (by decide) (by decide) (by decide) (by decide))))) (bx_get hB.1 (r := 55) (a := 11) (b := 11) (k := 11) (l := 0) (h := 6) (by decide) (by decide) (by decide)) (by decide)) (by decide))) (by decide) (by decide) (by decide) (by decide))) (by decide) (by decide)) ?_
      refine ok_bn2 (s_X12_cuts (rg_eq hx5_3579 (dv_sq hx2_3577 (nle c_3578) (rg_lt (nle c_3578) r_v3 (rg_gt (nle c_3578) r_v3 (rg_eq hx2_3577 (rg_mul (h := 36) (sq_ge1 hx2_3577 (nle c_3578) r_v3 (bx_get hB.1 (r := 55) (a := 11) (b := 11) (k := 11) (l := 0) (h := 6) (by decide) (by decide) (by decide)) (by decide)) (sq_ge1 hx2_3577 (nle c_3578) r_v3 (bx_get hB.1 (r := 55) (a := 11) (b := 11) (k := 11) (l := 0) (h := 6) (by decide) (by decide) (by decide)) (by decide)) (by decide) (by decide) (by decide) (by decide))))) (sq_ge1 hx2_3577 (nle c_3578) (rg_lt (nle c_3578) r_v3 (rg_gt (nle c_3578) r_v3 (rg_eq hx2_3577 (rg_mul (h := 36) (bx_get hB.1 (r := 55) (a := 11) (b := 11) (k := 11) (l := 0) (h := 6) (by decide) (by decide) (by decide)) (bx_get hB.1 (r := 55) (a := 11) (b := 11) (k := 11) (l := 0) (h := 6) (by decide) (by decide) (by decide)) (by decide) (by decide) (by decide) (by decide))))) (bx_get hB.1 (r := 55) (a := 11) (b := 11) (k := 11) (l := 0) (h := 6) (by decide) (by decide) (by decide)) (by decide)) (by decide))) hB) (fun r10_3582 σ10_3583 qr10_3582 => ?_)
      obtain ⟨hr10_3582, bσ10_3583⟩ := qr10_3582
      refine ok_if (fun c_3584 => ?_) (fun c_3584 => ?_)
      · unfold F_X12_cancel_143
        refine ok_bn (s_X12_goesBack bσ10_3583) (fun σ12_3585 qσ12_3585 => ?_)
        refine ok_nm (fun x13_3586 hx13_3586 => ?_)
        exact ih _ _ _ _ (rg_w (rg_eq hx13_3586 (rg_add (l := 1) (h := 36) (rg_lt (nle c_3578) r_v3 (rg_gt (nle c_3578) r_v3 (rg_eq hx2_3577 (rg_mul (h := 36) (sq_ge1 hx2_3577 (nle c_3578) r_v3 (bx_get hB.1 (r := 55) (a := 11) (b := 11) (k := 11) (l := 0) (h := 6) (by decide) (by decide) (by decide)) (by decide)) (sq_ge1 hx2_3577 (nle c_3578) r_v3 (bx_get hB.1 (r := 55) (a := 11) (b := 11) (k := 11) (l := 0) (h := 6) (by decide) (by decide) (by decide)) (by decide)) (by decide) (by decide) (by decide) (by decide))))) (show rg (1 : Int32) (1) (1) from ⟨by decide, by decide⟩) (by decide) (by decide) (by decide) (by decide))) (by decide) (by decide)) (ms_s hx13_3586 (rg_lt (nle c_3578) r_v3 (rg_gt (nle c_3578) r_v3 (rg_eq hx2_3577 (rg_mul (h := 36) (sq_ge1 hx2_3577 (nle c_3578) r_v3 (bx_get hB.1 (r := 55) (a := 11) (b := 11) (k := 11) (l := 0) (h := 6) (by decide) (by decide) (by decide)) (by decide)) (sq_ge1 hx2_3577 (nle c_3578) r_v3 (bx_get hB.1 (r := 55) (a := 11) (b := 11) (k := 11) (l := 0) (h := 6) (by decide) (by decide) (by decide)) (by decide)) (by decide) (by decide) (by decide) (by decide))))) (by decide) (by decide) hm) qσ12_3585
      · refine ok_nm (fun x14_3587 hx14_3587 => ?_)
        refine ok_gd (rg_inb (rg_eq hx14_3587 (rg_add (l := 44) (h := 49) (show rg (44 : Int32) (44) (44) from ⟨by decide, by decide⟩) (rg_eq hx7_3580 (rg_rem0 (rg_lt (nle c_3578) r_v3 (rg_gt (nle c_3578) r_v3 (rg_eq hx2_3577 (rg_mul (h := 36) (sq_ge1 hx2_3577 (nle c_3578) r_v3 (bx_get hB.1 (r := 55) (a := 11) (b := 11) (k := 11) (l := 0) (h := 6) (by decide) (by decide) (by decide)) (by decide)) (sq_ge1 hx2_3577 (nle c_3578) r_v3 (bx_get hB.1 (r := 55) (a := 11) (b := 11) (k := 11) (l := 0) (h := 6) (by decide) (by decide) (by decide)) (by decide)) (by decide) (by decide) (by decide) (by decide))))) (sq_ge1 hx2_3577 (nle c_3578) (rg_lt (nle c_3578) r_v3 (rg_gt (nle c_3578) r_v3 (rg_eq hx2_3577 (rg_mul (h := 36) (bx_get hB.1 (r := 55) (a := 11) (b := 11) (k := 11) (l := 0) (h := 6) (by decide) (by decide) (by decide)) (bx_get hB.1 (r := 55) (a := 11) (b := 11) (k := 11) (l := 0) (h := 6) (by decide) (by decide) (by decide)) (by decide) (by decide) (by decide) (by decide))))) (bx_get hB.1 (r := 55) (a := 11) (b := 11) (k := 11) (l := 0) (h := 6) (by decide) (by decide) (by decide)) (by decide)) (by decide) (by decide))) (by decide) (by decide) (by decide) (by decide))) (by decide) (by decide)) ?_
        refine ok_bn2 (s_X12_cuts (rg_eq hx7_3580 (rg_rem0 (rg_lt (nle c_3578) r_v3 (rg_gt (nle c_3578) r_v3 (rg_eq hx2_3577 (rg_mul (h := 36) (sq_ge1 hx2_3577 (nle c_3578) r_v3 (bx_get hB.1 (r := 55) (a := 11) (b := 11) (k := 11) (l := 0) (h := 6) (by decide) (by decide) (by decide)) (by decide)) (sq_ge1 hx2_3577 (nle c_3578) r_v3 (bx_get hB.1 (r := 55) (a := 11) (b := 11) (k := 11) (l := 0) (h := 6) (by decide) (by decide) (by decide)) (by decide)) (by decide) (by decide) (by decide) (by decide))))) (sq_ge1 hx2_3577 (nle c_3578) (rg_lt (nle c_3578) r_v3 (rg_gt (nle c_3578) r_v3 (rg_eq hx2_3577 (rg_mul (h := 36) (bx_get hB.1 (r := 55) (a := 11) (b := 11) (k := 11) (l := 0) (h := 6) (by decide) (by decide) (by decide)) (bx_get hB.1 (r := 55) (a := 11) (b := 11) (k := 11) (l := 0) (h := 6) (by decide) (by decide) (by decide)) (by decide) (by decide) (by decide) (by decide))))) (bx_get hB.1 (r := 55) (a := 11) (b := 11) (k := 11) (l := 0) (h := 6) (by decide) (by decide) (by decide)) (by decide)) (by decide) (by decide))) bσ10_3583) (fun r16_3588 σ16_3589 qr16_3588 => ?_)
        obtain ⟨hr16_3588, bσ16_3589⟩ := qr16_3588
        refine ok_if (fun c_3590 => ?_) (fun c_3590 => ?_)
        · unfold F_X12_cancel_143
          refine ok_bn (s_X12_goesBack bσ16_3589) (fun σ12_3591 qσ12_3591 => ?_)
          refine ok_nm (fun x13_3592 hx13_3592 => ?_)
          exact ih _ _ _ _ (rg_w (rg_eq hx13_3592 (rg_add (l := 1) (h := 36) (rg_lt (nle c_3578) r_v3 (rg_gt (nle c_3578) r_v3 (rg_eq hx2_3577 (rg_mul (h := 36) (sq_ge1 hx2_3577 (nle c_3578) r_v3 (bx_get hB.1 (r := 55) (a := 11) (b := 11) (k := 11) (l := 0) (h := 6) (by decide) (by decide) (by decide)) (by decide)) (sq_ge1 hx2_3577 (nle c_3578) r_v3 (bx_get hB.1 (r := 55) (a := 11) (b := 11) (k := 11) (l := 0) (h := 6) (by decide) (by decide) (by decide)) (by decide)) (by decide) (by decide) (by decide) (by decide))))) (show rg (1 : Int32) (1) (1) from ⟨by decide, by decide⟩) (by decide) (by decide) (by decide) (by decide))) (by decide) (by decide)) (ms_s hx13_3592 (rg_lt (nle c_3578) r_v3 (rg_gt (nle c_3578) r_v3 (rg_eq hx2_3577 (rg_mul (h := 36) (sq_ge1 hx2_3577 (nle c_3578) r_v3 (bx_get hB.1 (r := 55) (a := 11) (b := 11) (k := 11) (l := 0) (h := 6) (by decide) (by decide) (by decide)) (by decide)) (sq_ge1 hx2_3577 (nle c_3578) r_v3 (bx_get hB.1 (r := 55) (a := 11) (b := 11) (k := 11) (l := 0) (h := 6) (by decide) (by decide) (by decide)) (by decide)) (by decide) (by decide) (by decide) (by decide))))) (by decide) (by decide) hm) qσ12_3591
        · refine ok_bn (s_X12_size bσ16_3589) (fun r18_3593 qr18_3593 => ?_)
          refine ok_bn (s_X12_size bσ16_3589) (fun r19_3594 qr19_3594 => ?_)
          refine ok_nm (fun x20_3595 hx20_3595 => ?_)
          refine ok_if (fun c_3596 => ?_) (fun c_3596 => ?_)
          · unfold F_X12_cancel_143
            refine ok_bn (s_X12_goesBack bσ16_3589) (fun σ12_3597 qσ12_3597 => ?_)
            refine ok_nm (fun x13_3598 hx13_3598 => ?_)
            exact ih _ _ _ _ (rg_w (rg_eq hx13_3598 (rg_add (l := 1) (h := 36) (rg_lt (nle c_3578) r_v3 (rg_gt (nle c_3578) r_v3 (rg_eq hx2_3577 (rg_mul (h := 36) (sq_ge1 hx2_3577 (nle c_3578) r_v3 (bx_get hB.1 (r := 55) (a := 11) (b := 11) (k := 11) (l := 0) (h := 6) (by decide) (by decide) (by decide)) (by decide)) (sq_ge1 hx2_3577 (nle c_3578) r_v3 (bx_get hB.1 (r := 55) (a := 11) (b := 11) (k := 11) (l := 0) (h := 6) (by decide) (by decide) (by decide)) (by decide)) (by decide) (by decide) (by decide) (by decide))))) (show rg (1 : Int32) (1) (1) from ⟨by decide, by decide⟩) (by decide) (by decide) (by decide) (by decide))) (by decide) (by decide)) (ms_s hx13_3598 (rg_lt (nle c_3578) r_v3 (rg_gt (nle c_3578) r_v3 (rg_eq hx2_3577 (rg_mul (h := 36) (sq_ge1 hx2_3577 (nle c_3578) r_v3 (bx_get hB.1 (r := 55) (a := 11) (b := 11) (k := 11) (l := 0) (h := 6) (by decide) (by decide) (by decide)) (by decide)) (sq_ge1 hx2_3577 (nle c_3578) r_v3 (bx_get hB.1 (r := 55) (a := 11) (b := 11) (k := 11) (l := 0) (h := 6) (by decide) (by decide) (by decide)) (by decide)) (by decide) (by decide) (by decide) (by decide))))) (by decide) (by decide) hm) qσ12_3597
          · refine ok_bn (s_X12_size bσ16_3589) (fun r22_3599 qr22_3599 => ?_)
            refine ok_bn (s_X12_size bσ16_3589) (fun r23_3600 qr23_3600 => ?_)
            refine ok_nm (fun x24_3601 hx24_3601 => ?_)
            refine ok_nm (fun x25_3602 hx25_3602 => ?_)
            refine ok_nm (fun x26_3603 hx26_3603 => ?_)
            unfold F_X12_cancel_143
            refine ok_bn (s_X12_goesBack bσ16_3589) (fun σ12_3604 qσ12_3604 => ?_)
            refine ok_nm (fun x13_3605 hx13_3605 => ?_)
            exact ih _ _ _ _ (rg_w (rg_eq hx13_3605 (rg_add (l := 1) (h := 36) (rg_lt (nle c_3578) r_v3 (rg_gt (nle c_3578) r_v3 (rg_eq hx2_3577 (rg_mul (h := 36) (sq_ge1 hx2_3577 (nle c_3578) r_v3 (bx_get hB.1 (r := 55) (a := 11) (b := 11) (k := 11) (l := 0) (h := 6) (by decide) (by decide) (by decide)) (by decide)) (sq_ge1 hx2_3577 (nle c_3578) r_v3 (bx_get hB.1 (r := 55) (a := 11) (b := 11) (k := 11) (l := 0) (h := 6) (by decide) (by decide) (by decide)) (by decide)) (by decide) (by decide) (by decide) (by decide))))) (show rg (1 : Int32) (1) (1) from ⟨by decide, by decide⟩) (by decide) (by decide) (by decide) (by decide))) (by decide) (by decide)) (ms_s hx13_3605 (rg_lt (nle c_3578) r_v3 (rg_gt (nle c_3578) r_v3 (rg_eq hx2_3577 (rg_mul (h := 36) (sq_ge1 hx2_3577 (nle c_3578) r_v3 (bx_get hB.1 (r := 55) (a := 11) (b := 11) (k := 11) (l := 0) (h := 6) (by decide) (by decide) (by decide)) (by decide)) (sq_ge1 hx2_3577 (nle c_3578) r_v3 (bx_get hB.1 (r := 55) (a := 11) (b := 11) (k := 11) (l := 0) (h := 6) (by decide) (by decide) (by decide)) (by decide)) (by decide) (by decide) (by decide) (by decide))))) (by decide) (by decide) hm) qσ12_3604

set_option maxHeartbeats 4000000 in
set_option maxRecDepth 100000 in
theorem s_X12_cancel {g : Nat → Int32} {m : Int} {σ : SG} {ρ : RG} (hB : BF g m σ) : ok (F_X12_cancel σ ρ) (fun q => rg q.1 (-2147483648) (2147483647) ∧ BF g m q.2) := by
  unfold F_X12_cancel
  refine ok_bn (s_X12_keeps hB) (fun σ1_3606 qσ1_3606 => ?_)
  exact (s_X12_cancel_12 1024 _ _ _ _ (rg_w (show rg (0 : Int32) (0) (0) from ⟨by decide, by decide⟩) (by decide) (by decide)) (ms_0 (show rg (0 : Int32) (0) (0) from ⟨by decide, by decide⟩) (by decide)) qσ1_3606)

set_option maxHeartbeats 4000000 in
set_option maxRecDepth 100000 in
theorem s_X12_enough_16 {g : Nat → Int32} {m : Int} {a1 : Int32} {ρ : RG} (r_a1 : rg a1 (0) (5)) : ∀ (n : Nat) (σ : SG) (v1 : Int32) (v2 : Int32), rg v1 (0) (5) → rg v2 (1) (41) → (41 : Int) - v2.toInt < (n : Int) → BF g m σ → ok (F_X12_enough_16 a1 n σ ρ v1 v2) (fun q => rg q.1 (-5) (40) ∧ BF g m q.2) := by
  intro n
  induction n with
  | zero => intro σ v1 v2 r_v1 r_v2 hm hB; exact (ms_z r_v2 (by decide) hm).elim
  | succ n ih =>
    intro σ v1 v2 r_v1 r_v2 hm hB
    unfold F_X12_enough_16
    refine ok_if (fun c_3626 => ?_) (fun c_3626 => ?_)
    · exact ok_some ⟨(rg_w (show rg (-5 : Int32) (-5) (-5) from ⟨by decide, by decide⟩) (by decide) (by decide)), hB⟩
    · refine ok_bn2 (s_X12_cuts r_v1 hB) (fun r5_3627 σ5_3628 qr5_3627 => ?_)
      obtain ⟨hr5_3627, bσ5_3628⟩ := qr5_3627
      refine ok_if (fun c_3629 => ?_) (fun c_3629 => ?_)
      · unfold F_X12_enough_42
        unfold F_X12_enough_43
        refine ok_bn (s_X12_goesBack bσ5_3628) (fun σ7_3630 qσ7_3630 => ?_)
        refine ok_if (fun c_3631 => ?_) (fun c_3631 => ?_)
        · refine ok_nm (fun x9_3632 hx9_3632 => ?_)
          exact ih _ _ _ r_v1 (rg_w (rg_eq hx9_3632 (rg_add (l := 2) (h := 41) (rg_le (nlt c_3626) r_v2 (show rg (40 : Int32) (40) (40) from ⟨by decide, by decide⟩)) (show rg (1 : Int32) (1) (1) from ⟨by decide, by decide⟩) (by decide) (by decide) (by decide) (by decide))) (by decide) (by decide)) (ms_s hx9_3632 (rg_le (nlt c_3626) r_v2 (show rg (40 : Int32) (40) (40) from ⟨by decide, by decide⟩)) (by decide) (by decide) hm) qσ7_3630
        · exact absurd (by decide) c_3631
      · refine ok_bn (s_X12_isGood bσ5_3628) (fun r10_3633 qr10_3633 => ?_)
        refine ok_if (fun c_3634 => ?_) (fun c_3634 => ?_)
        · unfold F_X12_enough_42
          unfold F_X12_enough_43
          refine ok_bn (s_X12_goesBack bσ5_3628) (fun σ7_3635 qσ7_3635 => ?_)
          refine ok_if (fun c_3636 => ?_) (fun c_3636 => ?_)
          · refine ok_nm (fun x9_3637 hx9_3637 => ?_)
            exact ih _ _ _ r_v1 (rg_w (rg_eq hx9_3637 (rg_add (l := 2) (h := 41) (rg_le (nlt c_3626) r_v2 (show rg (40 : Int32) (40) (40) from ⟨by decide, by decide⟩)) (show rg (1 : Int32) (1) (1) from ⟨by decide, by decide⟩) (by decide) (by decide) (by decide) (by decide))) (by decide) (by decide)) (ms_s hx9_3637 (rg_le (nlt c_3626) r_v2 (show rg (40 : Int32) (40) (40) from ⟨by decide, by decide⟩)) (by decide) (by decide) hm) qσ7_3635
          · exact absurd (by decide) c_3636
        · unfold F_X12_enough_43
          refine ok_bn (s_X12_goesBack bσ5_3628) (fun σ7_3638 qσ7_3638 => ?_)
          refine ok_if (fun c_3639 => ?_) (fun c_3639 => ?_)
          · exact absurd c_3639 (by decide)
          · exact ok_some ⟨(rg_w (rg_le (nlt c_3626) r_v2 (show rg (40 : Int32) (40) (40) from ⟨by decide, by decide⟩)) (by decide) (by decide)), qσ7_3638⟩

set_option maxHeartbeats 4000000 in
set_option maxRecDepth 100000 in
theorem s_X12_enough {g : Nat → Int32} {m : Int} {a1 : Int32} {σ : SG} {ρ : RG} (hB : BF g m σ) : ok (F_X12_enough a1 σ ρ) (fun q => rg q.1 (-5) (40) ∧ BF g m q.2) := by
  unfold F_X12_enough
  refine ok_bn (s_X12_isCutter hB.1) (fun r1_3640 qr1_3640 => ?_)
  refine ok_if (fun c_3641 => ?_) (fun c_3641 => ?_)
  · exact ok_some ⟨(rg_w (show rg (-1 : Int32) (-1) (-1) from ⟨by decide, by decide⟩) (by decide) (by decide)), hB⟩
  · obtain ⟨w_3642, w_3643⟩ := qr1_3640.2 c_3641
    refine ok_bn (s_X12_keeps hB) (fun σ3_3644 qσ3_3644 => ?_)
    exact (s_X12_enough_16 (rg_le w_3643 (rg_ge w_3642 (show rg (0 : Int32) (0) (0) from ⟨by decide, by decide⟩) (rg_any _)) (show rg (5 : Int32) (5) (5) from ⟨by decide, by decide⟩)) 1024 _ _ _ (rg_le w_3643 (rg_ge w_3642 (show rg (0 : Int32) (0) (0) from ⟨by decide, by decide⟩) (rg_any _)) (show rg (5 : Int32) (5) (5) from ⟨by decide, by decide⟩)) (rg_w (show rg (1 : Int32) (1) (1) from ⟨by decide, by decide⟩) (by decide) (by decide)) (ms_0 (show rg (1 : Int32) (1) (1) from ⟨by decide, by decide⟩) (by decide)) qσ3_3644)

set_option maxHeartbeats 4000000 in
set_option maxRecDepth 100000 in
theorem s_X12_when_42 {g : Nat → Int32} {m : Int} {a1 : Int32} {a2 : Int32} {ρ : RG} (r_a1 : rg a1 (1) (20)) (r_a2 : rg a2 (0) (1)) : ∀ (n : Nat) (σ : SG) (v1 : Int32) (v2 : Int32) (v3 : Int32) (v4 : Int32) (v5 : Int32), rg v1 (1) (20) → rg v2 (0) (1) → rg v5 (0) (20) → (20 : Int) - v5.toInt < (n : Int) → BF g m σ → ok (F_X12_when_42 a1 a2 n σ ρ v1 v2 v3 v4 v5) (fun q => rg q.1 (-2147483648) (2147483647) ∧ BF g m q.2) := by
  intro n
  induction n with
  | zero => intro σ v1 v2 v3 v4 v5 r_v1 r_v2 r_v5 hm hB; exact (ms_z r_v5 (by decide) hm).elim
  | succ n ih =>
    intro σ v1 v2 v3 v4 v5 r_v1 r_v2 r_v5 hm hB
    unfold F_X12_when_42
    refine ok_if (fun c_3668 => ?_) (fun c_3668 => ?_)
    · refine ok_if (fun c_3669 => ?_) (fun c_3669 => ?_)
      · exact ok_some ⟨(rg_any _), hB⟩
      · refine ok_if (fun c_3670 => ?_) (fun c_3670 => ?_)
        · exact ok_some ⟨(rg_w (rg_eql c_3670 (show rg (-5 : Int32) (-5) (-5) from ⟨by decide, by decide⟩)) (by decide) (by decide)), hB⟩
        · exact ok_some ⟨(rg_any _), hB⟩
    · refine ok_bn2 (s_X12_goodBy (rg_w r_v1 (by decide) (by decide)) hB) (fun r10_3671 σ10_3672 qr10_3671 => ?_)
      obtain ⟨hr10_3671, bσ10_3672⟩ := qr10_3671
      refine ok_if (fun c_3673 => ?_) (fun c_3673 => ?_)
      · unfold F_X12_when_70
        refine ok_if (fun c_3674 => ?_) (fun c_3674 => ?_)
        · unfold F_X12_when_84
          refine ok_nm (fun x13_3675 hx13_3675 => ?_)
          exact ih _ _ _ _ _ _ r_v1 r_v2 (rg_w (rg_eq hx13_3675 (rg_add (l := 1) (h := 20) (rg_lt (nle c_3668) r_v5 r_v1) (show rg (1 : Int32) (1) (1) from ⟨by decide, by decide⟩) (by decide) (by decide) (by decide) (by decide))) (by decide) (by decide)) (ms_s hx13_3675 (rg_lt (nle c_3668) r_v5 r_v1) (by decide) (by decide) hm) bσ10_3672
        · unfold F_X12_when_84
          refine ok_nm (fun x13_3676 hx13_3676 => ?_)
          exact ih _ _ _ _ _ _ r_v1 r_v2 (rg_w (rg_eq hx13_3676 (rg_add (l := 1) (h := 20) (rg_lt (nle c_3668) r_v5 r_v1) (show rg (1 : Int32) (1) (1) from ⟨by decide, by decide⟩) (by decide) (by decide) (by decide) (by decide))) (by decide) (by decide)) (ms_s hx13_3676 (rg_lt (nle c_3668) r_v5 r_v1) (by decide) (by decide) hm) bσ10_3672
      · unfold F_X12_when_70
        refine ok_if (fun c_3677 => ?_) (fun c_3677 => ?_)
        · unfold F_X12_when_84
          refine ok_nm (fun x13_3678 hx13_3678 => ?_)
          exact ih _ _ _ _ _ _ r_v1 r_v2 (rg_w (rg_eq hx13_3678 (rg_add (l := 1) (h := 20) (rg_lt (nle c_3668) r_v5 r_v1) (show rg (1 : Int32) (1) (1) from ⟨by decide, by decide⟩) (by decide) (by decide) (by decide) (by decide))) (by decide) (by decide)) (ms_s hx13_3678 (rg_lt (nle c_3668) r_v5 r_v1) (by decide) (by decide) hm) bσ10_3672
        · unfold F_X12_when_84
          refine ok_nm (fun x13_3679 hx13_3679 => ?_)
          exact ih _ _ _ _ _ _ r_v1 r_v2 (rg_w (rg_eq hx13_3679 (rg_add (l := 1) (h := 20) (rg_lt (nle c_3668) r_v5 r_v1) (show rg (1 : Int32) (1) (1) from ⟨by decide, by decide⟩) (by decide) (by decide) (by decide) (by decide))) (by decide) (by decide)) (ms_s hx13_3679 (rg_lt (nle c_3668) r_v5 r_v1) (by decide) (by decide) hm) bσ10_3672

set_option maxHeartbeats 4000000 in
set_option maxRecDepth 100000 in
theorem s_X12_when {g : Nat → Int32} {m : Int} {a1 : Int32} {a2 : Int32} {σ : SG} {ρ : RG} (hB : BF g m σ) : ok (F_X12_when a1 a2 σ ρ) (fun q => rg q.1 (-2147483648) (2147483647) ∧ BF g m q.2) := by
  unfold F_X12_when
  refine ok_bn (s_X12_in) (fun r1_3680 qr1_3680 => ?_)
  refine ok_if (fun c_3681 => ?_) (fun c_3681 => ?_)
  · exact ok_some ⟨(rg_w (show rg (-1 : Int32) (-1) (-1) from ⟨by decide, by decide⟩) (by decide) (by decide)), hB⟩
  · obtain ⟨w_3682, w_3683⟩ := qr1_3680.2 c_3681
    refine ok_bn (s_X12_in) (fun r3_3684 qr3_3684 => ?_)
    refine ok_if (fun c_3685 => ?_) (fun c_3685 => ?_)
    · exact ok_some ⟨(rg_w (show rg (-2 : Int32) (-2) (-2) from ⟨by decide, by decide⟩) (by decide) (by decide)), hB⟩
    · obtain ⟨w_3686, w_3687⟩ := qr3_3684.2 c_3685
      refine ok_bn (s_X12_keeps hB) (fun σ5_3688 qσ5_3688 => ?_)
      refine ok_bn2 (s_X12_goodBy (rg_w (rg_le w_3687 (rg_ge w_3686 (show rg (1 : Int32) (1) (1) from ⟨by decide, by decide⟩) (rg_any _)) (show rg (20 : Int32) (20) (20) from ⟨by decide, by decide⟩)) (by decide) (by decide)) qσ5_3688) (fun r6_3689 σ6_3690 qr6_3689 => ?_)
      obtain ⟨hr6_3689, bσ6_3690⟩ := qr6_3689
      exact (s_X12_when_42 (rg_le w_3687 (rg_ge w_3686 (show rg (1 : Int32) (1) (1) from ⟨by decide, by decide⟩) (rg_any _)) (show rg (20 : Int32) (20) (20) from ⟨by decide, by decide⟩)) (rg_le w_3683 (rg_ge w_3682 (show rg (0 : Int32) (0) (0) from ⟨by decide, by decide⟩) (rg_any _)) (show rg (1 : Int32) (1) (1) from ⟨by decide, by decide⟩)) 1024 _ _ _ _ _ _ (rg_le w_3687 (rg_ge w_3686 (show rg (1 : Int32) (1) (1) from ⟨by decide, by decide⟩) (rg_any _)) (show rg (20 : Int32) (20) (20) from ⟨by decide, by decide⟩)) (rg_le w_3683 (rg_ge w_3682 (show rg (0 : Int32) (0) (0) from ⟨by decide, by decide⟩) (rg_any _)) (show rg (1 : Int32) (1) (1) from ⟨by decide, by decide⟩)) (rg_w (show rg (0 : Int32) (0) (0) from ⟨by decide, by decide⟩) (by decide) (by decide)) (ms_0 (show rg (0 : Int32) (0) (0) from ⟨by decide, by decide⟩) (by decide)) bσ6_3690)

set_option maxHeartbeats 4000000 in
set_option maxRecDepth 100000 in
theorem s_X12_guide {g : Nat → Int32} {m : Int} {a1 : Int32} {σ : SG} {ρ : RG} (hB : BF g m σ) : ok (F_X12_guide a1 σ ρ) (fun q => rg q.1 (-2147483648) (2147483647) ∧ BF g m q.2) := by
  unfold F_X12_guide
  refine ok_bn (s_X12_in) (fun r1_3703 qr1_3703 => ?_)
  refine ok_if (fun c_3704 => ?_) (fun c_3704 => ?_)
  · exact ok_some ⟨(rg_w (show rg (-10002 : Int32) (-10002) (-10002) from ⟨by decide, by decide⟩) (by decide) (by decide)), hB⟩
  · obtain ⟨w_3705, w_3706⟩ := qr1_3703.2 c_3704
    refine ok_bn (s_X12_keeps hB) (fun σ3_3707 qσ3_3707 => ?_)
    refine ok_bn2 (s_X12_goodBy (rg_le w_3706 (rg_ge w_3705 (show rg (0 : Int32) (0) (0) from ⟨by decide, by decide⟩) (rg_any _)) (show rg (40 : Int32) (40) (40) from ⟨by decide, by decide⟩)) qσ3_3707) (fun r4_3708 σ4_3709 qr4_3708 => ?_)
    obtain ⟨hr4_3708, bσ4_3709⟩ := qr4_3708
    refine ok_nm (fun σ6_3710 hσ6_3710 => ?_)
    have bσ6_3710 : BF g m σ6_3710 := by rw [hσ6_3710]; exact bf_set bσ4_3709 (rg_any _) (by decide)
    refine ok_bn2 (s_X12_goodBy (rg_le w_3706 (rg_ge w_3705 (show rg (0 : Int32) (0) (0) from ⟨by decide, by decide⟩) (rg_any _)) (show rg (40 : Int32) (40) (40) from ⟨by decide, by decide⟩)) bσ6_3710) (fun r7_3711 σ7_3712 qr7_3711 => ?_)
    obtain ⟨hr7_3711, bσ7_3712⟩ := qr7_3711
    refine ok_nm (fun σ9_3713 hσ9_3713 => ?_)
    have bσ9_3713 : BF g m σ9_3713 := by rw [hσ9_3713]; exact bf_set bσ7_3712 (rg_any _) (by decide)
    refine ok_nm (fun x10_3714 hx10_3714 => ?_)
    exact ok_some ⟨(rg_any _), bσ9_3713⟩

set_option maxHeartbeats 4000000 in
set_option maxRecDepth 100000 in
theorem s_X12_again_24 {g : Nat → Int32} {m : Int} {a1 : Int32} {ρ : RG} (r_a1 : rg a1 (0) (5)) : ∀ (n : Nat) (σ : SG) (v1 : Int32) (v2 : Int32) (v3 : Int32), rg v1 (0) (5) → rg v3 (1) (21) → (21 : Int) - v3.toInt < (n : Int) → BF g m σ → ok (F_X12_again_24 a1 n σ ρ v1 v2 v3) (fun q => rg q.1 (-2147483648) (2147483647) ∧ BF g m q.2) := by
  intro n
  induction n with
  | zero => intro σ v1 v2 v3 r_v1 r_v3 hm hB; exact (ms_z r_v3 (by decide) hm).elim
  | succ n ih =>
    intro σ v1 v2 v3 r_v1 r_v3 hm hB
    unfold F_X12_again_24
    refine ok_if (fun c_3736 => ?_) (fun c_3736 => ?_)
    · unfold F_X12_again_106
      refine ok_nm (fun σ8_3737 hσ8_3737 => ?_)
      have bσ8_3737 : BF g m σ8_3737 := by rw [hσ8_3737]; exact bf_set hB (rg_any _) (by decide)
      refine ok_bn (s_X12_goesBack bσ8_3737) (fun σ9_3738 qσ9_3738 => ?_)
      exact ok_some ⟨(rg_any _), qσ9_3738⟩
    · refine ok_if (fun c_3739 => ?_) (fun c_3739 => ?_)
      · refine ok_nm (fun x11_3740 hx11_3740 => ?_)
        refine ok_gd (rg_inb (rg_eq hx11_3740 (rg_add (l := 44) (h := 49) (show rg (44 : Int32) (44) (44) from ⟨by decide, by decide⟩) r_v1 (by decide) (by decide) (by decide) (by decide))) (by decide) (by decide)) ?_
        refine ok_bn2 (s_X12_cuts r_v1 hB) (fun r13_3741 σ13_3742 qr13_3741 => ?_)
        obtain ⟨hr13_3741, bσ13_3742⟩ := qr13_3741
        refine ok_nm (fun σ15_3743 hσ15_3743 => ?_)
        have bσ15_3743 : BF g m σ15_3743 := by rw [hσ15_3743]; exact bf_set bσ13_3742 (rg_any _) (by decide)
        refine ok_if (fun c_3744 => ?_) (fun c_3744 => ?_)
        · refine ok_if (fun c_3745 => ?_) (fun c_3745 => ?_)
          · unfold F_X12_again_99
            refine ok_nm (fun x17_3746 hx17_3746 => ?_)
            exact ih _ _ _ _ r_v1 (rg_w (rg_eq hx17_3746 (rg_add (l := 2) (h := 21) (rg_le (nlt c_3736) r_v3 (show rg (20 : Int32) (20) (20) from ⟨by decide, by decide⟩)) (show rg (1 : Int32) (1) (1) from ⟨by decide, by decide⟩) (by decide) (by decide) (by decide) (by decide))) (by decide) (by decide)) (ms_s hx17_3746 (rg_le (nlt c_3736) r_v3 (show rg (20 : Int32) (20) (20) from ⟨by decide, by decide⟩)) (by decide) (by decide) hm) bσ15_3743
          · unfold F_X12_again_97
            unfold F_X12_again_99
            refine ok_nm (fun x17_3747 hx17_3747 => ?_)
            exact ih _ _ _ _ r_v1 (rg_w (rg_eq hx17_3747 (rg_add (l := 2) (h := 21) (rg_le (nlt c_3736) r_v3 (show rg (20 : Int32) (20) (20) from ⟨by decide, by decide⟩)) (show rg (1 : Int32) (1) (1) from ⟨by decide, by decide⟩) (by decide) (by decide) (by decide) (by decide))) (by decide) (by decide)) (ms_s hx17_3747 (rg_le (nlt c_3736) r_v3 (show rg (20 : Int32) (20) (20) from ⟨by decide, by decide⟩)) (by decide) (by decide) hm) bσ15_3743
        · unfold F_X12_again_97
          unfold F_X12_again_99
          refine ok_nm (fun x17_3748 hx17_3748 => ?_)
          exact ih _ _ _ _ r_v1 (rg_w (rg_eq hx17_3748 (rg_add (l := 2) (h := 21) (rg_le (nlt c_3736) r_v3 (show rg (20 : Int32) (20) (20) from ⟨by decide, by decide⟩)) (show rg (1 : Int32) (1) (1) from ⟨by decide, by decide⟩) (by decide) (by decide) (by decide) (by decide))) (by decide) (by decide)) (ms_s hx17_3748 (rg_le (nlt c_3736) r_v3 (show rg (20 : Int32) (20) (20) from ⟨by decide, by decide⟩)) (by decide) (by decide) hm) bσ15_3743
      · unfold F_X12_again_106
        refine ok_nm (fun σ8_3749 hσ8_3749 => ?_)
        have bσ8_3749 : BF g m σ8_3749 := by rw [hσ8_3749]; exact bf_set hB (rg_any _) (by decide)
        refine ok_bn (s_X12_goesBack bσ8_3749) (fun σ9_3750 qσ9_3750 => ?_)
        exact ok_some ⟨(rg_any _), qσ9_3750⟩

set_option maxHeartbeats 4000000 in
set_option maxRecDepth 100000 in
theorem s_X12_again {g : Nat → Int32} {m : Int} {a1 : Int32} {σ : SG} {ρ : RG} (hB : BF g m σ) : ok (F_X12_again a1 σ ρ) (fun q => rg q.1 (-2147483648) (2147483647) ∧ BF g m q.2) := by
  unfold F_X12_again
  refine ok_bn (s_X12_isCutter hB.1) (fun r1_3751 qr1_3751 => ?_)
  refine ok_if (fun c_3752 => ?_) (fun c_3752 => ?_)
  · exact ok_some ⟨(rg_w (show rg (-1 : Int32) (-1) (-1) from ⟨by decide, by decide⟩) (by decide) (by decide)), hB⟩
  · obtain ⟨w_3753, w_3754⟩ := qr1_3751.2 c_3752
    refine ok_bn (s_X12_keeps hB) (fun σ3_3755 qσ3_3755 => ?_)
    refine ok_nm (fun σ5_3756 hσ5_3756 => ?_)
    have bσ5_3756 : BF g m σ5_3756 := by rw [hσ5_3756]; exact bf_set qσ3_3755 (rg_any _) (by decide)
    exact (s_X12_again_24 (rg_le w_3754 (rg_ge w_3753 (show rg (0 : Int32) (0) (0) from ⟨by decide, by decide⟩) (rg_any _)) (show rg (5 : Int32) (5) (5) from ⟨by decide, by decide⟩)) 1024 _ _ _ _ (rg_le w_3754 (rg_ge w_3753 (show rg (0 : Int32) (0) (0) from ⟨by decide, by decide⟩) (rg_any _)) (show rg (5 : Int32) (5) (5) from ⟨by decide, by decide⟩)) (rg_w (show rg (1 : Int32) (1) (1) from ⟨by decide, by decide⟩) (by decide) (by decide)) (ms_0 (show rg (1 : Int32) (1) (1) from ⟨by decide, by decide⟩) (by decide)) bσ5_3756)

set_option maxHeartbeats 4000000 in
set_option maxRecDepth 100000 in
theorem s_X12_evener_61 {g : Nat → Int32} {m : Int} {a1 : Int32} {a2 : Int32} {ρ : RG} (r_a1 : rg a1 (0) (40)) (r_a2 : rg a2 (0) (1)) : ∀ (n : Nat) (σ : SG) (v2 : Int32) (v3 : Int32) (v4 : Int32) (v5 : Int32), rg v2 (0) (1) → rg v3 (0) (5) → rg v5 (1) (6) → (6 : Int) - v5.toInt < (n : Int) → BF g m σ → ok (F_X12_evener_61 a1 a2 n σ ρ v2 v3 v4 v5) (fun q => rg q.1 (-2147483648) (2147483647) ∧ BF g m q.2) := by
  intro n
  induction n with
  | zero => intro σ v2 v3 v4 v5 r_v2 r_v3 r_v5 hm hB; exact (ms_z r_v5 (by decide) hm).elim
  | succ n ih =>
    intro σ v2 v3 v4 v5 r_v2 r_v3 r_v5 hm hB
    unfold F_X12_evener_61
    refine ok_if (fun c_3786 => ?_) (fun c_3786 => ?_)
    · refine ok_nm (fun x9_3787 hx9_3787 => ?_)
      refine ok_gd (rg_inb (rg_eq hx9_3787 (rg_add (l := 5) (h := 10) (show rg (5 : Int32) (5) (5) from ⟨by decide, by decide⟩) r_v3 (by decide) (by decide) (by decide) (by decide))) (by decide) (by decide)) ?_
      refine ok_nm (fun x11_3788 hx11_3788 => ?_)
      refine ok_bn (s_X12_goesBack hB) (fun σ12_3789 qσ12_3789 => ?_)
      refine ok_if (fun c_3790 => ?_) (fun c_3790 => ?_)
      · exact ok_some ⟨(rg_w r_v3 (by decide) (by decide)), qσ12_3789⟩
      · exact ok_some ⟨(rg_any _), qσ12_3789⟩
    · refine ok_nm (fun x14_3791 hx14_3791 => ?_)
      refine ok_gd (rg_inb (rg_eq hx14_3791 (rg_add (l := 6) (h := 10) (show rg (5 : Int32) (5) (5) from ⟨by decide, by decide⟩) (rg_lt (nle c_3786) r_v5 (rg_gt (nle c_3786) r_v5 (bx_get hB.1 (r := 55) (a := 11) (b := 11) (k := 11) (l := 0) (h := 6) (by decide) (by decide) (by decide)))) (by decide) (by decide) (by decide) (by decide))) (by decide) (by decide)) ?_
      refine ok_nm (fun x16_3792 hx16_3792 => ?_)
      refine ok_gd (rg_inb (rg_eq hx16_3792 (rg_add (l := 5) (h := 10) (show rg (5 : Int32) (5) (5) from ⟨by decide, by decide⟩) r_v3 (by decide) (by decide) (by decide) (by decide))) (by decide) (by decide)) ?_
      refine ok_if (fun c_3793 => ?_) (fun c_3793 => ?_)
      · unfold F_X12_evener_99
        refine ok_nm (fun x19_3794 hx19_3794 => ?_)
        refine ok_gd (rg_inb (rg_eq (hx19_3794.trans hx14_3791.symm) (rg_eq hx14_3791 (rg_add (l := 6) (h := 10) (show rg (5 : Int32) (5) (5) from ⟨by decide, by decide⟩) (rg_lt (nle c_3786) r_v5 (rg_gt (nle c_3786) r_v5 (bx_get hB.1 (r := 55) (a := 11) (b := 11) (k := 11) (l := 0) (h := 6) (by decide) (by decide) (by decide)))) (by decide) (by decide) (by decide) (by decide)))) (by decide) (by decide)) ?_
        refine ok_if (fun c_3795 => ?_) (fun c_3795 => ?_)
        · unfold F_X12_evener_128
          refine ok_nm (fun x22_3796 hx22_3796 => ?_)
          exact ih _ _ _ _ _ r_v2 r_v3 (rg_w (rg_eq hx22_3796 (rg_add (l := 2) (h := 6) (rg_lt (nle c_3786) r_v5 (rg_gt (nle c_3786) r_v5 (bx_get hB.1 (r := 55) (a := 11) (b := 11) (k := 11) (l := 0) (h := 6) (by decide) (by decide) (by decide)))) (show rg (1 : Int32) (1) (1) from ⟨by decide, by decide⟩) (by decide) (by decide) (by decide) (by decide))) (by decide) (by decide)) (ms_s hx22_3796 (rg_lt (nle c_3786) r_v5 (rg_gt (nle c_3786) r_v5 (bx_get hB.1 (r := 55) (a := 11) (b := 11) (k := 11) (l := 0) (h := 6) (by decide) (by decide) (by decide)))) (by decide) (by decide) hm) hB
        · refine ok_nm (fun x23_3797 hx23_3797 => ?_)
          refine ok_gd (rg_inb (rg_eq (hx23_3797.trans hx19_3794.symm) (rg_eq (hx19_3794.trans hx14_3791.symm) (rg_eq hx14_3791 (rg_add (l := 6) (h := 10) (show rg (5 : Int32) (5) (5) from ⟨by decide, by decide⟩) (rg_lt (nle c_3786) r_v5 (rg_gt (nle c_3786) r_v5 (bx_get hB.1 (r := 55) (a := 11) (b := 11) (k := 11) (l := 0) (h := 6) (by decide) (by decide) (by decide)))) (by decide) (by decide) (by decide) (by decide))))) (by decide) (by decide)) ?_
          unfold F_X12_evener_128
          refine ok_nm (fun x22_3798 hx22_3798 => ?_)
          exact ih _ _ _ _ _ r_v2 r_v3 (rg_w (rg_eq hx22_3798 (rg_add (l := 2) (h := 6) (rg_lt (nle c_3786) r_v5 (rg_gt (nle c_3786) r_v5 (bx_get hB.1 (r := 55) (a := 11) (b := 11) (k := 11) (l := 0) (h := 6) (by decide) (by decide) (by decide)))) (show rg (1 : Int32) (1) (1) from ⟨by decide, by decide⟩) (by decide) (by decide) (by decide) (by decide))) (by decide) (by decide)) (ms_s hx22_3798 (rg_lt (nle c_3786) r_v5 (rg_gt (nle c_3786) r_v5 (bx_get hB.1 (r := 55) (a := 11) (b := 11) (k := 11) (l := 0) (h := 6) (by decide) (by decide) (by decide)))) (by decide) (by decide) hm) hB
      · unfold F_X12_evener_99
        refine ok_nm (fun x19_3799 hx19_3799 => ?_)
        refine ok_gd (rg_inb (rg_eq (hx19_3799.trans hx14_3791.symm) (rg_eq hx14_3791 (rg_add (l := 6) (h := 10) (show rg (5 : Int32) (5) (5) from ⟨by decide, by decide⟩) (rg_lt (nle c_3786) r_v5 (rg_gt (nle c_3786) r_v5 (bx_get hB.1 (r := 55) (a := 11) (b := 11) (k := 11) (l := 0) (h := 6) (by decide) (by decide) (by decide)))) (by decide) (by decide) (by decide) (by decide)))) (by decide) (by decide)) ?_
        refine ok_if (fun c_3800 => ?_) (fun c_3800 => ?_)
        · unfold F_X12_evener_128
          refine ok_nm (fun x22_3801 hx22_3801 => ?_)
          exact ih _ _ _ _ _ r_v2 (rg_w (rg_lt (nle c_3786) r_v5 (rg_gt (nle c_3786) r_v5 (bx_get hB.1 (r := 55) (a := 11) (b := 11) (k := 11) (l := 0) (h := 6) (by decide) (by decide) (by decide)))) (by decide) (by decide)) (rg_w (rg_eq hx22_3801 (rg_add (l := 2) (h := 6) (rg_lt (nle c_3786) r_v5 (rg_gt (nle c_3786) r_v5 (bx_get hB.1 (r := 55) (a := 11) (b := 11) (k := 11) (l := 0) (h := 6) (by decide) (by decide) (by decide)))) (show rg (1 : Int32) (1) (1) from ⟨by decide, by decide⟩) (by decide) (by decide) (by decide) (by decide))) (by decide) (by decide)) (ms_s hx22_3801 (rg_lt (nle c_3786) r_v5 (rg_gt (nle c_3786) r_v5 (bx_get hB.1 (r := 55) (a := 11) (b := 11) (k := 11) (l := 0) (h := 6) (by decide) (by decide) (by decide)))) (by decide) (by decide) hm) hB
        · refine ok_nm (fun x23_3802 hx23_3802 => ?_)
          refine ok_gd (rg_inb (rg_eq (hx23_3802.trans hx19_3799.symm) (rg_eq (hx19_3799.trans hx14_3791.symm) (rg_eq hx14_3791 (rg_add (l := 6) (h := 10) (show rg (5 : Int32) (5) (5) from ⟨by decide, by decide⟩) (rg_lt (nle c_3786) r_v5 (rg_gt (nle c_3786) r_v5 (bx_get hB.1 (r := 55) (a := 11) (b := 11) (k := 11) (l := 0) (h := 6) (by decide) (by decide) (by decide)))) (by decide) (by decide) (by decide) (by decide))))) (by decide) (by decide)) ?_
          unfold F_X12_evener_128
          refine ok_nm (fun x22_3803 hx22_3803 => ?_)
          exact ih _ _ _ _ _ r_v2 (rg_w (rg_lt (nle c_3786) r_v5 (rg_gt (nle c_3786) r_v5 (bx_get hB.1 (r := 55) (a := 11) (b := 11) (k := 11) (l := 0) (h := 6) (by decide) (by decide) (by decide)))) (by decide) (by decide)) (rg_w (rg_eq hx22_3803 (rg_add (l := 2) (h := 6) (rg_lt (nle c_3786) r_v5 (rg_gt (nle c_3786) r_v5 (bx_get hB.1 (r := 55) (a := 11) (b := 11) (k := 11) (l := 0) (h := 6) (by decide) (by decide) (by decide)))) (show rg (1 : Int32) (1) (1) from ⟨by decide, by decide⟩) (by decide) (by decide) (by decide) (by decide))) (by decide) (by decide)) (ms_s hx22_3803 (rg_lt (nle c_3786) r_v5 (rg_gt (nle c_3786) r_v5 (bx_get hB.1 (r := 55) (a := 11) (b := 11) (k := 11) (l := 0) (h := 6) (by decide) (by decide) (by decide)))) (by decide) (by decide) hm) hB

set_option maxHeartbeats 4000000 in
set_option maxRecDepth 100000 in
theorem s_X12_evener {g : Nat → Int32} {m : Int} {a1 : Int32} {a2 : Int32} {σ : SG} {ρ : RG} (hB : BF g m σ) : ok (F_X12_evener a1 a2 σ ρ) (fun q => rg q.1 (-2147483648) (2147483647) ∧ BF g m q.2) := by
  unfold F_X12_evener
  refine ok_bn (s_X12_in) (fun r1_3804 qr1_3804 => ?_)
  refine ok_if (fun c_3805 => ?_) (fun c_3805 => ?_)
  · exact ok_some ⟨(rg_w (show rg (-1 : Int32) (-1) (-1) from ⟨by decide, by decide⟩) (by decide) (by decide)), hB⟩
  · obtain ⟨w_3806, w_3807⟩ := qr1_3804.2 c_3805
    refine ok_bn (s_X12_in) (fun r3_3808 qr3_3808 => ?_)
    refine ok_if (fun c_3809 => ?_) (fun c_3809 => ?_)
    · exact ok_some ⟨(rg_w (show rg (-2 : Int32) (-2) (-2) from ⟨by decide, by decide⟩) (by decide) (by decide)), hB⟩
    · obtain ⟨w_3810, w_3811⟩ := qr3_3808.2 c_3809
      refine ok_if (fun c_3812 => ?_) (fun c_3812 => ?_)
      · exact ok_some ⟨(rg_w (show rg (-5 : Int32) (-5) (-5) from ⟨by decide, by decide⟩) (by decide) (by decide)), hB⟩
      · refine ok_bn (s_X12_keeps hB) (fun σ6_3813 qσ6_3813 => ?_)
        refine ok_bn (s_X12_goesOn (rg_w (rg_le w_3811 (rg_ge w_3810 (show rg (0 : Int32) (0) (0) from ⟨by decide, by decide⟩) (rg_any _)) (show rg (40 : Int32) (40) (40) from ⟨by decide, by decide⟩)) (by decide) (by decide)) qσ6_3813) (fun σ7_3814 qσ7_3814 => ?_)
        exact (s_X12_evener_61 (rg_le w_3811 (rg_ge w_3810 (show rg (0 : Int32) (0) (0) from ⟨by decide, by decide⟩) (rg_any _)) (show rg (40 : Int32) (40) (40) from ⟨by decide, by decide⟩)) (rg_le w_3807 (rg_ge w_3806 (show rg (0 : Int32) (0) (0) from ⟨by decide, by decide⟩) (rg_any _)) (show rg (1 : Int32) (1) (1) from ⟨by decide, by decide⟩)) 1024 _ _ _ _ _ (rg_le w_3807 (rg_ge w_3806 (show rg (0 : Int32) (0) (0) from ⟨by decide, by decide⟩) (rg_any _)) (show rg (1 : Int32) (1) (1) from ⟨by decide, by decide⟩)) (rg_w (show rg (0 : Int32) (0) (0) from ⟨by decide, by decide⟩) (by decide) (by decide)) (rg_w (show rg (1 : Int32) (1) (1) from ⟨by decide, by decide⟩) (by decide) (by decide)) (ms_0 (show rg (1 : Int32) (1) (1) from ⟨by decide, by decide⟩) (by decide)) qσ7_3814)

set_option maxHeartbeats 4000000 in
set_option maxRecDepth 100000 in
theorem s_X12_who_8 {g : Nat → Int32} {m : Int} {ρ : RG} : ∀ (n : Nat) (σ : SG) (v1 : Int32) (v2 : Int32), rg v2 (0) (6) → (6 : Int) - v2.toInt < (n : Int) → BF g m σ → ok (F_X12_who_8 n σ ρ v1 v2) (fun q => rg q.1 (-2147483648) (2147483647) ∧ BF g m q.2) := by
  intro n
  induction n with
  | zero => intro σ v1 v2 r_v2 hm hB; exact (ms_z r_v2 (by decide) hm).elim
  | succ n ih =>
    intro σ v1 v2 r_v2 hm hB
    unfold F_X12_who_8
    refine ok_if (fun c_3848 => ?_) (fun c_3848 => ?_)
    · exact ok_some ⟨(rg_any _), hB⟩
    · refine ok_nm (fun x3_3849 hx3_3849 => ?_)
      refine ok_gd (rg_inb (rg_eq hx3_3849 (rg_add (l := 44) (h := 49) (show rg (44 : Int32) (44) (44) from ⟨by decide, by decide⟩) (rg_lt (nle c_3848) r_v2 (rg_gt (nle c_3848) r_v2 (bx_get hB.1 (r := 55) (a := 11) (b := 11) (k := 11) (l := 0) (h := 6) (by decide) (by decide) (by decide)))) (by decide) (by decide) (by decide) (by decide))) (by decide) (by decide)) ?_
      refine ok_bn2 (s_X12_cuts (rg_lt (nle c_3848) r_v2 (rg_gt (nle c_3848) r_v2 (bx_get hB.1 (r := 55) (a := 11) (b := 11) (k := 11) (l := 0) (h := 6) (by decide) (by decide) (by decide)))) hB) (fun r5_3850 σ5_3851 qr5_3850 => ?_)
      obtain ⟨hr5_3850, bσ5_3851⟩ := qr5_3850
      refine ok_if (fun c_3852 => ?_) (fun c_3852 => ?_)
      · unfold F_X12_who_75
        unfold F_X12_who_76
        refine ok_nm (fun x7_3853 hx7_3853 => ?_)
        refine ok_bn (s_X12_goesBack bσ5_3851) (fun σ8_3854 qσ8_3854 => ?_)
        refine ok_nm (fun x9_3855 hx9_3855 => ?_)
        exact ih _ _ _ (rg_w (rg_eq hx9_3855 (rg_add (l := 1) (h := 6) (rg_lt (nle c_3848) r_v2 (rg_gt (nle c_3848) r_v2 (bx_get hB.1 (r := 55) (a := 11) (b := 11) (k := 11) (l := 0) (h := 6) (by decide) (by decide) (by decide)))) (show rg (1 : Int32) (1) (1) from ⟨by decide, by decide⟩) (by decide) (by decide) (by decide) (by decide))) (by decide) (by decide)) (ms_s hx9_3855 (rg_lt (nle c_3848) r_v2 (rg_gt (nle c_3848) r_v2 (bx_get hB.1 (r := 55) (a := 11) (b := 11) (k := 11) (l := 0) (h := 6) (by decide) (by decide) (by decide)))) (by decide) (by decide) hm) qσ8_3854
      · refine ok_if (fun c_3856 => ?_) (fun c_3856 => ?_)
        · refine ok_if (fun c_3857 => ?_) (fun c_3857 => ?_)
          · refine ok_nm (fun x12_3858 hx12_3858 => ?_)
            unfold F_X12_who_76
            refine ok_nm (fun x7_3859 hx7_3859 => ?_)
            refine ok_bn (s_X12_goesBack bσ5_3851) (fun σ8_3860 qσ8_3860 => ?_)
            refine ok_nm (fun x9_3861 hx9_3861 => ?_)
            exact ih _ _ _ (rg_w (rg_eq hx9_3861 (rg_add (l := 1) (h := 6) (rg_lt (nle c_3848) r_v2 (rg_gt (nle c_3848) r_v2 (bx_get hB.1 (r := 55) (a := 11) (b := 11) (k := 11) (l := 0) (h := 6) (by decide) (by decide) (by decide)))) (show rg (1 : Int32) (1) (1) from ⟨by decide, by decide⟩) (by decide) (by decide) (by decide) (by decide))) (by decide) (by decide)) (ms_s hx9_3861 (rg_lt (nle c_3848) r_v2 (rg_gt (nle c_3848) r_v2 (bx_get hB.1 (r := 55) (a := 11) (b := 11) (k := 11) (l := 0) (h := 6) (by decide) (by decide) (by decide)))) (by decide) (by decide) hm) qσ8_3860
          · unfold F_X12_who_75
            unfold F_X12_who_76
            refine ok_nm (fun x7_3862 hx7_3862 => ?_)
            refine ok_bn (s_X12_goesBack bσ5_3851) (fun σ8_3863 qσ8_3863 => ?_)
            refine ok_nm (fun x9_3864 hx9_3864 => ?_)
            exact ih _ _ _ (rg_w (rg_eq hx9_3864 (rg_add (l := 1) (h := 6) (rg_lt (nle c_3848) r_v2 (rg_gt (nle c_3848) r_v2 (bx_get hB.1 (r := 55) (a := 11) (b := 11) (k := 11) (l := 0) (h := 6) (by decide) (by decide) (by decide)))) (show rg (1 : Int32) (1) (1) from ⟨by decide, by decide⟩) (by decide) (by decide) (by decide) (by decide))) (by decide) (by decide)) (ms_s hx9_3864 (rg_lt (nle c_3848) r_v2 (rg_gt (nle c_3848) r_v2 (bx_get hB.1 (r := 55) (a := 11) (b := 11) (k := 11) (l := 0) (h := 6) (by decide) (by decide) (by decide)))) (by decide) (by decide) hm) qσ8_3863
        · unfold F_X12_who_75
          unfold F_X12_who_76
          refine ok_nm (fun x7_3865 hx7_3865 => ?_)
          refine ok_bn (s_X12_goesBack bσ5_3851) (fun σ8_3866 qσ8_3866 => ?_)
          refine ok_nm (fun x9_3867 hx9_3867 => ?_)
          exact ih _ _ _ (rg_w (rg_eq hx9_3867 (rg_add (l := 1) (h := 6) (rg_lt (nle c_3848) r_v2 (rg_gt (nle c_3848) r_v2 (bx_get hB.1 (r := 55) (a := 11) (b := 11) (k := 11) (l := 0) (h := 6) (by decide) (by decide) (by decide)))) (show rg (1 : Int32) (1) (1) from ⟨by decide, by decide⟩) (by decide) (by decide) (by decide) (by decide))) (by decide) (by decide)) (ms_s hx9_3867 (rg_lt (nle c_3848) r_v2 (rg_gt (nle c_3848) r_v2 (bx_get hB.1 (r := 55) (a := 11) (b := 11) (k := 11) (l := 0) (h := 6) (by decide) (by decide) (by decide)))) (by decide) (by decide) hm) qσ8_3866

set_option maxHeartbeats 4000000 in
set_option maxRecDepth 100000 in
theorem s_X12_who {g : Nat → Int32} {m : Int} {σ : SG} {ρ : RG} (hB : BF g m σ) : ok (F_X12_who σ ρ) (fun q => rg q.1 (-2147483648) (2147483647) ∧ BF g m q.2) := by
  unfold F_X12_who
  refine ok_bn (s_X12_keeps hB) (fun σ1_3868 qσ1_3868 => ?_)
  exact (s_X12_who_8 1024 _ _ _ (rg_w (show rg (0 : Int32) (0) (0) from ⟨by decide, by decide⟩) (by decide) (by decide)) (ms_0 (show rg (0 : Int32) (0) (0) from ⟨by decide, by decide⟩) (by decide)) qσ1_3868)

set_option maxHeartbeats 4000000 in
set_option maxRecDepth 100000 in
theorem s_X12_looked_9 {g : Nat → Int32} {m : Int} {ρ : RG} : ∀ (n : Nat) (σ : SG) (v1 : Int32) (v2 : Int32), rg v2 (0) (8) → (8 : Int) - v2.toInt < (n : Int) → BF g m σ → ok (F_X12_looked_9 n σ ρ v1 v2) (fun q => rg q.1 (-2147483648) (2147483647) ∧ BF g m q.2) := by
  intro n
  induction n with
  | zero => intro σ v1 v2 r_v2 hm hB; exact (ms_z r_v2 (by decide) hm).elim
  | succ n ih =>
    intro σ v1 v2 r_v2 hm hB
    unfold F_X12_looked_9
    refine ok_if (fun c_3891 => ?_) (fun c_3891 => ?_)
    · refine ok_bn (s_X12_goesBack hB) (fun σ3_3892 qσ3_3892 => ?_)
      exact ok_some ⟨(rg_any _), qσ3_3892⟩
    · refine ok_if (fun c_3893 => ?_) (fun c_3893 => ?_)
      · refine ok_nm (fun x6_3894 hx6_3894 => ?_)
        refine ok_gd (rg_inb (rg_eq hx6_3894 (rg_add (l := 78) (h := 85) (show rg (78 : Int32) (78) (78) from ⟨by decide, by decide⟩) (rg_lt (nle c_3891) r_v2 (rg_gt (nle c_3891) r_v2 (bx_get hB.1 (r := 55) (a := 14) (b := 14) (k := 14) (l := 0) (h := 8) (by decide) (by decide) (by decide)))) (by decide) (by decide) (by decide) (by decide))) (by decide) (by decide)) ?_
        refine ok_nm (fun x8_3895 hx8_3895 => ?_)
        refine ok_gd (rg_inb (rg_eq hx8_3895 (rg_add (l := 44) (h := 49) (show rg (44 : Int32) (44) (44) from ⟨by decide, by decide⟩) (bx_getx hB.1 (r := 55) (a := 78) (b := 85) (l := 0) (h := 5) (by decide) (rg_w (rg_eq hx6_3894 (rg_add (l := 78) (h := 85) (show rg (78 : Int32) (78) (78) from ⟨by decide, by decide⟩) (rg_lt (nle c_3891) r_v2 (rg_gt (nle c_3891) r_v2 (bx_get hB.1 (r := 55) (a := 14) (b := 14) (k := 14) (l := 0) (h := 8) (by decide) (by decide) (by decide)))) (by decide) (by decide) (by decide) (by decide))) (by decide) (by decide))) (by decide) (by decide) (by decide) (by decide))) (by decide) (by decide)) ?_
        refine ok_bn2 (s_X12_cuts (bx_getx hB.1 (r := 55) (a := 78) (b := 85) (l := 0) (h := 5) (by decide) (rg_w (rg_eq hx6_3894 (rg_add (l := 78) (h := 85) (show rg (78 : Int32) (78) (78) from ⟨by decide, by decide⟩) (rg_lt (nle c_3891) r_v2 (rg_gt (nle c_3891) r_v2 (bx_get hB.1 (r := 55) (a := 14) (b := 14) (k := 14) (l := 0) (h := 8) (by decide) (by decide) (by decide)))) (by decide) (by decide) (by decide) (by decide))) (by decide) (by decide))) hB) (fun r10_3896 σ10_3897 qr10_3896 => ?_)
        obtain ⟨hr10_3896, bσ10_3897⟩ := qr10_3896
        refine ok_if (fun c_3898 => ?_) (fun c_3898 => ?_)
        · unfold F_X12_looked_69
          unfold F_X12_looked_75
          refine ok_nm (fun x12_3899 hx12_3899 => ?_)
          exact ih _ _ _ (rg_w (rg_eq hx12_3899 (rg_add (l := 1) (h := 8) (rg_lt (nle c_3891) r_v2 (rg_gt (nle c_3891) r_v2 (bx_get hB.1 (r := 55) (a := 14) (b := 14) (k := 14) (l := 0) (h := 8) (by decide) (by decide) (by decide)))) (show rg (1 : Int32) (1) (1) from ⟨by decide, by decide⟩) (by decide) (by decide) (by decide) (by decide))) (by decide) (by decide)) (ms_s hx12_3899 (rg_lt (nle c_3891) r_v2 (rg_gt (nle c_3891) r_v2 (bx_get hB.1 (r := 55) (a := 14) (b := 14) (k := 14) (l := 0) (h := 8) (by decide) (by decide) (by decide)))) (by decide) (by decide) hm) bσ10_3897
        · refine ok_nm (fun x13_3900 hx13_3900 => ?_)
          refine ok_gd (rg_inb (rg_eq hx13_3900 (rg_add (l := 86) (h := 93) (show rg (86 : Int32) (86) (86) from ⟨by decide, by decide⟩) (rg_lt (nle c_3891) r_v2 (rg_gt (nle c_3891) r_v2 (bx_get hB.1 (r := 55) (a := 14) (b := 14) (k := 14) (l := 0) (h := 8) (by decide) (by decide) (by decide)))) (by decide) (by decide) (by decide) (by decide))) (by decide) (by decide)) ?_
          refine ok_if (fun c_3901 => ?_) (fun c_3901 => ?_)
          · unfold F_X12_looked_75
            refine ok_nm (fun x12_3902 hx12_3902 => ?_)
            exact ih _ _ _ (rg_w (rg_eq hx12_3902 (rg_add (l := 1) (h := 8) (rg_lt (nle c_3891) r_v2 (rg_gt (nle c_3891) r_v2 (bx_get hB.1 (r := 55) (a := 14) (b := 14) (k := 14) (l := 0) (h := 8) (by decide) (by decide) (by decide)))) (show rg (1 : Int32) (1) (1) from ⟨by decide, by decide⟩) (by decide) (by decide) (by decide) (by decide))) (by decide) (by decide)) (ms_s hx12_3902 (rg_lt (nle c_3891) r_v2 (rg_gt (nle c_3891) r_v2 (bx_get hB.1 (r := 55) (a := 14) (b := 14) (k := 14) (l := 0) (h := 8) (by decide) (by decide) (by decide)))) (by decide) (by decide) hm) bσ10_3897
          · unfold F_X12_looked_69
            unfold F_X12_looked_75
            refine ok_nm (fun x12_3903 hx12_3903 => ?_)
            exact ih _ _ _ (rg_w (rg_eq hx12_3903 (rg_add (l := 1) (h := 8) (rg_lt (nle c_3891) r_v2 (rg_gt (nle c_3891) r_v2 (bx_get hB.1 (r := 55) (a := 14) (b := 14) (k := 14) (l := 0) (h := 8) (by decide) (by decide) (by decide)))) (show rg (1 : Int32) (1) (1) from ⟨by decide, by decide⟩) (by decide) (by decide) (by decide) (by decide))) (by decide) (by decide)) (ms_s hx12_3903 (rg_lt (nle c_3891) r_v2 (rg_gt (nle c_3891) r_v2 (bx_get hB.1 (r := 55) (a := 14) (b := 14) (k := 14) (l := 0) (h := 8) (by decide) (by decide) (by decide)))) (by decide) (by decide) hm) bσ10_3897
      · refine ok_bn (s_X12_goesBack hB) (fun σ5_3904 qσ5_3904 => ?_)
        exact ok_some ⟨(rg_any _), qσ5_3904⟩

set_option maxHeartbeats 4000000 in
set_option maxRecDepth 100000 in
theorem s_X12_looked {g : Nat → Int32} {m : Int} {σ : SG} {ρ : RG} (hB : BF g m σ) : ok (F_X12_looked σ ρ) (fun q => rg q.1 (-2147483648) (2147483647) ∧ BF g m q.2) := by
  unfold F_X12_looked
  refine ok_bn (s_X12_keeps hB) (fun σ1_3905 qσ1_3905 => ?_)
  exact (s_X12_looked_9 1024 _ _ _ (rg_w (show rg (0 : Int32) (0) (0) from ⟨by decide, by decide⟩) (by decide) (by decide)) (ms_0 (show rg (0 : Int32) (0) (0) from ⟨by decide, by decide⟩) (by decide)) qσ1_3905)

set_option maxHeartbeats 4000000 in
set_option maxRecDepth 100000 in
theorem s_X12_isUnder {m : Int} {a1 : Int32} {a2 : Int32} {σ : SG} {ρ : RG} (hB : BX m σ) : ok (F_X12_isUnder a1 a2 σ ρ) (fun q => rg q (0) (1)) := by
  unfold F_X12_isUnder
  refine ok_if (fun c_3912 => ?_) (fun c_3912 => ?_)
  · exact ok_some (rg_w (show rg (1 : Int32) (1) (1) from ⟨by decide, by decide⟩) (by decide) (by decide))
  · refine ok_if (fun c_3913 => ?_) (fun c_3913 => ?_)
    · exact ok_some (rg_w (show rg (1 : Int32) (1) (1) from ⟨by decide, by decide⟩) (by decide) (by decide))
    · refine ok_if (fun c_3914 => ?_) (fun c_3914 => ?_)
      · exact ok_some (rg_w (show rg (0 : Int32) (0) (0) from ⟨by decide, by decide⟩) (by decide) (by decide))
      · refine ok_if (fun c_3915 => ?_) (fun c_3915 => ?_)
        · exact ok_some (rg_w (show rg (0 : Int32) (0) (0) from ⟨by decide, by decide⟩) (by decide) (by decide))
        · refine ok_nm (fun x5_3916 hx5_3916 => ?_)
          refine ok_if (fun c_3917 => ?_) (fun c_3917 => ?_)
          · exact ok_some (rg_w (show rg (1 : Int32) (1) (1) from ⟨by decide, by decide⟩) (by decide) (by decide))
          · exact ok_some (rg_w (show rg (0 : Int32) (0) (0) from ⟨by decide, by decide⟩) (by decide) (by decide))

set_option maxHeartbeats 4000000 in
set_option maxRecDepth 100000 in
theorem s_X12_feed {m : Int} {a1 : Int32} {σ : SG} {ρ : RG} (hB : BX m σ) : ok (F_X12_feed a1 σ ρ) (fun q => rg q.1 (-4) (100) ∧ BX m q.2) := by
  unfold F_X12_feed
  refine ok_bn (s_X12_in) (fun r1_3927 qr1_3927 => ?_)
  refine ok_if (fun c_3928 => ?_) (fun c_3928 => ?_)
  · exact ok_some ⟨(rg_w (show rg (-2 : Int32) (-2) (-2) from ⟨by decide, by decide⟩) (by decide) (by decide)), hB⟩
  · obtain ⟨w_3929, w_3930⟩ := qr1_3927.2 c_3928
    refine ok_if (fun c_3931 => ?_) (fun c_3931 => ?_)
    · exact ok_some ⟨(rg_w (show rg (-4 : Int32) (-4) (-4) from ⟨by decide, by decide⟩) (by decide) (by decide)), hB⟩
    · refine ok_nm (fun x4_3932 hx4_3932 => ?_)
      refine ok_gd (rg_inb (rg_eq hx4_3932 (rg_add (l := 94) (h := 193) (show rg (94 : Int32) (94) (94) from ⟨by decide, by decide⟩) (rg_neh c_3931 (bx_get hB (r := 55) (a := 15) (b := 15) (k := 15) (l := 0) (h := 100) (by decide) (by decide) (by decide)) (show rg (100 : Int32) (100) (100) from ⟨by decide, by decide⟩) rfl) (by decide) (by decide) (by decide) (by decide))) (by decide) (by decide)) ?_
      refine ok_nm (fun σ7_3933 hσ7_3933 => ?_)
      have bσ7_3933 : BX m σ7_3933 := by rw [hσ7_3933]; exact bx_setx hB (a := 94) (b := 193) (rg_eq hx4_3932 (rg_add (l := 94) (h := 193) (show rg (94 : Int32) (94) (94) from ⟨by decide, by decide⟩) (rg_neh c_3931 (bx_get hB (r := 55) (a := 15) (b := 15) (k := 15) (l := 0) (h := 100) (by decide) (by decide) (by decide)) (show rg (100 : Int32) (100) (100) from ⟨by decide, by decide⟩) rfl) (by decide) (by decide) (by decide) (by decide))) (rg_any _) (by decide)
      refine ok_nm (fun x8_3934 hx8_3934 => ?_)
      refine ok_nm (fun σ10_3935 hσ10_3935 => ?_)
      have bσ10_3935 : BX m σ10_3935 := by rw [hσ10_3935]; exact bx_set bσ7_3933 (rg_eq hx8_3934 (rg_add (l := 1) (h := 100) (rg_eq (s2_kx hσ7_3933 (rg_eq hx4_3932 (rg_add (l := 94) (h := 193) (show rg (94 : Int32) (94) (94) from ⟨by decide, by decide⟩) (rg_neh c_3931 (bx_get hB (r := 55) (a := 15) (b := 15) (k := 15) (l := 0) (h := 100) (by decide) (by decide) (by decide)) (show rg (100 : Int32) (100) (100) from ⟨by decide, by decide⟩) rfl) (by decide) (by decide) (by decide) (by decide))) (by decide) (by decide)) (rg_neh c_3931 (bx_get hB (r := 55) (a := 15) (b := 15) (k := 15) (l := 0) (h := 100) (by decide) (by decide) (by decide)) (show rg (100 : Int32) (100) (100) from ⟨by decide, by decide⟩) rfl)) (show rg (1 : Int32) (1) (1) from ⟨by decide, by decide⟩) (by decide) (by decide) (by decide) (by decide))) (by decide)
      exact ok_some ⟨(rg_w (rg_eq (s2_v hσ10_3935) (rg_eq hx8_3934 (rg_add (l := 1) (h := 100) (rg_eq (s2_kx hσ7_3933 (rg_eq hx4_3932 (rg_add (l := 94) (h := 193) (show rg (94 : Int32) (94) (94) from ⟨by decide, by decide⟩) (rg_neh c_3931 (bx_get hB (r := 55) (a := 15) (b := 15) (k := 15) (l := 0) (h := 100) (by decide) (by decide) (by decide)) (show rg (100 : Int32) (100) (100) from ⟨by decide, by decide⟩) rfl) (by decide) (by decide) (by decide) (by decide))) (by decide) (by decide)) (rg_neh c_3931 (bx_get hB (r := 55) (a := 15) (b := 15) (k := 15) (l := 0) (h := 100) (by decide) (by decide) (by decide)) (show rg (100 : Int32) (100) (100) from ⟨by decide, by decide⟩) rfl)) (show rg (1 : Int32) (1) (1) from ⟨by decide, by decide⟩) (by decide) (by decide) (by decide) (by decide)))) (by decide) (by decide)), bσ10_3935⟩

set_option maxHeartbeats 4000000 in
set_option maxRecDepth 100000 in
theorem s_X12_of {m : Int} {a1 : Int32} {a2 : Int32} {σ : SG} {ρ : RG} (hB : BX m σ) : ok (F_X12_of a1 a2 σ ρ) (fun q => rg q (-2147483648) (2147483647)) := by
  unfold F_X12_of
  refine ok_bn (s_X12_isCutter hB) (fun r1_3985 qr1_3985 => ?_)
  refine ok_if (fun c_3986 => ?_) (fun c_3986 => ?_)
  · exact ok_some (rg_w (show rg (-10001 : Int32) (-10001) (-10001) from ⟨by decide, by decide⟩) (by decide) (by decide))
  · obtain ⟨w_3987, w_3988⟩ := qr1_3985.2 c_3986
    refine ok_bn (s_X12_in) (fun r3_3989 qr3_3989 => ?_)
    refine ok_if (fun c_3990 => ?_) (fun c_3990 => ?_)
    · exact ok_some (rg_w (show rg (-10001 : Int32) (-10001) (-10001) from ⟨by decide, by decide⟩) (by decide) (by decide))
    · obtain ⟨w_3991, w_3992⟩ := qr3_3989.2 c_3990
      refine ok_if (fun c_3993 => ?_) (fun c_3993 => ?_)
      · refine ok_nm (fun x10_3994 hx10_3994 => ?_)
        refine ok_gd (rg_inb (rg_eq hx10_3994 (rg_add (l := 5) (h := 10) (show rg (5 : Int32) (5) (5) from ⟨by decide, by decide⟩) (rg_le w_3988 (rg_ge w_3987 (show rg (0 : Int32) (0) (0) from ⟨by decide, by decide⟩) (rg_any _)) (show rg (5 : Int32) (5) (5) from ⟨by decide, by decide⟩)) (by decide) (by decide) (by decide) (by decide))) (by decide) (by decide)) ?_
        exact ok_some (rg_any _)
      · refine ok_nm (fun x6_3995 hx6_3995 => ?_)
        refine ok_nm (fun x7_3996 hx7_3996 => ?_)
        refine ok_nm (fun x8_3997 hx8_3997 => ?_)
        refine ok_gd (rg_inb (rg_eq hx8_3997 (rg_add (l := 20) (h := 49) (rg_eq hx7_3996 (rg_add (l := 20) (h := 44) (show rg (20 : Int32) (20) (20) from ⟨by decide, by decide⟩) (rg_eq hx6_3995 (rg_mul (h := 24) (show rg (6 : Int32) (6) (6) from ⟨by decide, by decide⟩) (rg_neh c_3993 (rg_le w_3992 (rg_ge w_3991 (show rg (0 : Int32) (0) (0) from ⟨by decide, by decide⟩) (rg_any _)) (show rg (5 : Int32) (5) (5) from ⟨by decide, by decide⟩)) (show rg (5 : Int32) (5) (5) from ⟨by decide, by decide⟩) rfl) (by decide) (by decide) (by decide) (by decide))) (by decide) (by decide) (by decide) (by decide))) (rg_le w_3988 (rg_ge w_3987 (show rg (0 : Int32) (0) (0) from ⟨by decide, by decide⟩) (rg_any _)) (show rg (5 : Int32) (5) (5) from ⟨by decide, by decide⟩)) (by decide) (by decide) (by decide) (by decide))) (by decide) (by decide)) ?_
        exact ok_some (rg_any _)

set_option maxHeartbeats 4000000 in
set_option maxRecDepth 100000 in
theorem s_X12_thick {m : Int} {a1 : Int32} {a2 : Int32} {σ : SG} {ρ : RG} (hB : BX m σ) : ok (F_X12_thick a1 a2 σ ρ) (fun q => rg q.1 (-2147483648) (2147483647) ∧ BX m q.2) := by
  unfold F_X12_thick
  refine ok_bn (s_X12_isCutter hB) (fun r1_4009 qr1_4009 => ?_)
  refine ok_if (fun c_4010 => ?_) (fun c_4010 => ?_)
  · exact ok_some ⟨(rg_w (show rg (-1 : Int32) (-1) (-1) from ⟨by decide, by decide⟩) (by decide) (by decide)), hB⟩
  · obtain ⟨w_4011, w_4012⟩ := qr1_4009.2 c_4010
    refine ok_bn (s_X12_in) (fun r3_4013 qr3_4013 => ?_)
    refine ok_if (fun c_4014 => ?_) (fun c_4014 => ?_)
    · exact ok_some ⟨(rg_w (show rg (-2 : Int32) (-2) (-2) from ⟨by decide, by decide⟩) (by decide) (by decide)), hB⟩
    · obtain ⟨w_4015, w_4016⟩ := qr3_4013.2 c_4014
      refine ok_nm (fun x5_4017 hx5_4017 => ?_)
      refine ok_gd (rg_inb (rg_eq hx5_4017 (rg_add (l := 44) (h := 49) (show rg (44 : Int32) (44) (44) from ⟨by decide, by decide⟩) (rg_le w_4012 (rg_ge w_4011 (show rg (0 : Int32) (0) (0) from ⟨by decide, by decide⟩) (rg_any _)) (show rg (5 : Int32) (5) (5) from ⟨by decide, by decide⟩)) (by decide) (by decide) (by decide) (by decide))) (by decide) (by decide)) ?_
      refine ok_nm (fun x7_4018 hx7_4018 => ?_)
      refine ok_gd (rg_inb (rg_eq (hx7_4018.trans hx5_4017.symm) (rg_eq hx5_4017 (rg_add (l := 44) (h := 49) (show rg (44 : Int32) (44) (44) from ⟨by decide, by decide⟩) (rg_le w_4012 (rg_ge w_4011 (show rg (0 : Int32) (0) (0) from ⟨by decide, by decide⟩) (rg_any _)) (show rg (5 : Int32) (5) (5) from ⟨by decide, by decide⟩)) (by decide) (by decide) (by decide) (by decide)))) (by decide) (by decide)) ?_
      refine ok_nm (fun σ10_4019 hσ10_4019 => ?_)
      have bσ10_4019 : BX m σ10_4019 := by rw [hσ10_4019]; exact bx_thick hB (rg_w (rg_eq (hx7_4018.trans hx5_4017.symm) (rg_eq hx5_4017 (rg_add (l := 44) (h := 49) (show rg (44 : Int32) (44) (44) from ⟨by decide, by decide⟩) (rg_le w_4012 (rg_ge w_4011 (show rg (0 : Int32) (0) (0) from ⟨by decide, by decide⟩) (rg_any _)) (show rg (5 : Int32) (5) (5) from ⟨by decide, by decide⟩)) (by decide) (by decide) (by decide) (by decide)))) (by decide) (by decide)) (rg_w (rg_le w_4016 (rg_ge w_4015 (show rg (1 : Int32) (1) (1) from ⟨by decide, by decide⟩) (rg_any _)) (show rg (40 : Int32) (40) (40) from ⟨by decide, by decide⟩)) (by decide) (by decide))
      exact ok_some ⟨(rg_any _), bσ10_4019⟩

set_option maxHeartbeats 4000000 in
set_option maxRecDepth 100000 in
theorem s_X12_row {m : Int} {a1 : Int32} {a2 : Int32} {a3 : Int32} {σ : SG} {ρ : RG} (hB : BX m σ) : ok (F_X12_row a1 a2 a3 σ ρ) (fun q => rg q.1 (-2147483648) (2147483647) ∧ BX m q.2) := by
  unfold F_X12_row
  refine ok_bn (s_X12_isCutter hB) (fun r1_4041 qr1_4041 => ?_)
  refine ok_if (fun c_4042 => ?_) (fun c_4042 => ?_)
  · exact ok_some ⟨(rg_w (show rg (-1 : Int32) (-1) (-1) from ⟨by decide, by decide⟩) (by decide) (by decide)), hB⟩
  · obtain ⟨w_4043, w_4044⟩ := qr1_4041.2 c_4042
    refine ok_bn (s_X12_in) (fun r3_4045 qr3_4045 => ?_)
    refine ok_if (fun c_4046 => ?_) (fun c_4046 => ?_)
    · exact ok_some ⟨(rg_w (show rg (-1 : Int32) (-1) (-1) from ⟨by decide, by decide⟩) (by decide) (by decide)), hB⟩
    · obtain ⟨w_4047, w_4048⟩ := qr3_4045.2 c_4046
      refine ok_bn (s_X12_in) (fun r5_4049 qr5_4049 => ?_)
      refine ok_if (fun c_4050 => ?_) (fun c_4050 => ?_)
      · exact ok_some ⟨(rg_w (show rg (-2 : Int32) (-2) (-2) from ⟨by decide, by decide⟩) (by decide) (by decide)), hB⟩
      · obtain ⟨w_4051, w_4052⟩ := qr5_4049.2 c_4050
        refine ok_nm (fun x7_4053 hx7_4053 => ?_)
        refine ok_gd (rg_inb (rg_eq hx7_4053 (rg_add (l := 20) (h := 25) (show rg (20 : Int32) (20) (20) from ⟨by decide, by decide⟩) (rg_le w_4044 (rg_ge w_4043 (show rg (0 : Int32) (0) (0) from ⟨by decide, by decide⟩) (rg_any _)) (show rg (5 : Int32) (5) (5) from ⟨by decide, by decide⟩)) (by decide) (by decide) (by decide) (by decide))) (by decide) (by decide)) ?_
        refine ok_if (fun c_4054 => ?_) (fun c_4054 => ?_)
        · refine ok_nm (fun x10_4055 hx10_4055 => ?_)
          refine ok_nm (fun x11_4056 hx11_4056 => ?_)
          refine ok_nm (fun x12_4057 hx12_4057 => ?_)
          refine ok_gd (rg_inb (rg_eq hx12_4057 (rg_add (l := 50) (h := 73) (rg_eq hx11_4056 (rg_add (l := 50) (h := 70) (show rg (50 : Int32) (50) (50) from ⟨by decide, by decide⟩) (rg_eq hx10_4055 (rg_mul (h := 20) (show rg (4 : Int32) (4) (4) from ⟨by decide, by decide⟩) (rg_le w_4044 (rg_ge w_4043 (show rg (0 : Int32) (0) (0) from ⟨by decide, by decide⟩) (rg_any _)) (show rg (5 : Int32) (5) (5) from ⟨by decide, by decide⟩)) (by decide) (by decide) (by decide) (by decide))) (by decide) (by decide) (by decide) (by decide))) (rg_le w_4048 (rg_ge w_4047 (show rg (0 : Int32) (0) (0) from ⟨by decide, by decide⟩) (rg_any _)) (show rg (3 : Int32) (3) (3) from ⟨by decide, by decide⟩)) (by decide) (by decide) (by decide) (by decide))) (by decide) (by decide)) ?_
          refine ok_nm (fun x14_4058 hx14_4058 => ?_)
          refine ok_nm (fun x15_4059 hx15_4059 => ?_)
          refine ok_nm (fun x16_4060 hx16_4060 => ?_)
          refine ok_gd (rg_inb (rg_eq hx16_4060 (rg_add (l := 50) (h := 73) (rg_eq hx15_4059 (rg_add (l := 50) (h := 70) (show rg (50 : Int32) (50) (50) from ⟨by decide, by decide⟩) (rg_eq (hx14_4058.trans hx10_4055.symm) (rg_eq hx10_4055 (rg_mul (h := 20) (show rg (4 : Int32) (4) (4) from ⟨by decide, by decide⟩) (rg_le w_4044 (rg_ge w_4043 (show rg (0 : Int32) (0) (0) from ⟨by decide, by decide⟩) (rg_any _)) (show rg (5 : Int32) (5) (5) from ⟨by decide, by decide⟩)) (by decide) (by decide) (by decide) (by decide)))) (by decide) (by decide) (by decide) (by decide))) (rg_le w_4048 (rg_ge w_4047 (show rg (0 : Int32) (0) (0) from ⟨by decide, by decide⟩) (rg_any _)) (show rg (3 : Int32) (3) (3) from ⟨by decide, by decide⟩)) (by decide) (by decide) (by decide) (by decide))) (by decide) (by decide)) ?_
          refine ok_nm (fun σ19_4061 hσ19_4061 => ?_)
          have bσ19_4061 : BX m σ19_4061 := by rw [hσ19_4061]; exact bx_setx hB (a := 50) (b := 73) (rg_eq hx16_4060 (rg_add (l := 50) (h := 73) (rg_eq hx15_4059 (rg_add (l := 50) (h := 70) (show rg (50 : Int32) (50) (50) from ⟨by decide, by decide⟩) (rg_eq (hx14_4058.trans hx10_4055.symm) (rg_eq hx10_4055 (rg_mul (h := 20) (show rg (4 : Int32) (4) (4) from ⟨by decide, by decide⟩) (rg_le w_4044 (rg_ge w_4043 (show rg (0 : Int32) (0) (0) from ⟨by decide, by decide⟩) (rg_any _)) (show rg (5 : Int32) (5) (5) from ⟨by decide, by decide⟩)) (by decide) (by decide) (by decide) (by decide)))) (by decide) (by decide) (by decide) (by decide))) (rg_le w_4048 (rg_ge w_4047 (show rg (0 : Int32) (0) (0) from ⟨by decide, by decide⟩) (rg_any _)) (show rg (3 : Int32) (3) (3) from ⟨by decide, by decide⟩)) (by decide) (by decide) (by decide) (by decide))) (rg_any _) (by decide)
          exact ok_some ⟨(rg_any _), bσ19_4061⟩
        · exact ok_some ⟨(rg_w (show rg (-3 : Int32) (-3) (-3) from ⟨by decide, by decide⟩) (by decide) (by decide)), hB⟩

set_option maxHeartbeats 4000000 in
set_option maxRecDepth 100000 in
theorem s_X12_loaf {m : Int} {a1 : Int32} {σ : SG} {ρ : RG} (hB : BX m σ) : ok (F_X12_loaf a1 σ ρ) (fun q => rg q.1 (-2147483648) (2147483647) ∧ BX m q.2) := by
  unfold F_X12_loaf
  refine ok_bn (s_X12_in) (fun r1_4072 qr1_4072 => ?_)
  refine ok_if (fun c_4073 => ?_) (fun c_4073 => ?_)
  · exact ok_some ⟨(rg_w (show rg (-2 : Int32) (-2) (-2) from ⟨by decide, by decide⟩) (by decide) (by decide)), hB⟩
  · obtain ⟨w_4074, w_4075⟩ := qr1_4072.2 c_4073
    refine ok_nm (fun σ4_4076 hσ4_4076 => ?_)
    have bσ4_4076 : BX m σ4_4076 := by rw [hσ4_4076]; exact bx_set hB (rg_any _) (by decide)
    refine ok_nm (fun σ6_4077 hσ6_4077 => ?_)
    have bσ6_4077 : BX m σ6_4077 := by rw [hσ6_4077]; exact bx_set bσ4_4076 (rg_any _) (by decide)
    refine ok_nm (fun σ8_4078 hσ8_4078 => ?_)
    have bσ8_4078 : BX m σ8_4078 := by rw [hσ8_4078]; exact bx_set bσ6_4077 (rg_any _) (by decide)
    refine ok_nm (fun σ10_4079 hσ10_4079 => ?_)
    have bσ10_4079 : BX m σ10_4079 := by rw [hσ10_4079]; exact bx_set bσ8_4078 (rg_any _) (by decide)
    refine ok_nm (fun σ12_4080 hσ12_4080 => ?_)
    have bσ12_4080 : BX m σ12_4080 := by rw [hσ12_4080]; exact bx_set bσ10_4079 (rg_any _) (by decide)
    refine ok_nm (fun σ14_4081 hσ14_4081 => ?_)
    have bσ14_4081 : BX m σ14_4081 := by rw [hσ14_4081]; exact bx_set bσ12_4080 (rg_any _) (by decide)
    exact ok_some ⟨(rg_any _), bσ14_4081⟩

set_option maxHeartbeats 4000000 in
set_option maxRecDepth 100000 in
theorem s_X12_see {m : Int} {a1 : Int32} {a2 : Int32} {σ : SG} {ρ : RG} (hB : BX m σ) : ok (F_X12_see a1 a2 σ ρ) (fun q => rg q.1 (-2) (1) ∧ BX m q.2) := by
  unfold F_X12_see
  refine ok_bn (s_X12_in) (fun r1_4092 qr1_4092 => ?_)
  refine ok_if (fun c_4093 => ?_) (fun c_4093 => ?_)
  · exact ok_some ⟨(rg_w (show rg (-2 : Int32) (-2) (-2) from ⟨by decide, by decide⟩) (by decide) (by decide)), hB⟩
  · obtain ⟨w_4094, w_4095⟩ := qr1_4092.2 c_4093
    refine ok_bn (s_X12_in) (fun r3_4096 qr3_4096 => ?_)
    refine ok_if (fun c_4097 => ?_) (fun c_4097 => ?_)
    · exact ok_some ⟨(rg_w (show rg (-2 : Int32) (-2) (-2) from ⟨by decide, by decide⟩) (by decide) (by decide)), hB⟩
    · obtain ⟨w_4098, w_4099⟩ := qr3_4096.2 c_4097
      refine ok_nm (fun σ6_4100 hσ6_4100 => ?_)
      have bσ6_4100 : BX m σ6_4100 := by rw [hσ6_4100]; exact bx_set hB (rg_any _) (by decide)
      refine ok_nm (fun σ8_4101 hσ8_4101 => ?_)
      have bσ8_4101 : BX m σ8_4101 := by rw [hσ8_4101]; exact bx_set bσ6_4100 (rg_any _) (by decide)
      exact ok_some ⟨(rg_w (show rg (1 : Int32) (1) (1) from ⟨by decide, by decide⟩) (by decide) (by decide)), bσ8_4101⟩

set_option maxHeartbeats 4000000 in
set_option maxRecDepth 100000 in
theorem s_X12_week {m : Int} {a1 : Int32} {σ : SG} {ρ : RG} (hB : BX m σ) : ok (F_X12_week a1 σ ρ) (fun q => rg q.1 (-4) (4) ∧ BX m q.2) := by
  unfold F_X12_week
  refine ok_bn (s_X12_in) (fun r1_4111 qr1_4111 => ?_)
  refine ok_if (fun c_4112 => ?_) (fun c_4112 => ?_)
  · exact ok_some ⟨(rg_w (show rg (-2 : Int32) (-2) (-2) from ⟨by decide, by decide⟩) (by decide) (by decide)), hB⟩
  · obtain ⟨w_4113, w_4114⟩ := qr1_4111.2 c_4112
    refine ok_if (fun c_4115 => ?_) (fun c_4115 => ?_)
    · exact ok_some ⟨(rg_w (show rg (-4 : Int32) (-4) (-4) from ⟨by decide, by decide⟩) (by decide) (by decide)), hB⟩
    · refine ok_nm (fun x4_4116 hx4_4116 => ?_)
      refine ok_gd (rg_inb (rg_eq hx4_4116 (rg_add (l := 74) (h := 77) (show rg (74 : Int32) (74) (74) from ⟨by decide, by decide⟩) (rg_neh c_4115 (bx_get hB (r := 55) (a := 13) (b := 13) (k := 13) (l := 0) (h := 4) (by decide) (by decide) (by decide)) (show rg (4 : Int32) (4) (4) from ⟨by decide, by decide⟩) rfl) (by decide) (by decide) (by decide) (by decide))) (by decide) (by decide)) ?_
      refine ok_nm (fun σ7_4117 hσ7_4117 => ?_)
      have bσ7_4117 : BX m σ7_4117 := by rw [hσ7_4117]; exact bx_setx hB (a := 74) (b := 77) (rg_eq hx4_4116 (rg_add (l := 74) (h := 77) (show rg (74 : Int32) (74) (74) from ⟨by decide, by decide⟩) (rg_neh c_4115 (bx_get hB (r := 55) (a := 13) (b := 13) (k := 13) (l := 0) (h := 4) (by decide) (by decide) (by decide)) (show rg (4 : Int32) (4) (4) from ⟨by decide, by decide⟩) rfl) (by decide) (by decide) (by decide) (by decide))) (rg_any _) (by decide)
      refine ok_nm (fun x8_4118 hx8_4118 => ?_)
      refine ok_nm (fun σ10_4119 hσ10_4119 => ?_)
      have bσ10_4119 : BX m σ10_4119 := by rw [hσ10_4119]; exact bx_set bσ7_4117 (rg_eq hx8_4118 (rg_add (l := 1) (h := 4) (rg_eq (s2_kx hσ7_4117 (rg_eq hx4_4116 (rg_add (l := 74) (h := 77) (show rg (74 : Int32) (74) (74) from ⟨by decide, by decide⟩) (rg_neh c_4115 (bx_get hB (r := 55) (a := 13) (b := 13) (k := 13) (l := 0) (h := 4) (by decide) (by decide) (by decide)) (show rg (4 : Int32) (4) (4) from ⟨by decide, by decide⟩) rfl) (by decide) (by decide) (by decide) (by decide))) (by decide) (by decide)) (rg_neh c_4115 (bx_get hB (r := 55) (a := 13) (b := 13) (k := 13) (l := 0) (h := 4) (by decide) (by decide) (by decide)) (show rg (4 : Int32) (4) (4) from ⟨by decide, by decide⟩) rfl)) (show rg (1 : Int32) (1) (1) from ⟨by decide, by decide⟩) (by decide) (by decide) (by decide) (by decide))) (by decide)
      exact ok_some ⟨(rg_w (rg_eq (s2_v hσ10_4119) (rg_eq hx8_4118 (rg_add (l := 1) (h := 4) (rg_eq (s2_kx hσ7_4117 (rg_eq hx4_4116 (rg_add (l := 74) (h := 77) (show rg (74 : Int32) (74) (74) from ⟨by decide, by decide⟩) (rg_neh c_4115 (bx_get hB (r := 55) (a := 13) (b := 13) (k := 13) (l := 0) (h := 4) (by decide) (by decide) (by decide)) (show rg (4 : Int32) (4) (4) from ⟨by decide, by decide⟩) rfl) (by decide) (by decide) (by decide) (by decide))) (by decide) (by decide)) (rg_neh c_4115 (bx_get hB (r := 55) (a := 13) (b := 13) (k := 13) (l := 0) (h := 4) (by decide) (by decide) (by decide)) (show rg (4 : Int32) (4) (4) from ⟨by decide, by decide⟩) rfl)) (show rg (1 : Int32) (1) (1) from ⟨by decide, by decide⟩) (by decide) (by decide) (by decide) (by decide)))) (by decide) (by decide)), bσ10_4119⟩

set_option maxHeartbeats 4000000 in
set_option maxRecDepth 100000 in
theorem s_X12_clear {m : Int} {σ : SG} {ρ : RG} (hB : BX m σ) : ok (F_X12_clear σ ρ) (fun q => rg q.1 (0) (4) ∧ BX m q.2) := by
  unfold F_X12_clear
  refine ok_nm (fun σ2_4121 hσ2_4121 => ?_)
  have bσ2_4121 : BX m σ2_4121 := by rw [hσ2_4121]; exact bx_set hB (show rg (0 : Int32) (0) (0) from ⟨by decide, by decide⟩) (by decide)
  exact ok_some ⟨(bx_get hB (r := 55) (a := 13) (b := 13) (k := 13) (l := 0) (h := 4) (by decide) (by decide) (by decide)), bσ2_4121⟩

set_option maxHeartbeats 4000000 in
set_option maxRecDepth 100000 in
theorem s_X12_book {m : Int} {a1 : Int32} {a2 : Int32} {σ : SG} {ρ : RG} (hB : BX m σ) : ok (F_X12_book a1 a2 σ ρ) (fun q => rg q.1 (-4) (8) ∧ BX m q.2) := by
  unfold F_X12_book
  refine ok_if (fun c_4139 => ?_) (fun c_4139 => ?_)
  · refine ok_nm (fun σ19_4140 hσ19_4140 => ?_)
    have bσ19_4140 : BX m σ19_4140 := by rw [hσ19_4140]; exact bx_set hB (show rg (0 : Int32) (0) (0) from ⟨by decide, by decide⟩) (by decide)
    exact ok_some ⟨(rg_w (show rg (0 : Int32) (0) (0) from ⟨by decide, by decide⟩) (by decide) (by decide)), bσ19_4140⟩
  · refine ok_bn (s_X12_isCutter hB) (fun r2_4141 qr2_4141 => ?_)
    refine ok_if (fun c_4142 => ?_) (fun c_4142 => ?_)
    · exact ok_some ⟨(rg_w (show rg (-1 : Int32) (-1) (-1) from ⟨by decide, by decide⟩) (by decide) (by decide)), hB⟩
    · obtain ⟨w_4143, w_4144⟩ := qr2_4141.2 c_4142
      refine ok_bn (s_X12_in) (fun r4_4145 qr4_4145 => ?_)
      refine ok_if (fun c_4146 => ?_) (fun c_4146 => ?_)
      · exact ok_some ⟨(rg_w (show rg (-2 : Int32) (-2) (-2) from ⟨by decide, by decide⟩) (by decide) (by decide)), hB⟩
      · obtain ⟨w_4147, w_4148⟩ := qr4_4145.2 c_4146
        refine ok_if (fun c_4149 => ?_) (fun c_4149 => ?_)
        · exact ok_some ⟨(rg_w (show rg (-4 : Int32) (-4) (-4) from ⟨by decide, by decide⟩) (by decide) (by decide)), hB⟩
        · refine ok_nm (fun x7_4150 hx7_4150 => ?_)
          refine ok_gd (rg_inb (rg_eq hx7_4150 (rg_add (l := 78) (h := 85) (show rg (78 : Int32) (78) (78) from ⟨by decide, by decide⟩) (rg_neh c_4149 (bx_get hB (r := 55) (a := 14) (b := 14) (k := 14) (l := 0) (h := 8) (by decide) (by decide) (by decide)) (show rg (8 : Int32) (8) (8) from ⟨by decide, by decide⟩) rfl) (by decide) (by decide) (by decide) (by decide))) (by decide) (by decide)) ?_
          refine ok_nm (fun σ10_4151 hσ10_4151 => ?_)
          have bσ10_4151 : BX m σ10_4151 := by rw [hσ10_4151]; exact bx_setx hB (a := 78) (b := 85) (rg_eq hx7_4150 (rg_add (l := 78) (h := 85) (show rg (78 : Int32) (78) (78) from ⟨by decide, by decide⟩) (rg_neh c_4149 (bx_get hB (r := 55) (a := 14) (b := 14) (k := 14) (l := 0) (h := 8) (by decide) (by decide) (by decide)) (show rg (8 : Int32) (8) (8) from ⟨by decide, by decide⟩) rfl) (by decide) (by decide) (by decide) (by decide))) (rg_le w_4144 (rg_ge w_4143 (show rg (0 : Int32) (0) (0) from ⟨by decide, by decide⟩) (rg_any _)) (show rg (5 : Int32) (5) (5) from ⟨by decide, by decide⟩)) (by decide)
          refine ok_nm (fun x11_4152 hx11_4152 => ?_)
          refine ok_gd (rg_inb (rg_eq hx11_4152 (rg_add (l := 86) (h := 93) (show rg (86 : Int32) (86) (86) from ⟨by decide, by decide⟩) (rg_eq (s2_kx hσ10_4151 (rg_eq hx7_4150 (rg_add (l := 78) (h := 85) (show rg (78 : Int32) (78) (78) from ⟨by decide, by decide⟩) (rg_neh c_4149 (bx_get hB (r := 55) (a := 14) (b := 14) (k := 14) (l := 0) (h := 8) (by decide) (by decide) (by decide)) (show rg (8 : Int32) (8) (8) from ⟨by decide, by decide⟩) rfl) (by decide) (by decide) (by decide) (by decide))) (by decide) (by decide)) (rg_neh c_4149 (bx_get hB (r := 55) (a := 14) (b := 14) (k := 14) (l := 0) (h := 8) (by decide) (by decide) (by decide)) (show rg (8 : Int32) (8) (8) from ⟨by decide, by decide⟩) rfl)) (by decide) (by decide) (by decide) (by decide))) (by decide) (by decide)) ?_
          refine ok_nm (fun σ14_4153 hσ14_4153 => ?_)
          have bσ14_4153 : BX m σ14_4153 := by rw [hσ14_4153]; exact bx_setx bσ10_4151 (a := 86) (b := 93) (rg_eq hx11_4152 (rg_add (l := 86) (h := 93) (show rg (86 : Int32) (86) (86) from ⟨by decide, by decide⟩) (rg_eq (s2_kx hσ10_4151 (rg_eq hx7_4150 (rg_add (l := 78) (h := 85) (show rg (78 : Int32) (78) (78) from ⟨by decide, by decide⟩) (rg_neh c_4149 (bx_get hB (r := 55) (a := 14) (b := 14) (k := 14) (l := 0) (h := 8) (by decide) (by decide) (by decide)) (show rg (8 : Int32) (8) (8) from ⟨by decide, by decide⟩) rfl) (by decide) (by decide) (by decide) (by decide))) (by decide) (by decide)) (rg_neh c_4149 (bx_get hB (r := 55) (a := 14) (b := 14) (k := 14) (l := 0) (h := 8) (by decide) (by decide) (by decide)) (show rg (8 : Int32) (8) (8) from ⟨by decide, by decide⟩) rfl)) (by decide) (by decide) (by decide) (by decide))) (rg_any _) (by decide)
          refine ok_nm (fun x15_4154 hx15_4154 => ?_)
          refine ok_nm (fun σ17_4155 hσ17_4155 => ?_)
          have bσ17_4155 : BX m σ17_4155 := by rw [hσ17_4155]; exact bx_set bσ14_4153 (rg_eq hx15_4154 (rg_add (l := 1) (h := 8) (rg_eq (s2_kx hσ14_4153 (rg_eq hx11_4152 (rg_add (l := 86) (h := 93) (show rg (86 : Int32) (86) (86) from ⟨by decide, by decide⟩) (rg_eq (s2_kx hσ10_4151 (rg_eq hx7_4150 (rg_add (l := 78) (h := 85) (show rg (78 : Int32) (78) (78) from ⟨by decide, by decide⟩) (rg_neh c_4149 (bx_get hB (r := 55) (a := 14) (b := 14) (k := 14) (l := 0) (h := 8) (by decide) (by decide) (by decide)) (show rg (8 : Int32) (8) (8) from ⟨by decide, by decide⟩) rfl) (by decide) (by decide) (by decide) (by decide))) (by decide) (by decide)) (rg_neh c_4149 (bx_get hB (r := 55) (a := 14) (b := 14) (k := 14) (l := 0) (h := 8) (by decide) (by decide) (by decide)) (show rg (8 : Int32) (8) (8) from ⟨by decide, by decide⟩) rfl)) (by decide) (by decide) (by decide) (by decide))) (by decide) (by decide)) (rg_eq (s2_kx hσ10_4151 (rg_eq hx7_4150 (rg_add (l := 78) (h := 85) (show rg (78 : Int32) (78) (78) from ⟨by decide, by decide⟩) (rg_neh c_4149 (bx_get hB (r := 55) (a := 14) (b := 14) (k := 14) (l := 0) (h := 8) (by decide) (by decide) (by decide)) (show rg (8 : Int32) (8) (8) from ⟨by decide, by decide⟩) rfl) (by decide) (by decide) (by decide) (by decide))) (by decide) (by decide)) (rg_neh c_4149 (bx_get hB (r := 55) (a := 14) (b := 14) (k := 14) (l := 0) (h := 8) (by decide) (by decide) (by decide)) (show rg (8 : Int32) (8) (8) from ⟨by decide, by decide⟩) rfl))) (show rg (1 : Int32) (1) (1) from ⟨by decide, by decide⟩) (by decide) (by decide) (by decide) (by decide))) (by decide)
          exact ok_some ⟨(rg_w (rg_eq (s2_v hσ17_4155) (rg_eq hx15_4154 (rg_add (l := 1) (h := 8) (rg_eq (s2_kx hσ14_4153 (rg_eq hx11_4152 (rg_add (l := 86) (h := 93) (show rg (86 : Int32) (86) (86) from ⟨by decide, by decide⟩) (rg_eq (s2_kx hσ10_4151 (rg_eq hx7_4150 (rg_add (l := 78) (h := 85) (show rg (78 : Int32) (78) (78) from ⟨by decide, by decide⟩) (rg_neh c_4149 (bx_get hB (r := 55) (a := 14) (b := 14) (k := 14) (l := 0) (h := 8) (by decide) (by decide) (by decide)) (show rg (8 : Int32) (8) (8) from ⟨by decide, by decide⟩) rfl) (by decide) (by decide) (by decide) (by decide))) (by decide) (by decide)) (rg_neh c_4149 (bx_get hB (r := 55) (a := 14) (b := 14) (k := 14) (l := 0) (h := 8) (by decide) (by decide) (by decide)) (show rg (8 : Int32) (8) (8) from ⟨by decide, by decide⟩) rfl)) (by decide) (by decide) (by decide) (by decide))) (by decide) (by decide)) (rg_eq (s2_kx hσ10_4151 (rg_eq hx7_4150 (rg_add (l := 78) (h := 85) (show rg (78 : Int32) (78) (78) from ⟨by decide, by decide⟩) (rg_neh c_4149 (bx_get hB (r := 55) (a := 14) (b := 14) (k := 14) (l := 0) (h := 8) (by decide) (by decide) (by decide)) (show rg (8 : Int32) (8) (8) from ⟨by decide, by decide⟩) rfl) (by decide) (by decide) (by decide) (by decide))) (by decide) (by decide)) (rg_neh c_4149 (bx_get hB (r := 55) (a := 14) (b := 14) (k := 14) (l := 0) (h := 8) (by decide) (by decide) (by decide)) (show rg (8 : Int32) (8) (8) from ⟨by decide, by decide⟩) rfl))) (show rg (1 : Int32) (1) (1) from ⟨by decide, by decide⟩) (by decide) (by decide) (by decide) (by decide)))) (by decide) (by decide)), bσ17_4155⟩

set_option maxHeartbeats 4000000 in
set_option maxRecDepth 100000 in
theorem s_X12_count {m : Int} {a1 : Int32} {σ : SG} {ρ : RG} (hB : BX m σ) : ok (F_X12_count a1 σ ρ) (fun q => rg q (-2147483648) (2147483647)) := by
  unfold F_X12_count
  refine ok_if (fun c_4162 => ?_) (fun c_4162 => ?_)
  · exact ok_some (rg_w (rg_lo hB.2.1) (by decide) (by decide))
  · refine ok_bn (s_X12_in) (fun r2_4163 qr2_4163 => ?_)
    refine ok_if (fun c_4164 => ?_) (fun c_4164 => ?_)
    · exact ok_some (rg_w (show rg (-1 : Int32) (-1) (-1) from ⟨by decide, by decide⟩) (by decide) (by decide))
    · obtain ⟨w_4165, w_4166⟩ := qr2_4163.2 c_4164
      refine ok_nm (fun x4_4167 hx4_4167 => ?_)
      refine ok_gd (rg_inb (rg_eq hx4_4167 (rg_add (l := 11) (h := 15) (show rg (11 : Int32) (11) (11) from ⟨by decide, by decide⟩) (rg_le w_4166 (rg_ge w_4165 (show rg (0 : Int32) (0) (0) from ⟨by decide, by decide⟩) (rg_any _)) (show rg (4 : Int32) (4) (4) from ⟨by decide, by decide⟩)) (by decide) (by decide) (by decide) (by decide))) (by decide) (by decide)) ?_
      exact ok_some (rg_any _)

set_option maxHeartbeats 4000000 in
set_option maxRecDepth 100000 in
theorem s_X12_trace {m : Int} {a1 : Int32} {σ : SG} {ρ : RG} (hB : BX m σ) : ok (F_X12_trace a1 σ ρ) (fun q => rg q (-2147483648) (2147483647)) := by
  unfold F_X12_trace
  refine ok_if (fun c_4179 => ?_) (fun c_4179 => ?_)
  · unfold F_X12_trace_20
    refine ok_nm (fun x2_4180 hx2_4180 => ?_)
    refine ok_bn (s_X12_in) (fun r3_4181 qr3_4181 => ?_)
    refine ok_if (fun c_4182 => ?_) (fun c_4182 => ?_)
    · exact ok_some (rg_w (show rg (-1 : Int32) (-1) (-1) from ⟨by decide, by decide⟩) (by decide) (by decide))
    · obtain ⟨w_4183, w_4184⟩ := qr3_4181.2 c_4182
      refine ok_gd (rg_inb (rg_le w_4184 (rg_ge w_4183 (show rg (0 : Int32) (0) (0) from ⟨by decide, by decide⟩) (rg_any _)) (rg_eq hx2_4180 (rg_sub (l := 19) (h := 19) (show rg (20 : Int32) (20) (20) from ⟨by decide, by decide⟩) (show rg (1 : Int32) (1) (1) from ⟨by decide, by decide⟩) (by decide) (by decide) (by decide) (by decide)))) (by decide) (by decide)) ?_
      exact ok_some (rg_any _)
  · unfold F_X12_trace_20
    refine ok_nm (fun x2_4185 hx2_4185 => ?_)
    refine ok_bn (s_X12_in) (fun r3_4186 qr3_4186 => ?_)
    refine ok_if (fun c_4187 => ?_) (fun c_4187 => ?_)
    · exact ok_some (rg_w (show rg (-1 : Int32) (-1) (-1) from ⟨by decide, by decide⟩) (by decide) (by decide))
    · obtain ⟨w_4188, w_4189⟩ := qr3_4186.2 c_4187
      refine ok_gd (rg_inb (rg_le w_4189 (rg_ge w_4188 (show rg (0 : Int32) (0) (0) from ⟨by decide, by decide⟩) (rg_any _)) (rg_eq hx2_4185 (rg_sub (l := -1) (h := 18) (rg_lt (nle c_4179) (rg_lo hB.2.1) (show rg (20 : Int32) (20) (20) from ⟨by decide, by decide⟩)) (show rg (1 : Int32) (1) (1) from ⟨by decide, by decide⟩) (by decide) (by decide) (by decide) (by decide)))) (by decide) (by decide)) ?_
      exact ok_some (rg_any _)

set_option maxHeartbeats 4000000 in
set_option maxRecDepth 100000 in
theorem s_X12_as {m : Int} {a1 : Int32} {a2 : Int32} {σ : SG} {ρ : RG} (hB : BX m σ) : ok (F_X12_as a1 a2 σ ρ) (fun q => rg q (-2147483648) (2147483647)) := by
  unfold F_X12_as
  refine ok_bn (s_X12_isCutter hB) (fun r1_4202 qr1_4202 => ?_)
  refine ok_if (fun c_4203 => ?_) (fun c_4203 => ?_)
  · exact ok_some (rg_w (show rg (-1 : Int32) (-1) (-1) from ⟨by decide, by decide⟩) (by decide) (by decide))
  · obtain ⟨w_4204, w_4205⟩ := qr1_4202.2 c_4203
    refine ok_bn (s_X12_in) (fun r3_4206 qr3_4206 => ?_)
    refine ok_if (fun c_4207 => ?_) (fun c_4207 => ?_)
    · exact ok_some (rg_w (show rg (-1 : Int32) (-1) (-1) from ⟨by decide, by decide⟩) (by decide) (by decide))
    · obtain ⟨w_4208, w_4209⟩ := qr3_4206.2 c_4207
      refine ok_nm (fun x5_4210 hx5_4210 => ?_)
      refine ok_gd (rg_inb (rg_eq hx5_4210 (rg_add (l := 20) (h := 25) (show rg (20 : Int32) (20) (20) from ⟨by decide, by decide⟩) (rg_le w_4205 (rg_ge w_4204 (show rg (0 : Int32) (0) (0) from ⟨by decide, by decide⟩) (rg_any _)) (show rg (5 : Int32) (5) (5) from ⟨by decide, by decide⟩)) (by decide) (by decide) (by decide) (by decide))) (by decide) (by decide)) ?_
      refine ok_bn (s_X12_isUnder hB) (fun r7_4211 qr7_4211 => ?_)
      refine ok_if (fun c_4212 => ?_) (fun c_4212 => ?_)
      · exact ok_some (rg_w (show rg (-6 : Int32) (-6) (-6) from ⟨by decide, by decide⟩) (by decide) (by decide))
      · refine ok_nm (fun x9_4213 hx9_4213 => ?_)
        refine ok_gd (rg_inb (rg_eq hx9_4213 (rg_add (l := 26) (h := 31) (show rg (26 : Int32) (26) (26) from ⟨by decide, by decide⟩) (rg_le w_4205 (rg_ge w_4204 (show rg (0 : Int32) (0) (0) from ⟨by decide, by decide⟩) (rg_any _)) (show rg (5 : Int32) (5) (5) from ⟨by decide, by decide⟩)) (by decide) (by decide) (by decide) (by decide))) (by decide) (by decide)) ?_
        exact ok_some (rg_any _)
