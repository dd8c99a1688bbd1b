/-! PART 66.sm: printed by wip/gen/s26m.py -/
set_option maxHeartbeats 4000000 in
set_option maxRecDepth 100000 in
theorem s_X12_within {g : Nat → Int32} {m : Int} {a1 : Int32} {a2 : Int32} {a3 : Int32} {σ : SG} {ρ : RG} (hB : BF g m σ) : ok (F_X12_within a1 a2 a3 σ ρ) (fun q => rg q (-2147483648) (2147483647)) := by
  unfold F_X12_within
  refine ok_if (fun c_2495 => ?_) (fun c_2495 => ?_)
  · refine ok_if (fun c_2496 => ?_) (fun c_2496 => ?_)
    · exact ok_some (rg_any _)
    · exact ok_some (rg_w (rg_lt (nle c_2496) (rg_any _) (rg_gt (nle c_2496) (rg_any _) (rg_any _))) (by decide) (by decide))
  · exact ok_some (rg_w (rg_gt (nle c_2495) (rg_lt (nle c_2495) (rg_any _) (rg_any _)) (rg_any _)) (by decide) (by decide))

set_option maxHeartbeats 4000000 in
set_option maxRecDepth 100000 in
theorem s_X12_size {g : Nat → Int32} {m : Int} {a1 : Int32} {σ : SG} {ρ : RG} (hB : BF g m σ) : ok (F_X12_size a1 σ ρ) (fun q => rg q (-2147483648) (2147483647)) := by
  unfold F_X12_size
  refine ok_if (fun c_2499 => ?_) (fun c_2499 => ?_)
  · exact ok_some (rg_w (rg_ge c_2499 (show rg (0 : Int32) (0) (0) from ⟨by decide, by decide⟩) (rg_any _)) (by decide) (by decide))
  · refine ok_nm (fun x2_2500 hx2_2500 => ?_)
    exact ok_some (rg_any _)

set_option maxHeartbeats 4000000 in
set_option maxRecDepth 100000 in
theorem s_X12_keeps_2 {g : Nat → Int32} {m : Int} {ρ : RG} : ∀ (n : Nat) (σ : SG) (v1 : Int32), rg v1 (0) (11) → (11 : Int) - v1.toInt < (n : Int) → BF g m σ → ok (F_X12_keeps_2 n σ ρ v1) (fun q => BF g m q) := by
  intro n
  induction n with
  | zero => intro σ v1 r_v1 hm hB; exact (ms_z r_v1 (by decide) hm).elim
  | succ n ih =>
    intro σ v1 r_v1 hm hB
    unfold F_X12_keeps_2
    refine ok_if (fun c_2504 => ?_) (fun c_2504 => ?_)
    · exact ok_some hB
    · refine ok_gd (rg_inb (rg_lt (nle c_2504) r_v1 (show rg (11 : Int32) (11) (11) from ⟨by decide, by decide⟩)) (by decide) (by decide)) ?_
      refine ok_gd (rg_inb (rg_lt (nle c_2504) r_v1 (show rg (11 : Int32) (11) (11) from ⟨by decide, by decide⟩)) (by decide) (by decide)) ?_
      refine ok_nm (fun σ5_2505 hσ5_2505 => ?_)
      have bσ5_2505 : BF g m σ5_2505 := by rw [hσ5_2505]; exact bf_far hB (by decide) (by decide) (by decide) (by decide)
      refine ok_nm (fun x6_2506 hx6_2506 => ?_)
      exact ih _ _ (rg_w (rg_eq hx6_2506 (rg_add (l := 1) (h := 11) (rg_lt (nle c_2504) r_v1 (show rg (11 : Int32) (11) (11) from ⟨by decide, by decide⟩)) (show rg (1 : Int32) (1) (1) from ⟨by decide, by decide⟩) (by decide) (by decide) (by decide) (by decide))) (by decide) (by decide)) (ms_s hx6_2506 (rg_lt (nle c_2504) r_v1 (show rg (11 : Int32) (11) (11) from ⟨by decide, by decide⟩)) (by decide) (by decide) hm) bσ5_2505

set_option maxHeartbeats 4000000 in
set_option maxRecDepth 100000 in
theorem s_X12_keeps {g : Nat → Int32} {m : Int} {σ : SG} {ρ : RG} (hB : BF g m σ) : ok (F_X12_keeps σ ρ) (fun q => BF g m q) := by
  unfold F_X12_keeps
  exact (s_X12_keeps_2 1024 _ _ (rg_w (show rg (0 : Int32) (0) (0) from ⟨by decide, by decide⟩) (by decide) (by decide)) (ms_0 (show rg (0 : Int32) (0) (0) from ⟨by decide, by decide⟩) (by decide)) hB)

set_option maxHeartbeats 4000000 in
set_option maxRecDepth 100000 in
theorem s_X12_goesBack_2 {g : Nat → Int32} {m : Int} {ρ : RG} : ∀ (n : Nat) (σ : SG) (v1 : Int32), rg v1 (0) (11) → (11 : Int) - v1.toInt < (n : Int) → BF g m σ → ok (F_X12_goesBack_2 n σ ρ v1) (fun q => BF g m q) := by
  intro n
  induction n with
  | zero => intro σ v1 r_v1 hm hB; exact (ms_z r_v1 (by decide) hm).elim
  | succ n ih =>
    intro σ v1 r_v1 hm hB
    unfold F_X12_goesBack_2
    refine ok_if (fun c_2510 => ?_) (fun c_2510 => ?_)
    · exact ok_some hB
    · refine ok_gd (rg_inb (rg_lt (nle c_2510) r_v1 (show rg (11 : Int32) (11) (11) from ⟨by decide, by decide⟩)) (by decide) (by decide)) ?_
      refine ok_gd (rg_inb (rg_lt (nle c_2510) r_v1 (show rg (11 : Int32) (11) (11) from ⟨by decide, by decide⟩)) (by decide) (by decide)) ?_
      refine ok_nm (fun σ5_2511 hσ5_2511 => ?_)
      have bσ5_2511 : BF g m σ5_2511 := by rw [hσ5_2511]; exact bf_setx hB (a := 0) (b := 10) (rg_lt (nle c_2510) r_v1 (show rg (11 : Int32) (11) (11) from ⟨by decide, by decide⟩)) (rg_any _) (by decide)
      refine ok_nm (fun x6_2512 hx6_2512 => ?_)
      exact ih _ _ (rg_w (rg_eq hx6_2512 (rg_add (l := 1) (h := 11) (rg_lt (nle c_2510) r_v1 (show rg (11 : Int32) (11) (11) from ⟨by decide, by decide⟩)) (show rg (1 : Int32) (1) (1) from ⟨by decide, by decide⟩) (by decide) (by decide) (by decide) (by decide))) (by decide) (by decide)) (ms_s hx6_2512 (rg_lt (nle c_2510) r_v1 (show rg (11 : Int32) (11) (11) from ⟨by decide, by decide⟩)) (by decide) (by decide) hm) bσ5_2511

set_option maxHeartbeats 4000000 in
set_option maxRecDepth 100000 in
theorem s_X12_goesBack {g : Nat → Int32} {m : Int} {σ : SG} {ρ : RG} (hB : BF g m σ) : ok (F_X12_goesBack σ ρ) (fun q => BF g m q) := by
  unfold F_X12_goesBack
  exact (s_X12_goesBack_2 1024 _ _ (rg_w (show rg (0 : Int32) (0) (0) from ⟨by decide, by decide⟩) (by decide) (by decide)) (ms_0 (show rg (0 : Int32) (0) (0) from ⟨by decide, by decide⟩) (by decide)) hB)

set_option maxHeartbeats 4000000 in
set_option maxRecDepth 100000 in
theorem s_X12_tellsOf {g : Nat → Int32} {m : Int} {a1 : Int32} {a2 : Int32} {σ : SG} {ρ : RG} (r_a1 : rg a1 (190) (210)) (hB : BF g m σ) : ok (F_X12_tellsOf a1 a2 σ ρ) (fun q => rg q (-2147483648) (2147483647)) := by
  unfold F_X12_tellsOf
  refine ok_if (fun c_2515 => ?_) (fun c_2515 => ?_)
  · exact ok_some (rg_any _)
  · refine ok_nm (fun x2_2516 hx2_2516 => ?_)
    refine ok_gd (rg_inb (rg_eq hx2_2516 (rg_add (l := 190) (h := 214) r_a1 (rg_nel c_2515 (bx_get hB.1 (r := 55) (a := 16) (b := 16) (k := 16) (l := -1) (h := 4) (by decide) (by decide) (by decide)) (show rg (-1 : Int32) (-1) (-1) from ⟨by decide, by decide⟩) rfl) (by decide) (by decide) (by decide) (by decide))) (by decide) (by decide)) ?_
    exact ok_some (rg_any _)

theorem tells_204 {g : Nat → Int32} {m : Int} {σ : SG} {ρ : RG} (hB : BF g m σ) : ok (F_X12_tellsOf (204 : Int32) (0 : Int32) σ ρ) (fun q => ((σ 55 16).toInt = -1 ∧ q = 0) ∨ ∃ h : Nat, (σ 55 16).toInt = (h : Int) ∧ h ≤ 4 ∧ q = σ 55 (204 + h)) := by
  have h16 : rg (σ 55 16) (-1) 4 := bx_get hB.1 (r := 55) (a := 16) (b := 16) (k := 16) (l := -1) (h := 4) (by decide) (by decide) (by decide)
  unfold F_X12_tellsOf
  refine ok_if (fun c => ok_some (Or.inl ⟨by rw [c]; rfl, rfl⟩)) (fun c => ?_)
  have c1 : (σ 55 16).toInt ≠ -1 := fun e => c (Int32.toInt_inj.mp (by rw [e]; rfl))
  have l1 := h16.1
  have l2 := h16.2
  have e204 : (204 : Int32).toInt = 204 := rfl
  refine ok_nm (fun x hx => ?_)
  have ex : x.toInt = 204 + (σ 55 16).toInt := by rw [hx, ti_add (by omega) (by omega), e204]
  have rx : rg x 204 208 := ⟨by omega, by omega⟩
  have ix := rg_cl rx (by decide)
  refine ok_gd (rg_inb rx (by decide) (by decide)) (ok_some (Or.inr ⟨(σ 55 16).toInt.toNat, by omega, by omega, ?_⟩))
  rw [show x.toNatClampNeg = 204 + (σ 55 16).toInt.toNat by omega]
theorem looks_0 {g : Nat → Int32} {m : Int} {a1 a2 v3 v4 v5 : Int32} {σ : SG} {ρ : RG} (h3 : v3 = 0) (hB : BF g m σ) (n : Nat) : ok (F_X12_looks_117 a1 a2 (n + 1) σ ρ v3 v4 v5 v4) (fun q => BF g m q) := by
  unfold F_X12_looks_117
  refine ok_nm (fun x hx => ?_)
  have e : x = v4 := by rw [hx, h3, Int32.add_zero]
  refine ok_if (fun _ => ok_some hB) (fun c => absurd (by rw [e]; exact Int32.le_iff_toInt_le.mpr (Int.le_refl _)) c)
theorem s_X12_looks {g : Nat → Int32} {m : Int} {a1 a2 : Int32} {σ : SG} {ρ : RG} (r_a1 : rg a1 0 5) (hB : BF g m σ) : ok (F_X12_looks a1 a2 σ ρ) (fun q => BF g m q) := by
  unfold F_X12_looks
  refine ok_nm (fun σ2 h2 => ?_)
  have b2 : BF g m σ2 := by rw [h2]; exact bf_far hB (by decide) (by decide) (by decide) (by decide)
  refine ok_nm (fun x3 hx3 => ?_)
  have r3 : rg x3 20 25 := rg_eq hx3 (rg_add (show rg (20 : Int32) 20 20 from ⟨by decide, by decide⟩) r_a1 (by decide) (by decide) (by decide) (by decide))
  refine ok_gd (rg_inb r3 (by decide) (by decide)) (ok_nm (fun σ6 h6 => ?_))
  have b6 : BF g m σ6 := by rw [h6]; exact bf_far b2 (by decide) (by decide) (by decide) (by decide)
  refine ok_nm (fun σ8 h8 => ?_)
  have b8 : BF g m σ8 := by rw [h8]; exact bf_far b6 (by decide) (by decide) (by decide) (by decide)
  refine ok_bn (s_X12_size b8) (fun r9 _ => ok_nm (fun σ11 h11 => ?_))
  have b11 : BF g m σ11 := by rw [h11]; exact bf_far b8 (by decide) (by decide) (by decide) (by decide)
  refine ok_nm (fun x12 _ => ok_nm (fun σ14 h14 => ?_))
  have b14 : BF g m σ14 := by rw [h14]; exact bf_far b11 (by decide) (by decide) (by decide) (by decide)
  refine ok_nm (fun x15 _ => ok_nm (fun σ17 h17 => ?_))
  have b17 : BF g m σ17 := by rw [h17]; exact bf_far b14 (by decide) (by decide) (by decide) (by decide)
  refine ok_nm (fun σ19 h19 => ?_)
  have b19 : BF g m σ19 := by rw [h19]; exact bf_set b17 (rg_any _) (by decide)
  refine ok_nm (fun σ21 h21 => ?_)
  have b21 : BF g m σ21 := by rw [h21]; exact bf_set b19 (rg_any _) (by decide)
  refine ok_bn (tells_204 b21) (fun r22 q22 => ok_nm (fun x23 hx23 => ok_nm (fun x24 hx24 => ?_)))
  rcases q22 with ⟨_, rfl⟩ | ⟨h, eh, h4, rfl⟩
  · exact looks_0 rfl b21 1023
  · have e140 : (140 : Int32).toInt = 140 := rfl
    have e209 : (209 : Int32).toInt = 209 := rfl
    have e23 : x23.toInt = 140 * (h : Int) := by rw [hx23, Int32.toInt_mul, e140, eh, bmod_id (by omega) (by omega)]
    have e24 : x24.toInt = 209 + 140 * (h : Int) := by rw [hx24, ti_add (by omega) (by omega), e209, e23]
    have r24 : rg x24 209 769 := ⟨by omega, by omega⟩
    have i24 := rg_cl r24 (by decide)
    have rm : rg (σ21 55 (204 + h)) 0 140 := bx_get b21.1 (r := 55) (a := 204) (b := 208) (k := 204 + h) (l := 0) (h := 140) (by decide) (by omega) (by omega)
    have im := rg_cl rm (by decide)
    have r1 := rm.1
    have r2 := rm.2
    obtain ⟨-, w⟩ := b21.1.2.2.1.1 h eh
    refine s_X12_looks_117 rm r24 1024 σ21 0 x24 0 (σ21 55 (204 + h)).toNatClampNeg rfl (by omega) (by omega) (by omega) ?_ b21
    rw [show x24.toNatClampNeg = 209 + 140 * h by omega]
    exact w

theorem ti64_rem {a b : Int64} (hb : b.toInt ≠ 0) : (a - a / b * b).toInt = a.toInt.tmod b.toInt := by
  have h1 := Int.mul_tdiv_add_tmod a.toInt b.toInt
  have h3 := a.toInt_lt
  have h4 := a.le_toInt
  have hlt : (a.toInt.tmod b.toInt).natAbs < b.toInt.natAbs := by
    rw [Int.natAbs_tmod]
    exact Nat.mod_lt _ (by omega)
  have h5 := b.toInt_lt
  have h6 := b.le_toInt
  rw [Int64.toInt_sub, Int64.toInt_mul, Int64.toInt_div, Int.bmod_mul_bmod, Int.sub_bmod_bmod]
  have e : a.toInt - a.toInt.tdiv b.toInt * b.toInt = a.toInt.tmod b.toInt := by
    have := Int.mul_comm (a.toInt.tdiv b.toInt) b.toInt
    omega
  rw [e]
  exact Int.bmod_eq_of_le (by omega) (by omega)
theorem cmp0 {v : Int64} {x : Int32} (h : x = lg_cmp v 0) (c : x = 0) : v = 0 := by
  rw [h] at c
  unfold lg_cmp at c
  by_cases q1 : 0 < v
  · simp [q1] at c
  · by_cases q2 : v = 0
    · exact q2
    · simp [q1, q2] at c
theorem s_X12_lowest_6 {a1 a2 : Int64} {a3 : Int32} {ρ : RG} : ∀ (n : Nat) (σ : SG) (v0 v2 : Int64) (v4 : Int32) (v5 v7 : Int64), (v7 = 0 → ¬ v5 = 0) → v7.toInt.natAbs < n → ok (F_X12_lowest_6 a1 a2 a3 n σ ρ v0 v2 v4 v5 v7) (fun _ => True) := by
  intro n
  induction n with
  | zero => intro σ v0 v2 v4 v5 v7 _ h; omega
  | succ n ih =>
    intro σ v0 v2 v4 v5 v7 h0 hn
    unfold F_X12_lowest_6
    refine ok_nm (fun x1 hx1 => ok_if (fun c => ?_) (fun c => ?_))
    · have g := h0 (cmp0 hx1 c)
      refine ok_if (fun _ => ok_gd (decide_eq_true g) (ok_nm (fun x _ => ok_some trivial))) (fun _ => ok_gd (decide_eq_true g) (ok_nm (fun x _ => ok_some trivial)))
    · have g := lcmp_ne hx1 c
      refine ok_gd (decide_eq_true g) (ok_nm (fun x9 hx9 => ?_))
      have hz : v7.toInt ≠ 0 := fun e => g (Int64.toInt_inj.mp (by rw [e]; rfl))
      have e9 : x9.toInt = v5.toInt.tmod v7.toInt := by rw [hx9, ti64_rem hz]
      refine ih σ v0 v2 v4 v7 x9 (fun _ => g) ?_
      rw [e9, Int.natAbs_tmod]
      have := Nat.mod_lt v5.toInt.natAbs (show 0 < v7.toInt.natAbs by omega)
      omega
theorem s_X12_lowest {a1 a2 : Int64} {a3 : Int32} {σ : SG} {ρ : RG} (h : ¬ a2 = 0) (h2 : a2.toInt.natAbs < 1024) : ok (F_X12_lowest a1 a2 a3 σ ρ) (fun _ => True) := s_X12_lowest_6 1024 σ a1 a2 a3 a1 a2 (fun e => absurd e h) h2
theorem cnt64 {x : Int32} (h : rg x 1 6) : ¬ x.toInt64 = 0 ∧ x.toInt64.toInt.natAbs < 1024 := by
  have e := Int32.toInt_toInt64 x
  have h1 := h.1
  have h2 := h.2
  refine ⟨fun q => ?_, by omega⟩
  rw [q] at e
  have : (0 : Int64).toInt = 0 := rfl
  omega
/-! a new cutter of the reference -/
theorem bx_cnt {m : Int} {σ : SG} (hB : BX m σ) {c x : Int32} (hc : rg c 0 5) (e : σ 55 11 = c) (hx : x = c + 1) (ht : 1 ≤ (σ 55 (44 + c.toNatClampNeg)).toInt) : BX m (s2 σ 55 11 x) := by
  have ic := rg_cl hc (by decide)
  have c1 := hc.1
  have c2 := hc.2
  have e1 : (1 : Int32).toInt = 1 := rfl
  have ex : x.toInt = c.toInt + 1 := by rw [hx, ti_add (by omega) (by omega), e1]
  refine ⟨fun q hq j a b => ?_, ?_, ?_, ?_⟩
  · rw [s2_at]
    by_cases e1 : q.1 = 55
    · rw [if_pos e1]
      by_cases e2 : j = 11
      · rw [if_pos e2]
        have hq1 : ∀ q ∈ bndL, q.1 = 55 → q.2.1 ≤ 11 → 11 ≤ q.2.2.1 → q.2.2.2.1 = 0 ∧ q.2.2.2.2 = 6 := by decide
        obtain ⟨y1, y2⟩ := hq1 q hq e1 (by omega) (by omega)
        rw [y1, y2]
        exact ⟨by omega, by omega⟩
      · rw [if_neg e2, ← e1]; exact hB.1 q hq j a b
    · rw [if_neg e1]; exact hB.1 q hq j a b
  · rw [s2_ne 54 (by decide)]; exact hB.2.1
  · have hw : s2 σ 55 11 x 55 = upd (σ 55) 11 x := s2_eq
    rw [hw]
    obtain ⟨w1, w2⟩ := hB.2.2.1
    have ne : ∀ k, k ≠ 11 → upd (σ 55) 11 x k = σ 55 k := fun k hk => by unfold upd; simp [hk]
    have e11 : upd (σ 55) 11 x 11 = x := by unfold upd; simp
    refine ⟨fun q hq => ?_, fun d hd => ?_⟩
    · rw [ne 16 (by decide)] at hq
      obtain ⟨y1, y2⟩ := w1 q hq
      rw [ne 12 (by decide), ne (204 + q) (by omega), simc_congr (f := σ 55) _ _ _ (fun k hk => ne k (by omega))]
      exact ⟨y1, y2⟩
    · rw [e11] at hd
      rw [ne (44 + d) (by omega)]
      by_cases q : (d : Int) < (σ 55 11).toInt
      · exact w2 d q
      · rw [e] at q
        have : d = c.toNatClampNeg := by omega
        subst this
        exact ⟨ht, by omega⟩
  · rw [s2_ne 56 (by decide), s2_ne 54 (by decide)]; exact hB.2.2.2
theorem s_X12_cutter_153 {m : Int} {a1 a2 a3 a4 a5 v6 : Int32} {ρ : RG} (r6 : rg v6 0 5) : ∀ (n : Nat) (σ : SG) (v7 : Int32), rg v7 0 4 → (4 : Int) - v7.toInt < (n : Int) → BX m σ → σ 55 11 = v6 → 1 ≤ (σ 55 (44 + v6.toNatClampNeg)).toInt → ok (F_X12_cutter_153 a1 a2 a3 a4 a5 n σ ρ v6 v7) (fun q => rg q.1 (-4) 5 ∧ BX m q.2) := by
  intro n
  induction n with
  | zero => intro σ v7 r7 hm; exact (ms_z r7 (by decide) hm).elim
  | succ n ih =>
    intro σ v7 r7 hm hB e11 ht
    unfold F_X12_cutter_153
    refine ok_if (fun c => ?_) (fun c => ?_)
    · refine ok_nm (fun x hx => ok_nm (fun σ39 h39 => ok_some ⟨rg_w r6 (by decide) (by decide), ?_⟩))
      subst h39
      exact bx_cnt hB r6 e11 (by rw [hx, e11]) ht
    · have r7' : rg v7 0 3 := rg_lt (nle c) r7 (show rg (4 : Int32) 4 4 from ⟨by decide, by decide⟩)
      refine ok_nm (fun x40 h40 => ok_nm (fun x41 h41 => ok_nm (fun x42 h42 => ?_)))
      have r40 : rg x40 0 20 := rg_eq h40 (rg_mul (show rg (4 : Int32) 4 4 from ⟨by decide, by decide⟩) r6 (by decide) (by decide) (by decide) (by decide))
      have r41 : rg x41 50 70 := rg_eq h41 (rg_add (show rg (50 : Int32) 50 50 from ⟨by decide, by decide⟩) r40 (by decide) (by decide) (by decide) (by decide))
      have r42 : rg x42 50 73 := rg_eq h42 (rg_add r41 r7' (by decide) (by decide) (by decide) (by decide))
      refine ok_gd (rg_inb r42 (by decide) (by decide)) (ok_nm (fun σ45 h45 => ok_nm (fun x46 h46 => ?_)))
      have b45 : BX m σ45 := by rw [h45]; exact bx_setx hB (a := 50) (b := 73) r42 (show rg (4 : Int32) 4 4 from ⟨by decide, by decide⟩) (by decide)
      have i6 := rg_cl r6 (by decide)
      have u6 := r6.2
      refine ih σ45 x46 (rg_eq h46 (rg_add r7' (show rg (1 : Int32) 1 1 from ⟨by decide, by decide⟩) (by decide) (by decide) (by decide) (by decide))) (ms_s h46 r7' (by decide) (by decide) hm) b45 ?_ ?_
      · rw [s2_kx h45 r42 (by decide) (by decide)]; exact e11
      · rw [s2_kx h45 r42 (by decide) (Or.inl (by omega))]; exact ht
theorem cut_thick {σ27 σ31 σ35 : SG} {x28 x32 c a5 v : Int32} (hc : rg c 0 5) (h28 : x28 = 44 + c) (h31 : σ31 = s2 σ27 55 x28.toNatClampNeg a5) (h32 : rg x32 5 10) (h35 : σ35 = s2 σ31 55 x32.toNatClampNeg v) (ha : rg a5 1 40) : 1 ≤ (σ35 55 (44 + c.toNatClampNeg)).toInt := by
  have ic := rg_cl hc (by decide)
  have c1 := hc.1
  have c2 := hc.2
  have e44 : (44 : Int32).toInt = 44 := rfl
  have e28 : x28.toInt = 44 + c.toInt := by rw [h28, ti_add (by omega) (by omega), e44]
  have i28 := rg_cl (show rg x28 44 49 from ⟨by omega, by omega⟩) (by decide)
  rw [s2_kx h35 h32 (by decide) (Or.inr (by omega)), show 44 + c.toNatClampNeg = x28.toNatClampNeg by omega, s2_v h31]
  exact ha.1
/-! wedges -/
theorem rem_lt {v c x : Int32} {h : Int} (hx : x = v - v / c * c) (hv : rg v 0 h) (hc : rg c 1 6) : 0 ≤ x.toInt ∧ x.toInt < c.toInt := by
  have c1 := hc.1
  rw [hx, ti_rem (by omega)]
  exact ⟨Int.tmod_nonneg _ hv.1, Int.tmod_lt_of_pos _ (by omega)⟩
theorem s_X12_cheese_146 {g : Nat → Int32} {m : Int} {a1 a2 v2 v3 v4 : Int32} {σ : SG} {ρ : RG} (hw : ¬ v2 = 0 → ¬ v2 = 1 → rg v2 10 15) (hB : BF g m σ) : ok (F_X12_cheese_146 a1 a2 σ ρ v2 v3 v4) (fun q => rg q.1 (-2147483648) 2147483647 ∧ BF g m q.2) := by
  unfold F_X12_cheese_146
  refine ok_if (fun _ => ok_some ⟨rg_any _, hB⟩) (fun c1 => ok_if (fun _ => ok_some ⟨rg_any _, hB⟩) (fun c2 => ok_nm (fun x hx => ?_)))
  have r9 : rg x 0 5 := rg_eq hx (rg_sub (hw c1 c2) (show rg (10 : Int32) 10 10 from ⟨by decide, by decide⟩) (by decide) (by decide) (by decide) (by decide))
  exact ok_gd (rg_inb r9 (by decide) (by decide)) (ok_some ⟨rg_any _, hB⟩)
theorem s_X12_cheese_63 {g : Nat → Int32} {m : Int} {a1 a2 v2 : Int32} {ρ : RG} (hw : ¬ v2 = 0 → ¬ v2 = 1 → rg v2 10 15) : ∀ (n : Nat) (σ : SG) (v3 v4 : Int32), 0 ≤ v3.toInt → 0 ≤ v4.toInt → v3.toInt + v4.toInt ≤ 360 → v3.toInt < (n : Int) → BF g m σ → ok (F_X12_cheese_63 a1 a2 n σ ρ v2 v3 v4) (fun q => rg q.1 (-2147483648) 2147483647 ∧ BF g m q.2) := by
  intro n
  induction n with
  | zero => intro σ v3 v4 h3 h4 h34 hn; omega
  | succ n ih =>
    intro σ v3 v4 h3 h4 h34 hn hB
    unfold F_X12_cheese_63
    have r4 : rg v4 0 360 := ⟨h4, by omega⟩
    have r11 : rg (σ 55 11) 0 6 := bx_get hB.1 (r := 55) (a := 11) (b := 11) (k := 11) (l := 0) (h := 6) (by decide) (by decide) (by decide)
    refine ok_if (fun _ => s_X12_cheese_146 hw hB) (fun c => ?_)
    have r1 : rg (σ 55 11) 1 6 := rg_gt (nle c) (show rg (0 : Int32) 0 0 from ⟨by decide, by decide⟩) r11
    refine ok_gd (rg_ne0 r1 (by decide)) (ok_nm (fun x12 h12 => ok_nm (fun x13 h13 => ?_)))
    have r12 : rg x12 0 5 := rg_eq h12 (rg_rem0 r4 r1 (by decide) (by decide))
    have r13 : rg x13 44 49 := rg_eq h13 (rg_add (show rg (44 : Int32) 44 44 from ⟨by decide, by decide⟩) r12 (by decide) (by decide) (by decide) (by decide))
    refine ok_gd (rg_inb r13 (by decide) (by decide)) (ok_if (fun _ => s_X12_cheese_146 hw hB) (fun c2 => ?_))
    refine ok_gd (rg_ne0 r1 (by decide)) (ok_nm (fun x17 h17 => ?_))
    have e17 : x17 = x12 := by rw [h17, h12]
    subst e17
    refine ok_gd (rg_inb r12 (by decide) (by decide)) (ok_nm (fun x19 h19 => ?_))
    have e19 : x19 = x13 := by rw [h19, h13]
    subst e19
    refine ok_gd (rg_inb r13 (by decide) (by decide)) (ok_nm (fun x21 _ => ok_gd (rg_inb r12 (by decide) (by decide)) (ok_nm (fun σ24 h24 => ok_nm (fun x25 h25 => ?_)))))
    have e25 : x25 = x19 := by rw [h25, h13]
    subst e25
    have b24 : BF g m σ24 := by rw [h24]; exact bf_far hB (by decide) (by decide) (by decide) (by decide)
    have e55 : σ24 55 = σ 55 := by rw [h24, s2_ne 55 (by decide)]
    refine ok_gd (rg_inb r13 (by decide) (by decide)) (ok_nm (fun x27 h27 => ok_nm (fun x28 h28 => ?_)))
    have l := rem_lt h12 r4 r1
    have i12 := rg_cl r12 (by decide)
    have i13 := rg_cl r13 (by decide)
    have e44 : (44 : Int32).toInt = 44 := rfl
    have u12 := r12.2
    have e13 : x25.toInt = 44 + x17.toInt := by rw [h13, ti_add (by omega) (by omega), e44]
    have ht := (hB.1.2.2.1.2 x17.toNatClampNeg (by omega)).1
    rw [show 44 + x17.toNatClampNeg = x25.toNatClampNeg by omega] at ht
    have hle := Int32.le_iff_toInt_le.mp (nlt c2)
    have e27 : x27.toInt = v3.toInt - (σ 55 x25.toNatClampNeg).toInt := by rw [h27, e55, ti_sub (by omega) (by omega)]
    have e1 : (1 : Int32).toInt = 1 := rfl
    have e28 : x28.toInt = v4.toInt + 1 := by rw [h28, ti_add (by omega) (by omega), e1]
    exact ih σ24 x27 x28 (by omega) (by omega) (by omega) (by omega) b24
theorem s_X12_cheese_39 {g : Nat → Int32} {m : Int} {a1 a2 v1 v2 : Int32} {ρ : RG} (r1 : rg v1 12 360) (hw : ¬ v2 = 0 → ¬ v2 = 1 → rg v2 10 15) : ∀ (n : Nat) (σ : SG) (v3 : Int32), rg v3 0 6 → (6 : Int) - v3.toInt < (n : Int) → BF g m σ → ok (F_X12_cheese_39 a1 a2 n σ ρ v1 v2 v3) (fun q => rg q.1 (-2147483648) 2147483647 ∧ BF g m q.2) := by
  intro n
  induction n with
  | zero => intro σ v3 r3 hm; exact (ms_z r3 (by decide) hm).elim
  | succ n ih =>
    intro σ v3 r3 hm hB
    unfold F_X12_cheese_39
    have z0 : (0 : Int32).toInt = 0 := rfl
    have u1 := r1.1
    have u2 := r1.2
    refine ok_if (fun _ => s_X12_cheese_63 hw 1024 σ v1 0 (by omega) (by omega) (by omega) (by omega) hB) (fun c => ?_)
    have r3' : rg v3 0 5 := rg_lt (nle c) r3 (show rg (6 : Int32) 6 6 from ⟨by decide, by decide⟩)
    refine ok_gd (rg_inb r3' (by decide) (by decide)) (ok_nm (fun σ31 h31 => ok_nm (fun x32 h32 => ?_)))
    exact ih σ31 x32 (rg_eq h32 (rg_add r3' (show rg (1 : Int32) 1 1 from ⟨by decide, by decide⟩) (by decide) (by decide) (by decide) (by decide))) (ms_s h32 r3' (by decide) (by decide) hm) (by rw [h31]; exact bf_far hB (by decide) (by decide) (by decide) (by decide))
theorem s_X12_cheese_22 {g : Nat → Int32} {m : Int} {a1 a2 v1 v2 : Int32} {σ : SG} {ρ : RG} (hw : ¬ v2 = 0 → ¬ v2 = 1 → rg v2 10 15) (hB : BF g m σ) : ok (F_X12_cheese_22 a1 a2 σ ρ v1 v2) (fun q => rg q.1 (-2147483648) 2147483647 ∧ BF g m q.2) := by
  unfold F_X12_cheese_22
  refine ok_bn s_X12_in (fun r3 h3 => ok_if (fun _ => ok_some ⟨rg_any _, hB⟩) (fun c => ?_))
  obtain ⟨w1, w2⟩ := h3.2 c
  have r1 : rg v1 12 360 := rg_le w2 (rg_ge w1 (show rg (12 : Int32) 12 12 from ⟨by decide, by decide⟩) (rg_any _)) (show rg (360 : Int32) 360 360 from ⟨by decide, by decide⟩)
  exact s_X12_cheese_39 r1 hw 1024 σ 0 ⟨by decide, by decide⟩ (by decide) hB
theorem s_X12_cheese {g : Nat → Int32} {m : Int} {a1 a2 : Int32} {σ : SG} {ρ : RG} (hB : BF g m σ) : ok (F_X12_cheese a1 a2 σ ρ) (fun q => rg q.1 (-2147483648) 2147483647 ∧ BF g m q.2) := by
  unfold F_X12_cheese
  refine ok_bn s_X12_in (fun r1 h1 => ok_if (fun _ => ok_nm (fun x hx => ok_bn (s_X12_isCutter hB.1) (fun r h => ok_if (fun _ => ok_some ⟨rg_any _, hB⟩) (fun c => ?_)))) (fun c => ?_))
  · obtain ⟨w1, w2⟩ := h.2 c
    have rx : rg x 0 5 := rg_le w2 (rg_ge w1 (show rg (0 : Int32) 0 0 from ⟨by decide, by decide⟩) (rg_any _)) (show rg (5 : Int32) 5 5 from ⟨by decide, by decide⟩)
    exact s_X12_cheese_22 (fun _ _ => rg_eq (uns hx) (rg_add rx (show rg (10 : Int32) 10 10 from ⟨by decide, by decide⟩) (by decide) (by decide) (by decide) (by decide))) hB
  · obtain ⟨w1, w2⟩ := h1.2 c
    refine s_X12_cheese_22 (fun n0 n1 => ?_) hB
    have l1 := Int32.le_iff_toInt_le.mp w1
    have l2 := Int32.le_iff_toInt_le.mp w2
    have z0 : (0 : Int32).toInt = 0 := rfl
    have z1 : (1 : Int32).toInt = 1 := rfl
    have m0 : a2.toInt ≠ 0 := fun e => n0 (Int32.toInt_inj.mp (by rw [e]; rfl))
    have m1 : a2.toInt ≠ 1 := fun e => n1 (Int32.toInt_inj.mp (by rw [e]; rfl))
    omega

set_option maxHeartbeats 4000000 in
set_option maxRecDepth 100000 in
theorem s_X12_corner {g : Nat → Int32} {m : Int} {a1 : Int32} {a2 : Int32} {a3 : Int32} {a4 : Int32} {σ : SG} {ρ : RG} (hB : BF g m σ) : ok (F_X12_corner a1 a2 a3 a4 σ ρ) (fun q => rg q (-2147483648) (2147483647)) := by
  unfold F_X12_corner
  refine ok_if (fun c_2531 => ?_) (fun c_2531 => ?_)
  · refine ok_nm (fun x2_2532 hx2_2532 => ?_)
    unfold F_X12_corner_12
    refine ok_nm (fun x3_2533 hx3_2533 => ?_)
    refine ok_nm (fun x4_2534 hx4_2534 => ?_)
    refine ok_if (fun c_2535 => ?_) (fun c_2535 => ?_)
    · refine ok_nm (fun x7_2536 hx7_2536 => ?_)
      refine ok_nm (fun x8_2537 hx8_2537 => ?_)
      exact ok_some (rg_any _)
    · refine ok_nm (fun x6_2538 hx6_2538 => ?_)
      exact ok_some (rg_any _)
  · unfold F_X12_corner_12
    refine ok_nm (fun x3_2539 hx3_2539 => ?_)
    refine ok_nm (fun x4_2540 hx4_2540 => ?_)
    refine ok_if (fun c_2541 => ?_) (fun c_2541 => ?_)
    · refine ok_nm (fun x7_2542 hx7_2542 => ?_)
      refine ok_nm (fun x8_2543 hx8_2543 => ?_)
      exact ok_some (rg_any _)
    · refine ok_nm (fun x6_2544 hx6_2544 => ?_)
      exact ok_some (rg_any _)

set_option maxHeartbeats 4000000 in
set_option maxRecDepth 100000 in
theorem s_X12_leastCorner {g : Nat → Int32} {m : Int} {σ : SG} {ρ : RG} (hB : BF g m σ) : ok (F_X12_leastCorner σ ρ) (fun q => rg q (-2147483648) (2147483647)) := by
  unfold F_X12_leastCorner
  refine ok_bn (s_X12_size hB) (fun r1_2549 qr1_2549 => ?_)
  refine ok_nm (fun x2_2550 hx2_2550 => ?_)
  refine ok_bn (s_X12_size hB) (fun r3_2551 qr3_2551 => ?_)
  refine ok_nm (fun x4_2552 hx4_2552 => ?_)
  exact ok_some (rg_any _)

set_option maxHeartbeats 4000000 in
set_option maxRecDepth 100000 in
theorem s_X12_told {g : Nat → Int32} {m : Int} {a1 : Int32} {σ : SG} {ρ : RG} (hB : BF g m σ) : ok (F_X12_told a1 σ ρ) (fun q => rg q (-2147483648) (2147483647)) := by
  unfold F_X12_told
  refine ok_bn (s_X12_in) (fun r1_2569 qr1_2569 => ?_)
  refine ok_if (fun c_2570 => ?_) (fun c_2570 => ?_)
  · refine ok_if (fun c_2571 => ?_) (fun c_2571 => ?_)
    · exact ok_some (rg_any _)
    · refine ok_if (fun c_2572 => ?_) (fun c_2572 => ?_)
      · exact ok_some (rg_any _)
      · refine ok_if (fun c_2573 => ?_) (fun c_2573 => ?_)
        · exact ok_some (rg_any _)
        · refine ok_if (fun c_2574 => ?_) (fun c_2574 => ?_)
          · exact ok_some (rg_any _)
          · refine ok_if (fun c_2575 => ?_) (fun c_2575 => ?_)
            · exact ok_some (rg_any _)
            · refine ok_if (fun c_2576 => ?_) (fun c_2576 => ?_)
              · exact ok_some (rg_any _)
              · refine ok_if (fun c_2577 => ?_) (fun c_2577 => ?_)
                · refine ok_bn (s_X12_tellsOf (rg_w (show rg (194 : Int32) (194) (194) from ⟨by decide, by decide⟩) (by decide) (by decide)) hB) (fun r4_2578 qr4_2578 => ?_)
                  exact ok_some qr4_2578
                · refine ok_if (fun c_2579 => ?_) (fun c_2579 => ?_)
                  · refine ok_bn (s_X12_tellsOf (rg_w (show rg (199 : Int32) (199) (199) from ⟨by decide, by decide⟩) (by decide) (by decide)) hB) (fun r5_2580 qr5_2580 => ?_)
                    exact ok_some qr5_2580
                  · exact ok_some (rg_w (show rg (-10001 : Int32) (-10001) (-10001) from ⟨by decide, by decide⟩) (by decide) (by decide))
  · obtain ⟨w_2581, w_2582⟩ := qr1_2569.2 c_2570
    refine ok_nm (fun x6_2583 hx6_2583 => ?_)
    refine ok_bn (s_X12_corner hB) (fun r7_2584 qr7_2584 => ?_)
    exact ok_some qr7_2584

set_option maxHeartbeats 4000000 in
set_option maxRecDepth 100000 in
theorem s_X12_rights {g : Nat → Int32} {m : Int} {σ : SG} {ρ : RG} (hB : BF g m σ) : ok (F_X12_rights σ ρ) (fun q => BF g m q) := by
  unfold F_X12_rights
  refine ok_bn (s_X12_leastCorner hB) (fun r1_2593 qr1_2593 => ?_)
  refine ok_nm (fun x2_2594 hx2_2594 => ?_)
  refine ok_nm (fun x3_2595 hx3_2595 => ?_)
  refine ok_nm (fun x4_2596 hx4_2596 => ?_)
  refine ok_nm (fun σ6_2597 hσ6_2597 => ?_)
  have bσ6_2597 : BF g m σ6_2597 := by rw [hσ6_2597]; exact bf_set hB (rg_any _) (by decide)
  refine ok_nm (fun σ8_2598 hσ8_2598 => ?_)
  have bσ8_2598 : BF g m σ8_2598 := by rw [hσ8_2598]; exact bf_set bσ6_2597 (rg_any _) (by decide)
  refine ok_nm (fun σ10_2599 hσ10_2599 => ?_)
  have bσ10_2599 : BF g m σ10_2599 := by rw [hσ10_2599]; exact bf_set bσ8_2598 (rg_any _) (by decide)
  refine ok_nm (fun σ12_2600 hσ12_2600 => ?_)
  have bσ12_2600 : BF g m σ12_2600 := by rw [hσ12_2600]; exact bf_set bσ10_2599 (rg_any _) (by decide)
  exact ok_some bσ12_2600

set_option maxHeartbeats 4000000 in
set_option maxRecDepth 100000 in
theorem s_X12_slant {g : Nat → Int32} {m : Int} {a1 : Int32} {a2 : Int32} {a3 : Int32} {σ : SG} {ρ : RG} (r_a1 : rg a1 (0) (5)) (hB : BF g m σ) : ok (F_X12_slant a1 a2 a3 σ ρ) (fun q => rg q (-2147483648) (2147483647)) := by
  unfold F_X12_slant
  refine ok_nm (fun x1_2614 hx1_2614 => ?_)
  refine ok_gd (rg_inb (rg_eq hx1_2614 (rg_add (l := 20) (h := 25) (show rg (20 : Int32) (20) (20) from ⟨by decide, by decide⟩) r_a1 (by decide) (by decide) (by decide) (by decide))) (by decide) (by decide)) ?_
  refine ok_if (fun c_2615 => ?_) (fun c_2615 => ?_)
  · exact ok_some (rg_w (show rg (0 : Int32) (0) (0) from ⟨by decide, by decide⟩) (by decide) (by decide))
  · refine ok_if (fun c_2616 => ?_) (fun c_2616 => ?_)
    · refine ok_nm (fun x4_2617 hx4_2617 => ?_)
      refine ok_nm (fun x5_2618 hx5_2618 => ?_)
      exact ok_some (rg_any _)
    · refine ok_if (fun c_2619 => ?_) (fun c_2619 => ?_)
      · refine ok_nm (fun x6_2620 hx6_2620 => ?_)
        exact ok_some (rg_any _)
      · refine ok_if (fun c_2621 => ?_) (fun c_2621 => ?_)
        · exact ok_some (rg_w (show rg (0 : Int32) (0) (0) from ⟨by decide, by decide⟩) (by decide) (by decide))
        · refine ok_if (fun c_2622 => ?_) (fun c_2622 => ?_)
          · refine ok_nm (fun x7_2623 hx7_2623 => ?_)
            refine ok_nm (fun x8_2624 hx8_2624 => ?_)
            exact ok_some (rg_any _)
          · refine ok_if (fun c_2625 => ?_) (fun c_2625 => ?_)
            · refine ok_nm (fun x9_2626 hx9_2626 => ?_)
              exact ok_some (rg_any _)
            · exact ok_some (rg_any _)

set_option maxHeartbeats 4000000 in
set_option maxRecDepth 100000 in
theorem s_X12_half {g : Nat → Int32} {m : Int} {a1 : Int32} {σ : SG} {ρ : RG} (hB : BF g m σ) : ok (F_X12_half a1 σ ρ) (fun q => rg q (-2147483648) (2147483647)) := by
  unfold F_X12_half
  refine ok_if (fun c_2629 => ?_) (fun c_2629 => ?_)
  · exact ok_some (rg_any _)
  · refine ok_nm (fun x2_2630 hx2_2630 => ?_)
    exact ok_some (rg_any _)

set_option maxHeartbeats 4000000 in
set_option maxRecDepth 100000 in
theorem s_X12_cuts_305 {g : Nat → Int32} {m : Int} {a1 : Int32} {a2 : Int32} {ρ : RG} (r_a1 : rg a1 (0) (5)) : ∀ (n : Nat) (σ : SG) (v1 : Int32) (v7 : Int32) (v9 : Int32) (v10 : Int32) (v11 : Int32), rg v1 (0) (5) → rg v11 (0) (4) → (4 : Int) - v11.toInt < (n : Int) → BF g m σ → ok (F_X12_cuts_305 a1 a2 n σ ρ v1 v7 v9 v10 v11) (fun q => rg q.1 (1) (1) ∧ BF g m q.2) := by
  intro n
  induction n with
  | zero => intro σ v1 v7 v9 v10 v11 r_v1 r_v11 hm hB; exact (ms_z r_v11 (by decide) hm).elim
  | succ n ih =>
    intro σ v1 v7 v9 v10 v11 r_v1 r_v11 hm hB
    unfold F_X12_cuts_305
    refine ok_if (fun c_2706 => ?_) (fun c_2706 => ?_)
    · refine ok_nm (fun σ35_2707 hσ35_2707 => ?_)
      have bσ35_2707 : BF g m σ35_2707 := by rw [hσ35_2707]; exact bf_set hB (rg_any _) (by decide)
      refine ok_nm (fun σ37_2708 hσ37_2708 => ?_)
      have bσ37_2708 : BF g m σ37_2708 := by rw [hσ37_2708]; exact bf_set bσ35_2707 (rg_any _) (by decide)
      refine ok_nm (fun σ39_2709 hσ39_2709 => ?_)
      have bσ39_2709 : BF g m σ39_2709 := by rw [hσ39_2709]; exact bf_set bσ37_2708 (rg_any _) (by decide)
      refine ok_nm (fun x40_2710 hx40_2710 => ?_)
      refine ok_gd (rg_inb (rg_eq hx40_2710 (rg_add (l := 5) (h := 10) (show rg (5 : Int32) (5) (5) from ⟨by decide, by decide⟩) r_v1 (by decide) (by decide) (by decide) (by decide))) (by decide) (by decide)) ?_
      refine ok_nm (fun x42_2711 hx42_2711 => ?_)
      refine ok_gd (rg_inb (rg_eq hx40_2710 (rg_add (l := 5) (h := 10) (show rg (5 : Int32) (5) (5) from ⟨by decide, by decide⟩) r_v1 (by decide) (by decide) (by decide) (by decide))) (by decide) (by decide)) ?_
      refine ok_nm (fun σ45_2712 hσ45_2712 => ?_)
      have bσ45_2712 : BF g m σ45_2712 := by rw [hσ45_2712]; exact bf_setx bσ39_2709 (a := 5) (b := 10) (rg_eq hx40_2710 (rg_add (l := 5) (h := 10) (show rg (5 : Int32) (5) (5) from ⟨by decide, by decide⟩) r_v1 (by decide) (by decide) (by decide) (by decide))) (rg_any _) (by decide)
      refine ok_nm (fun x46_2713 hx46_2713 => ?_)
      refine ok_nm (fun σ48_2714 hσ48_2714 => ?_)
      have bσ48_2714 : BF g m σ48_2714 := by rw [hσ48_2714]; exact bf_set bσ45_2712 (rg_any _) (by decide)
      exact ok_some ⟨(show rg (1 : Int32) (1) (1) from ⟨by decide, by decide⟩), bσ48_2714⟩
    · refine ok_bn (s_X12_corner hB) (fun r49_2715 qr49_2715 => ?_)
      refine ok_bn (s_X12_corner hB) (fun r50_2716 qr50_2716 => ?_)
      refine ok_nm (fun x51_2717 hx51_2717 => ?_)
      refine ok_if (fun c_2718 => ?_) (fun c_2718 => ?_)
      · unfold F_X12_cuts_359
        refine ok_nm (fun x53_2719 hx53_2719 => ?_)
        refine ok_nm (fun σ55_2720 hσ55_2720 => ?_)
        have bσ55_2720 : BF g m σ55_2720 := by rw [hσ55_2720]; exact bf_set hB (rg_any _) (by decide)
        refine ok_if (fun c_2721 => ?_) (fun c_2721 => ?_)
        · unfold F_X12_cuts_391
          refine ok_nm (fun σ58_2722 hσ58_2722 => ?_)
          have bσ58_2722 : BF g m σ58_2722 := by rw [hσ58_2722]; exact bf_set bσ55_2720 (rg_any _) (by decide)
          refine ok_if (fun c_2723 => ?_) (fun c_2723 => ?_)
          · unfold F_X12_cuts_413
            refine ok_nm (fun σ61_2724 hσ61_2724 => ?_)
            have bσ61_2724 : BF g m σ61_2724 := by rw [hσ61_2724]; exact bf_set bσ58_2722 (rg_any _) (by decide)
            refine ok_nm (fun x62_2725 hx62_2725 => ?_)
            exact ih _ _ _ _ _ _ r_v1 (rg_w (rg_eq hx62_2725 (rg_add (l := 1) (h := 4) (rg_lt (nle c_2706) r_v11 (show rg (4 : Int32) (4) (4) from ⟨by decide, by decide⟩)) (show rg (1 : Int32) (1) (1) from ⟨by decide, by decide⟩) (by decide) (by decide) (by decide) (by decide))) (by decide) (by decide)) (ms_s hx62_2725 (rg_lt (nle c_2706) r_v11 (show rg (4 : Int32) (4) (4) from ⟨by decide, by decide⟩)) (by decide) (by decide) hm) bσ61_2724
          · unfold F_X12_cuts_413
            refine ok_nm (fun σ61_2726 hσ61_2726 => ?_)
            have bσ61_2726 : BF g m σ61_2726 := by rw [hσ61_2726]; exact bf_set bσ58_2722 (rg_any _) (by decide)
            refine ok_nm (fun x62_2727 hx62_2727 => ?_)
            exact ih _ _ _ _ _ _ r_v1 (rg_w (rg_eq hx62_2727 (rg_add (l := 1) (h := 4) (rg_lt (nle c_2706) r_v11 (show rg (4 : Int32) (4) (4) from ⟨by decide, by decide⟩)) (show rg (1 : Int32) (1) (1) from ⟨by decide, by decide⟩) (by decide) (by decide) (by decide) (by decide))) (by decide) (by decide)) (ms_s hx62_2727 (rg_lt (nle c_2706) r_v11 (show rg (4 : Int32) (4) (4) from ⟨by decide, by decide⟩)) (by decide) (by decide) hm) bσ61_2726
        · unfold F_X12_cuts_391
          refine ok_nm (fun σ58_2728 hσ58_2728 => ?_)
          have bσ58_2728 : BF g m σ58_2728 := by rw [hσ58_2728]; exact bf_set bσ55_2720 (rg_any _) (by decide)
          refine ok_if (fun c_2729 => ?_) (fun c_2729 => ?_)
          · unfold F_X12_cuts_413
            refine ok_nm (fun σ61_2730 hσ61_2730 => ?_)
            have bσ61_2730 : BF g m σ61_2730 := by rw [hσ61_2730]; exact bf_set bσ58_2728 (rg_any _) (by decide)
            refine ok_nm (fun x62_2731 hx62_2731 => ?_)
            exact ih _ _ _ _ _ _ r_v1 (rg_w (rg_eq hx62_2731 (rg_add (l := 1) (h := 4) (rg_lt (nle c_2706) r_v11 (show rg (4 : Int32) (4) (4) from ⟨by decide, by decide⟩)) (show rg (1 : Int32) (1) (1) from ⟨by decide, by decide⟩) (by decide) (by decide) (by decide) (by decide))) (by decide) (by decide)) (ms_s hx62_2731 (rg_lt (nle c_2706) r_v11 (show rg (4 : Int32) (4) (4) from ⟨by decide, by decide⟩)) (by decide) (by decide) hm) bσ61_2730
          · unfold F_X12_cuts_413
            refine ok_nm (fun σ61_2732 hσ61_2732 => ?_)
            have bσ61_2732 : BF g m σ61_2732 := by rw [hσ61_2732]; exact bf_set bσ58_2728 (rg_any _) (by decide)
            refine ok_nm (fun x62_2733 hx62_2733 => ?_)
            exact ih _ _ _ _ _ _ r_v1 (rg_w (rg_eq hx62_2733 (rg_add (l := 1) (h := 4) (rg_lt (nle c_2706) r_v11 (show rg (4 : Int32) (4) (4) from ⟨by decide, by decide⟩)) (show rg (1 : Int32) (1) (1) from ⟨by decide, by decide⟩) (by decide) (by decide) (by decide) (by decide))) (by decide) (by decide)) (ms_s hx62_2733 (rg_lt (nle c_2706) r_v11 (show rg (4 : Int32) (4) (4) from ⟨by decide, by decide⟩)) (by decide) (by decide) hm) bσ61_2732
      · unfold F_X12_cuts_359
        refine ok_nm (fun x53_2734 hx53_2734 => ?_)
        refine ok_nm (fun σ55_2735 hσ55_2735 => ?_)
        have bσ55_2735 : BF g m σ55_2735 := by rw [hσ55_2735]; exact bf_set hB (rg_any _) (by decide)
        refine ok_if (fun c_2736 => ?_) (fun c_2736 => ?_)
        · unfold F_X12_cuts_391
          refine ok_nm (fun σ58_2737 hσ58_2737 => ?_)
          have bσ58_2737 : BF g m σ58_2737 := by rw [hσ58_2737]; exact bf_set bσ55_2735 (rg_any _) (by decide)
          refine ok_if (fun c_2738 => ?_) (fun c_2738 => ?_)
          · unfold F_X12_cuts_413
            refine ok_nm (fun σ61_2739 hσ61_2739 => ?_)
            have bσ61_2739 : BF g m σ61_2739 := by rw [hσ61_2739]; exact bf_set bσ58_2737 (rg_any _) (by decide)
            refine ok_nm (fun x62_2740 hx62_2740 => ?_)
            exact ih _ _ _ _ _ _ r_v1 (rg_w (rg_eq hx62_2740 (rg_add (l := 1) (h := 4) (rg_lt (nle c_2706) r_v11 (show rg (4 : Int32) (4) (4) from ⟨by decide, by decide⟩)) (show rg (1 : Int32) (1) (1) from ⟨by decide, by decide⟩) (by decide) (by decide) (by decide) (by decide))) (by decide) (by decide)) (ms_s hx62_2740 (rg_lt (nle c_2706) r_v11 (show rg (4 : Int32) (4) (4) from ⟨by decide, by decide⟩)) (by decide) (by decide) hm) bσ61_2739
          · unfold F_X12_cuts_413
            refine ok_nm (fun σ61_2741 hσ61_2741 => ?_)
            have bσ61_2741 : BF g m σ61_2741 := by rw [hσ61_2741]; exact bf_set bσ58_2737 (rg_any _) (by decide)
            refine ok_nm (fun x62_2742 hx62_2742 => ?_)
            exact ih _ _ _ _ _ _ r_v1 (rg_w (rg_eq hx62_2742 (rg_add (l := 1) (h := 4) (rg_lt (nle c_2706) r_v11 (show rg (4 : Int32) (4) (4) from ⟨by decide, by decide⟩)) (show rg (1 : Int32) (1) (1) from ⟨by decide, by decide⟩) (by decide) (by decide) (by decide) (by decide))) (by decide) (by decide)) (ms_s hx62_2742 (rg_lt (nle c_2706) r_v11 (show rg (4 : Int32) (4) (4) from ⟨by decide, by decide⟩)) (by decide) (by decide) hm) bσ61_2741
        · unfold F_X12_cuts_391
          refine ok_nm (fun σ58_2743 hσ58_2743 => ?_)
          have bσ58_2743 : BF g m σ58_2743 := by rw [hσ58_2743]; exact bf_set bσ55_2735 (rg_any _) (by decide)
          refine ok_if (fun c_2744 => ?_) (fun c_2744 => ?_)
          · unfold F_X12_cuts_413
            refine ok_nm (fun σ61_2745 hσ61_2745 => ?_)
            have bσ61_2745 : BF g m σ61_2745 := by rw [hσ61_2745]; exact bf_set bσ58_2743 (rg_any _) (by decide)
            refine ok_nm (fun x62_2746 hx62_2746 => ?_)
            exact ih _ _ _ _ _ _ r_v1 (rg_w (rg_eq hx62_2746 (rg_add (l := 1) (h := 4) (rg_lt (nle c_2706) r_v11 (show rg (4 : Int32) (4) (4) from ⟨by decide, by decide⟩)) (show rg (1 : Int32) (1) (1) from ⟨by decide, by decide⟩) (by decide) (by decide) (by decide) (by decide))) (by decide) (by decide)) (ms_s hx62_2746 (rg_lt (nle c_2706) r_v11 (show rg (4 : Int32) (4) (4) from ⟨by decide, by decide⟩)) (by decide) (by decide) hm) bσ61_2745
          · unfold F_X12_cuts_413
            refine ok_nm (fun σ61_2747 hσ61_2747 => ?_)
            have bσ61_2747 : BF g m σ61_2747 := by rw [hσ61_2747]; exact bf_set bσ58_2743 (rg_any _) (by decide)
            refine ok_nm (fun x62_2748 hx62_2748 => ?_)
            exact ih _ _ _ _ _ _ r_v1 (rg_w (rg_eq hx62_2748 (rg_add (l := 1) (h := 4) (rg_lt (nle c_2706) r_v11 (show rg (4 : Int32) (4) (4) from ⟨by decide, by decide⟩)) (show rg (1 : Int32) (1) (1) from ⟨by decide, by decide⟩) (by decide) (by decide) (by decide) (by decide))) (by decide) (by decide)) (ms_s hx62_2748 (rg_lt (nle c_2706) r_v11 (show rg (4 : Int32) (4) (4) from ⟨by decide, by decide⟩)) (by decide) (by decide) hm) bσ61_2747

set_option maxHeartbeats 4000000 in
set_option maxRecDepth 100000 in
theorem s_X12_cuts {g : Nat → Int32} {m : Int} {a1 : Int32} {a2 : Int32} {σ : SG} {ρ : RG} (r_a1 : rg a1 (0) (5)) (hB : BF g m σ) : ok (F_X12_cuts a1 a2 σ ρ) (fun q => rg q.1 (0) (1) ∧ BF g m q.2) := by
  unfold F_X12_cuts
  refine ok_bn (s_X12_looks r_a1 hB) (fun σ1_2917 qσ1_2917 => ?_)
  refine ok_nm (fun x2_2918 hx2_2918 => ?_)
  refine ok_gd (rg_inb (rg_eq hx2_2918 (rg_add (l := 20) (h := 25) (show rg (20 : Int32) (20) (20) from ⟨by decide, by decide⟩) r_a1 (by decide) (by decide) (by decide) (by decide))) (by decide) (by decide)) ?_
  refine ok_if (fun c_2919 => ?_) (fun c_2919 => ?_)
  · refine ok_bn (s_X12_rights qσ1_2917) (fun σ86_2920 qσ86_2920 => ?_)
    unfold F_X12_cuts_83
    refine ok_nm (fun x8_2921 hx8_2921 => ?_)
    refine ok_nm (fun x9_2922 hx9_2922 => ?_)
    refine ok_gd (rg_inb (rg_eq (hx9_2922.trans hx2_2918.symm) (rg_eq hx2_2918 (rg_add (l := 20) (h := 25) (show rg (20 : Int32) (20) (20) from ⟨by decide, by decide⟩) r_a1 (by decide) (by decide) (by decide) (by decide)))) (by decide) (by decide)) ?_
    refine ok_if (fun c_2923 => ?_) (fun c_2923 => ?_)
    · refine ok_nm (fun x77_2924 hx77_2924 => ?_)
      refine ok_nm (fun x78_2925 hx78_2925 => ?_)
      refine ok_nm (fun x79_2926 hx79_2926 => ?_)
      refine ok_nm (fun x80_2927 hx80_2927 => ?_)
      refine ok_gd (rg_inb (rg_eq hx80_2927 (rg_add (l := 47) (h := 73) (rg_eq hx78_2925 (rg_add (l := 50) (h := 70) (show rg (50 : Int32) (50) (50) from ⟨by decide, by decide⟩) (rg_eq hx77_2924 (rg_mul (h := 20) (show rg (4 : Int32) (4) (4) from ⟨by decide, by decide⟩) r_a1 (by decide) (by decide) (by decide) (by decide))) (by decide) (by decide) (by decide) (by decide))) (rg_eq hx79_2926 (rg_rem (show rg (4 : Int32) (4) (4) from ⟨by decide, by decide⟩) (by decide))) (by decide) (by decide) (by decide) (by decide))) (by decide) (by decide)) ?_
      refine ok_nm (fun x82_2928 hx82_2928 => ?_)
      unfold F_X12_cuts_145
      refine ok_bn (s_X12_slant r_a1 qσ86_2920) (fun r15_2929 qr15_2929 => ?_)
      refine ok_bn (s_X12_half qσ86_2920) (fun r16_2930 qr16_2930 => ?_)
      refine ok_nm (fun x17_2931 hx17_2931 => ?_)
      refine ok_bn (s_X12_within qσ86_2920) (fun r18_2932 qr18_2932 => ?_)
      refine ok_nm (fun x19_2933 hx19_2933 => ?_)
      refine ok_gd (rg_inb (rg_eq hx19_2933 (rg_add (l := 38) (h := 43) (show rg (38 : Int32) (38) (38) from ⟨by decide, by decide⟩) r_a1 (by decide) (by decide) (by decide) (by decide))) (by decide) (by decide)) ?_
      refine ok_bn (s_X12_half qσ86_2920) (fun r21_2934 qr21_2934 => ?_)
      refine ok_bn (s_X12_slant r_a1 qσ86_2920) (fun r22_2935 qr22_2935 => ?_)
      refine ok_bn (s_X12_half qσ86_2920) (fun r23_2936 qr23_2936 => ?_)
      refine ok_nm (fun x24_2937 hx24_2937 => ?_)
      refine ok_bn (s_X12_within qσ86_2920) (fun r25_2938 qr25_2938 => ?_)
      refine ok_if (fun c_2939 => ?_) (fun c_2939 => ?_)
      · refine ok_bn (s_X12_size qσ86_2920) (fun r63_2940 qr63_2940 => ?_)
        refine ok_nm (fun x64_2941 hx64_2941 => ?_)
        refine ok_bn (s_X12_size qσ86_2920) (fun r65_2942 qr65_2942 => ?_)
        refine ok_nm (fun x66_2943 hx66_2943 => ?_)
        refine ok_bn (s_X12_tellsOf (rg_w (show rg (199 : Int32) (199) (199) from ⟨by decide, by decide⟩) (by decide) (by decide)) qσ86_2920) (fun r67_2944 qr67_2944 => ?_)
        refine ok_if (fun c_2945 => ?_) (fun c_2945 => ?_)
        · unfold F_X12_cuts_286
          refine ok_nm (fun σ28_2946 hσ28_2946 => ?_)
          have bσ28_2946 : BF g m σ28_2946 := by rw [hσ28_2946]; exact bf_set qσ86_2920 (rg_any _) (by decide)
          refine ok_nm (fun σ30_2947 hσ30_2947 => ?_)
          have bσ30_2947 : BF g m σ30_2947 := by rw [hσ30_2947]; exact bf_set bσ28_2946 (rg_any _) (by decide)
          refine ok_nm (fun σ32_2948 hσ32_2948 => ?_)
          have bσ32_2948 : BF g m σ32_2948 := by rw [hσ32_2948]; exact bf_set bσ30_2947 (rg_any _) (by decide)
          exact ok_mono (s_X12_cuts_305 r_a1 1024 _ _ _ _ _ _ r_a1 (rg_w (show rg (0 : Int32) (0) (0) from ⟨by decide, by decide⟩) (by decide) (by decide)) (ms_0 (show rg (0 : Int32) (0) (0) from ⟨by decide, by decide⟩) (by decide)) bσ32_2948) (fun q hq => ⟨rg_w hq.1 (by decide) (by decide), hq.2⟩)
        · refine ok_nm (fun σ70_2949 hσ70_2949 => ?_)
          have bσ70_2949 : BF g m σ70_2949 := by rw [hσ70_2949]; exact bf_set qσ86_2920 (rg_any _) (by decide)
          refine ok_nm (fun σ72_2950 hσ72_2950 => ?_)
          have bσ72_2950 : BF g m σ72_2950 := by rw [hσ72_2950]; exact bf_set bσ70_2949 (rg_any _) (by decide)
          refine ok_nm (fun σ74_2951 hσ74_2951 => ?_)
          have bσ74_2951 : BF g m σ74_2951 := by rw [hσ74_2951]; exact bf_set bσ72_2950 (rg_any _) (by decide)
          refine ok_nm (fun σ76_2952 hσ76_2952 => ?_)
          have bσ76_2952 : BF g m σ76_2952 := by rw [hσ76_2952]; exact bf_set bσ74_2951 (rg_any _) (by decide)
          exact ok_some ⟨(rg_w (show rg (0 : Int32) (0) (0) from ⟨by decide, by decide⟩) (by decide) (by decide)), bσ76_2952⟩
      · unfold F_X12_cuts_286
        refine ok_nm (fun σ28_2953 hσ28_2953 => ?_)
        have bσ28_2953 : BF g m σ28_2953 := by rw [hσ28_2953]; exact bf_set qσ86_2920 (rg_any _) (by decide)
        refine ok_nm (fun σ30_2954 hσ30_2954 => ?_)
        have bσ30_2954 : BF g m σ30_2954 := by rw [hσ30_2954]; exact bf_set bσ28_2953 (rg_any _) (by decide)
        refine ok_nm (fun σ32_2955 hσ32_2955 => ?_)
        have bσ32_2955 : BF g m σ32_2955 := by rw [hσ32_2955]; exact bf_set bσ30_2954 (rg_any _) (by decide)
        exact ok_mono (s_X12_cuts_305 r_a1 1024 _ _ _ _ _ _ r_a1 (rg_w (show rg (0 : Int32) (0) (0) from ⟨by decide, by decide⟩) (by decide) (by decide)) (ms_0 (show rg (0 : Int32) (0) (0) from ⟨by decide, by decide⟩) (by decide)) bσ32_2955) (fun q hq => ⟨rg_w hq.1 (by decide) (by decide), hq.2⟩)
    · refine ok_nm (fun x12_2956 hx12_2956 => ?_)
      refine ok_gd (rg_inb (rg_eq hx12_2956 (rg_add (l := 32) (h := 37) (show rg (32 : Int32) (32) (32) from ⟨by decide, by decide⟩) r_a1 (by decide) (by decide) (by decide) (by decide))) (by decide) (by decide)) ?_
      refine ok_bn (s_X12_half qσ86_2920) (fun r14_2957 qr14_2957 => ?_)
      unfold F_X12_cuts_145
      refine ok_bn (s_X12_slant r_a1 qσ86_2920) (fun r15_2958 qr15_2958 => ?_)
      refine ok_bn (s_X12_half qσ86_2920) (fun r16_2959 qr16_2959 => ?_)
      refine ok_nm (fun x17_2960 hx17_2960 => ?_)
      refine ok_bn (s_X12_within qσ86_2920) (fun r18_2961 qr18_2961 => ?_)
      refine ok_nm (fun x19_2962 hx19_2962 => ?_)
      refine ok_gd (rg_inb (rg_eq hx19_2962 (rg_add (l := 38) (h := 43) (show rg (38 : Int32) (38) (38) from ⟨by decide, by decide⟩) r_a1 (by decide) (by decide) (by decide) (by decide))) (by decide) (by decide)) ?_
      refine ok_bn (s_X12_half qσ86_2920) (fun r21_2963 qr21_2963 => ?_)
      refine ok_bn (s_X12_slant r_a1 qσ86_2920) (fun r22_2964 qr22_2964 => ?_)
      refine ok_bn (s_X12_half qσ86_2920) (fun r23_2965 qr23_2965 => ?_)
      refine ok_nm (fun x24_2966 hx24_2966 => ?_)
      refine ok_bn (s_X12_within qσ86_2920) (fun r25_2967 qr25_2967 => ?_)
      refine ok_if (fun c_2968 => ?_) (fun c_2968 => ?_)
      · refine ok_bn (s_X12_size qσ86_2920) (fun r63_2969 qr63_2969 => ?_)
        refine ok_nm (fun x64_2970 hx64_2970 => ?_)
        refine ok_bn (s_X12_size qσ86_2920) (fun r65_2971 qr65_2971 => ?_)
        refine ok_nm (fun x66_2972 hx66_2972 => ?_)
        refine ok_bn (s_X12_tellsOf (rg_w (show rg (199 : Int32) (199) (199) from ⟨by decide, by decide⟩) (by decide) (by decide)) qσ86_2920) (fun r67_2973 qr67_2973 => ?_)
        refine ok_if (fun c_2974 => ?_) (fun c_2974 => ?_)
        · unfold F_X12_cuts_286
          refine ok_nm (fun σ28_2975 hσ28_2975 => ?_)
          have bσ28_2975 : BF g m σ28_2975 := by rw [hσ28_2975]; exact bf_set qσ86_2920 (rg_any _) (by decide)
          refine ok_nm (fun σ30_2976 hσ30_2976 => ?_)
          have bσ30_2976 : BF g m σ30_2976 := by rw [hσ30_2976]; exact bf_set bσ28_2975 (rg_any _) (by decide)
          refine ok_nm (fun σ32_2977 hσ32_2977 => ?_)
          have bσ32_2977 : BF g m σ32_2977 := by rw [hσ32_2977]; exact bf_set bσ30_2976 (rg_any _) (by decide)
          exact ok_mono (s_X12_cuts_305 r_a1 1024 _ _ _ _ _ _ r_a1 (rg_w (show rg (0 : Int32) (0) (0) from ⟨by decide, by decide⟩) (by decide) (by decide)) (ms_0 (show rg (0 : Int32) (0) (0) from ⟨by decide, by decide⟩) (by decide)) bσ32_2977) (fun q hq => ⟨rg_w hq.1 (by decide) (by decide), hq.2⟩)
        · refine ok_nm (fun σ70_2978 hσ70_2978 => ?_)
          have bσ70_2978 : BF g m σ70_2978 := by rw [hσ70_2978]; exact bf_set qσ86_2920 (rg_any _) (by decide)
          refine ok_nm (fun σ72_2979 hσ72_2979 => ?_)
          have bσ72_2979 : BF g m σ72_2979 := by rw [hσ72_2979]; exact bf_set bσ70_2978 (rg_any _) (by decide)
          refine ok_nm (fun σ74_2980 hσ74_2980 => ?_)
          have bσ74_2980 : BF g m σ74_2980 := by rw [hσ74_2980]; exact bf_set bσ72_2979 (rg_any _) (by decide)
          refine ok_nm (fun σ76_2981 hσ76_2981 => ?_)
          have bσ76_2981 : BF g m σ76_2981 := by rw [hσ76_2981]; exact bf_set bσ74_2980 (rg_any _) (by decide)
          exact ok_some ⟨(rg_w (show rg (0 : Int32) (0) (0) from ⟨by decide, by decide⟩) (by decide) (by decide)), bσ76_2981⟩
      · unfold F_X12_cuts_286
        refine ok_nm (fun σ28_2982 hσ28_2982 => ?_)
        have bσ28_2982 : BF g m σ28_2982 := by rw [hσ28_2982]; exact bf_set qσ86_2920 (rg_any _) (by decide)
        refine ok_nm (fun σ30_2983 hσ30_2983 => ?_)
        have bσ30_2983 : BF g m σ30_2983 := by rw [hσ30_2983]; exact bf_set bσ28_2982 (rg_any _) (by decide)
        refine ok_nm (fun σ32_2984 hσ32_2984 => ?_)
        have bσ32_2984 : BF g m σ32_2984 := by rw [hσ32_2984]; exact bf_set bσ30_2983 (rg_any _) (by decide)
        exact ok_mono (s_X12_cuts_305 r_a1 1024 _ _ _ _ _ _ r_a1 (rg_w (show rg (0 : Int32) (0) (0) from ⟨by decide, by decide⟩) (by decide) (by decide)) (ms_0 (show rg (0 : Int32) (0) (0) from ⟨by decide, by decide⟩) (by decide)) bσ32_2984) (fun q hq => ⟨rg_w hq.1 (by decide) (by decide), hq.2⟩)
  · refine ok_nm (fun x5_2985 hx5_2985 => ?_)
    refine ok_gd (rg_inb (rg_eq (hx5_2985.trans hx2_2918.symm) (rg_eq hx2_2918 (rg_add (l := 20) (h := 25) (show rg (20 : Int32) (20) (20) from ⟨by decide, by decide⟩) r_a1 (by decide) (by decide) (by decide) (by decide)))) (by decide) (by decide)) ?_
    refine ok_if (fun c_2986 => ?_) (fun c_2986 => ?_)
    · refine ok_nm (fun x83_2987 hx83_2987 => ?_)
      refine ok_nm (fun σ85_2988 hσ85_2988 => ?_)
      have bσ85_2988 : BF g m σ85_2988 := by rw [hσ85_2988]; exact bf_set qσ1_2917 (rg_any _) (by decide)
      unfold F_X12_cuts_83
      refine ok_nm (fun x8_2989 hx8_2989 => ?_)
      refine ok_nm (fun x9_2990 hx9_2990 => ?_)
      refine ok_gd (rg_inb (rg_eq (hx9_2990.trans hx5_2985.symm) (rg_eq (hx5_2985.trans hx2_2918.symm) (rg_eq hx2_2918 (rg_add (l := 20) (h := 25) (show rg (20 : Int32) (20) (20) from ⟨by decide, by decide⟩) r_a1 (by decide) (by decide) (by decide) (by decide))))) (by decide) (by decide)) ?_
      refine ok_if (fun c_2991 => ?_) (fun c_2991 => ?_)
      · refine ok_nm (fun x77_2992 hx77_2992 => ?_)
        refine ok_nm (fun x78_2993 hx78_2993 => ?_)
        refine ok_nm (fun x79_2994 hx79_2994 => ?_)
        refine ok_nm (fun x80_2995 hx80_2995 => ?_)
        refine ok_gd (rg_inb (rg_eq hx80_2995 (rg_add (l := 47) (h := 73) (rg_eq hx78_2993 (rg_add (l := 50) (h := 70) (show rg (50 : Int32) (50) (50) from ⟨by decide, by decide⟩) (rg_eq hx77_2992 (rg_mul (h := 20) (show rg (4 : Int32) (4) (4) from ⟨by decide, by decide⟩) r_a1 (by decide) (by decide) (by decide) (by decide))) (by decide) (by decide) (by decide) (by decide))) (rg_eq hx79_2994 (rg_rem (show rg (4 : Int32) (4) (4) from ⟨by decide, by decide⟩) (by decide))) (by decide) (by decide) (by decide) (by decide))) (by decide) (by decide)) ?_
        refine ok_nm (fun x82_2996 hx82_2996 => ?_)
        unfold F_X12_cuts_145
        refine ok_bn (s_X12_slant r_a1 bσ85_2988) (fun r15_2997 qr15_2997 => ?_)
        refine ok_bn (s_X12_half bσ85_2988) (fun r16_2998 qr16_2998 => ?_)
        refine ok_nm (fun x17_2999 hx17_2999 => ?_)
        refine ok_bn (s_X12_within bσ85_2988) (fun r18_3000 qr18_3000 => ?_)
        refine ok_nm (fun x19_3001 hx19_3001 => ?_)
        refine ok_gd (rg_inb (rg_eq hx19_3001 (rg_add (l := 38) (h := 43) (show rg (38 : Int32) (38) (38) from ⟨by decide, by decide⟩) r_a1 (by decide) (by decide) (by decide) (by decide))) (by decide) (by decide)) ?_
        refine ok_bn (s_X12_half bσ85_2988) (fun r21_3002 qr21_3002 => ?_)
        refine ok_bn (s_X12_slant r_a1 bσ85_2988) (fun r22_3003 qr22_3003 => ?_)
        refine ok_bn (s_X12_half bσ85_2988) (fun r23_3004 qr23_3004 => ?_)
        refine ok_nm (fun x24_3005 hx24_3005 => ?_)
        refine ok_bn (s_X12_within bσ85_2988) (fun r25_3006 qr25_3006 => ?_)
        refine ok_if (fun c_3007 => ?_) (fun c_3007 => ?_)
        · refine ok_bn (s_X12_size bσ85_2988) (fun r63_3008 qr63_3008 => ?_)
          refine ok_nm (fun x64_3009 hx64_3009 => ?_)
          refine ok_bn (s_X12_size bσ85_2988) (fun r65_3010 qr65_3010 => ?_)
          refine ok_nm (fun x66_3011 hx66_3011 => ?_)
          refine ok_bn (s_X12_tellsOf (rg_w (show rg (199 : Int32) (199) (199) from ⟨by decide, by decide⟩) (by decide) (by decide)) bσ85_2988) (fun r67_3012 qr67_3012 => ?_)
          refine ok_if (fun c_3013 => ?_) (fun c_3013 => ?_)
          · unfold F_X12_cuts_286
            refine ok_nm (fun σ28_3014 hσ28_3014 => ?_)
            have bσ28_3014 : BF g m σ28_3014 := by rw [hσ28_3014]; exact bf_set bσ85_2988 (rg_any _) (by decide)
            refine ok_nm (fun σ30_3015 hσ30_3015 => ?_)
            have bσ30_3015 : BF g m σ30_3015 := by rw [hσ30_3015]; exact bf_set bσ28_3014 (rg_any _) (by decide)
            refine ok_nm (fun σ32_3016 hσ32_3016 => ?_)
            have bσ32_3016 : BF g m σ32_3016 := by rw [hσ32_3016]; exact bf_set bσ30_3015 (rg_any _) (by decide)
            exact ok_mono (s_X12_cuts_305 r_a1 1024 _ _ _ _ _ _ r_a1 (rg_w (show rg (0 : Int32) (0) (0) from ⟨by decide, by decide⟩) (by decide) (by decide)) (ms_0 (show rg (0 : Int32) (0) (0) from ⟨by decide, by decide⟩) (by decide)) bσ32_3016) (fun q hq => ⟨rg_w hq.1 (by decide) (by decide), hq.2⟩)
          · refine ok_nm (fun σ70_3017 hσ70_3017 => ?_)
            have bσ70_3017 : BF g m σ70_3017 := by rw [hσ70_3017]; exact bf_set bσ85_2988 (rg_any _) (by decide)
            refine ok_nm (fun σ72_3018 hσ72_3018 => ?_)
            have bσ72_3018 : BF g m σ72_3018 := by rw [hσ72_3018]; exact bf_set bσ70_3017 (rg_any _) (by decide)
            refine ok_nm (fun σ74_3019 hσ74_3019 => ?_)
            have bσ74_3019 : BF g m σ74_3019 := by rw [hσ74_3019]; exact bf_set bσ72_3018 (rg_any _) (by decide)
            refine ok_nm (fun σ76_3020 hσ76_3020 => ?_)
            have bσ76_3020 : BF g m σ76_3020 := by rw [hσ76_3020]; exact bf_set bσ74_3019 (rg_any _) (by decide)
            exact ok_some ⟨(rg_w (show rg (0 : Int32) (0) (0) from ⟨by decide, by decide⟩) (by decide) (by decide)), bσ76_3020⟩
        · unfold F_X12_cuts_286
          refine ok_nm (fun σ28_3021 hσ28_3021 => ?_)
          have bσ28_3021 : BF g m σ28_3021 := by rw [hσ28_3021]; exact bf_set bσ85_2988 (rg_any _) (by decide)
          refine ok_nm (fun σ30_3022 hσ30_3022 => ?_)
          have bσ30_3022 : BF g m σ30_3022 := by rw [hσ30_3022]; exact bf_set bσ28_3021 (rg_any _) (by decide)
          refine ok_nm (fun σ32_3023 hσ32_3023 => ?_)
          have bσ32_3023 : BF g m σ32_3023 := by rw [hσ32_3023]; exact bf_set bσ30_3022 (rg_any _) (by decide)
          exact ok_mono (s_X12_cuts_305 r_a1 1024 _ _ _ _ _ _ r_a1 (rg_w (show rg (0 : Int32) (0) (0) from ⟨by decide, by decide⟩) (by decide) (by decide)) (ms_0 (show rg (0 : Int32) (0) (0) from ⟨by decide, by decide⟩) (by decide)) bσ32_3023) (fun q hq => ⟨rg_w hq.1 (by decide) (by decide), hq.2⟩)
      · refine ok_nm (fun x12_3024 hx12_3024 => ?_)
        refine ok_gd (rg_inb (rg_eq hx12_3024 (rg_add (l := 32) (h := 37) (show rg (32 : Int32) (32) (32) from ⟨by decide, by decide⟩) r_a1 (by decide) (by decide) (by decide) (by decide))) (by decide) (by decide)) ?_
        refine ok_bn (s_X12_half bσ85_2988) (fun r14_3025 qr14_3025 => ?_)
        unfold F_X12_cuts_145
        refine ok_bn (s_X12_slant r_a1 bσ85_2988) (fun r15_3026 qr15_3026 => ?_)
        refine ok_bn (s_X12_half bσ85_2988) (fun r16_3027 qr16_3027 => ?_)
        refine ok_nm (fun x17_3028 hx17_3028 => ?_)
        refine ok_bn (s_X12_within bσ85_2988) (fun r18_3029 qr18_3029 => ?_)
        refine ok_nm (fun x19_3030 hx19_3030 => ?_)
        refine ok_gd (rg_inb (rg_eq hx19_3030 (rg_add (l := 38) (h := 43) (show rg (38 : Int32) (38) (38) from ⟨by decide, by decide⟩) r_a1 (by decide) (by decide) (by decide) (by decide))) (by decide) (by decide)) ?_
        refine ok_bn (s_X12_half bσ85_2988) (fun r21_3031 qr21_3031 => ?_)
        refine ok_bn (s_X12_slant r_a1 bσ85_2988) (fun r22_3032 qr22_3032 => ?_)
        refine ok_bn (s_X12_half bσ85_2988) (fun r23_3033 qr23_3033 => ?_)
        refine ok_nm (fun x24_3034 hx24_3034 => ?_)
        refine ok_bn (s_X12_within bσ85_2988) (fun r25_3035 qr25_3035 => ?_)
        refine ok_if (fun c_3036 => ?_) (fun c_3036 => ?_)
        · refine ok_bn (s_X12_size bσ85_2988) (fun r63_3037 qr63_3037 => ?_)
          refine ok_nm (fun x64_3038 hx64_3038 => ?_)
          refine ok_bn (s_X12_size bσ85_2988) (fun r65_3039 qr65_3039 => ?_)
          refine ok_nm (fun x66_3040 hx66_3040 => ?_)
          refine ok_bn (s_X12_tellsOf (rg_w (show rg (199 : Int32) (199) (199) from ⟨by decide, by decide⟩) (by decide) (by decide)) bσ85_2988) (fun r67_3041 qr67_3041 => ?_)
          refine ok_if (fun c_3042 => ?_) (fun c_3042 => ?_)
          · unfold F_X12_cuts_286
            refine ok_nm (fun σ28_3043 hσ28_3043 => ?_)
            have bσ28_3043 : BF g m σ28_3043 := by rw [hσ28_3043]; exact bf_set bσ85_2988 (rg_any _) (by decide)
            refine ok_nm (fun σ30_3044 hσ30_3044 => ?_)
            have bσ30_3044 : BF g m σ30_3044 := by rw [hσ30_3044]; exact bf_set bσ28_3043 (rg_any _) (by decide)
            refine ok_nm (fun σ32_3045 hσ32_3045 => ?_)
            have bσ32_3045 : BF g m σ32_3045 := by rw [hσ32_3045]; exact bf_set bσ30_3044 (rg_any _) (by decide)
            exact ok_mono (s_X12_cuts_305 r_a1 1024 _ _ _ _ _ _ r_a1 (rg_w (show rg (0 : Int32) (0) (0) from ⟨by decide, by decide⟩) (by decide) (by decide)) (ms_0 (show rg (0 : Int32) (0) (0) from ⟨by decide, by decide⟩) (by decide)) bσ32_3045) (fun q hq => ⟨rg_w hq.1 (by decide) (by decide), hq.2⟩)
          · refine ok_nm (fun σ70_3046 hσ70_3046 => ?_)
            have bσ70_3046 : BF g m σ70_3046 := by rw [hσ70_3046]; exact bf_set bσ85_2988 (rg_any _) (by decide)
            refine ok_nm (fun σ72_3047 hσ72_3047 => ?_)
            have bσ72_3047 : BF g m σ72_3047 := by rw [hσ72_3047]; exact bf_set bσ70_3046 (rg_any _) (by decide)
            refine ok_nm (fun σ74_3048 hσ74_3048 => ?_)
            have bσ74_3048 : BF g m σ74_3048 := by rw [hσ74_3048]; exact bf_set bσ72_3047 (rg_any _) (by decide)
            refine ok_nm (fun σ76_3049 hσ76_3049 => ?_)
            have bσ76_3049 : BF g m σ76_3049 := by rw [hσ76_3049]; exact bf_set bσ74_3048 (rg_any _) (by decide)
            exact ok_some ⟨(rg_w (show rg (0 : Int32) (0) (0) from ⟨by decide, by decide⟩) (by decide) (by decide)), bσ76_3049⟩
        · unfold F_X12_cuts_286
          refine ok_nm (fun σ28_3050 hσ28_3050 => ?_)
          have bσ28_3050 : BF g m σ28_3050 := by rw [hσ28_3050]; exact bf_set bσ85_2988 (rg_any _) (by decide)
          refine ok_nm (fun σ30_3051 hσ30_3051 => ?_)
          have bσ30_3051 : BF g m σ30_3051 := by rw [hσ30_3051]; exact bf_set bσ28_3050 (rg_any _) (by decide)
          refine ok_nm (fun σ32_3052 hσ32_3052 => ?_)
          have bσ32_3052 : BF g m σ32_3052 := by rw [hσ32_3052]; exact bf_set bσ30_3051 (rg_any _) (by decide)
          exact ok_mono (s_X12_cuts_305 r_a1 1024 _ _ _ _ _ _ r_a1 (rg_w (show rg (0 : Int32) (0) (0) from ⟨by decide, by decide⟩) (by decide) (by decide)) (ms_0 (show rg (0 : Int32) (0) (0) from ⟨by decide, by decide⟩) (by decide)) bσ32_3052) (fun q hq => ⟨rg_w hq.1 (by decide) (by decide), hq.2⟩)
    · unfold F_X12_cuts_83
      refine ok_nm (fun x8_3053 hx8_3053 => ?_)
      refine ok_nm (fun x9_3054 hx9_3054 => ?_)
      refine ok_gd (rg_inb (rg_eq (hx9_3054.trans hx5_2985.symm) (rg_eq (hx5_2985.trans hx2_2918.symm) (rg_eq hx2_2918 (rg_add (l := 20) (h := 25) (show rg (20 : Int32) (20) (20) from ⟨by decide, by decide⟩) r_a1 (by decide) (by decide) (by decide) (by decide))))) (by decide) (by decide)) ?_
      refine ok_if (fun c_3055 => ?_) (fun c_3055 => ?_)
      · refine ok_nm (fun x77_3056 hx77_3056 => ?_)
        refine ok_nm (fun x78_3057 hx78_3057 => ?_)
        refine ok_nm (fun x79_3058 hx79_3058 => ?_)
        refine ok_nm (fun x80_3059 hx80_3059 => ?_)
        refine ok_gd (rg_inb (rg_eq hx80_3059 (rg_add (l := 47) (h := 73) (rg_eq hx78_3057 (rg_add (l := 50) (h := 70) (show rg (50 : Int32) (50) (50) from ⟨by decide, by decide⟩) (rg_eq hx77_3056 (rg_mul (h := 20) (show rg (4 : Int32) (4) (4) from ⟨by decide, by decide⟩) r_a1 (by decide) (by decide) (by decide) (by decide))) (by decide) (by decide) (by decide) (by decide))) (rg_eq hx79_3058 (rg_rem (show rg (4 : Int32) (4) (4) from ⟨by decide, by decide⟩) (by decide))) (by decide) (by decide) (by decide) (by decide))) (by decide) (by decide)) ?_
        refine ok_nm (fun x82_3060 hx82_3060 => ?_)
        unfold F_X12_cuts_145
        refine ok_bn (s_X12_slant r_a1 qσ1_2917) (fun r15_3061 qr15_3061 => ?_)
        refine ok_bn (s_X12_half qσ1_2917) (fun r16_3062 qr16_3062 => ?_)
        refine ok_nm (fun x17_3063 hx17_3063 => ?_)
        refine ok_bn (s_X12_within qσ1_2917) (fun r18_3064 qr18_3064 => ?_)
        refine ok_nm (fun x19_3065 hx19_3065 => ?_)
        refine ok_gd (rg_inb (rg_eq hx19_3065 (rg_add (l := 38) (h := 43) (show rg (38 : Int32) (38) (38) from ⟨by decide, by decide⟩) r_a1 (by decide) (by decide) (by decide) (by decide))) (by decide) (by decide)) ?_
        refine ok_bn (s_X12_half qσ1_2917) (fun r21_3066 qr21_3066 => ?_)
        refine ok_bn (s_X12_slant r_a1 qσ1_2917) (fun r22_3067 qr22_3067 => ?_)
        refine ok_bn (s_X12_half qσ1_2917) (fun r23_3068 qr23_3068 => ?_)
        refine ok_nm (fun x24_3069 hx24_3069 => ?_)
        refine ok_bn (s_X12_within qσ1_2917) (fun r25_3070 qr25_3070 => ?_)
        refine ok_if (fun c_3071 => ?_) (fun c_3071 => ?_)
        · refine ok_bn (s_X12_size qσ1_2917) (fun r63_3072 qr63_3072 => ?_)
          refine ok_nm (fun x64_3073 hx64_3073 => ?_)
          refine ok_bn (s_X12_size qσ1_2917) (fun r65_3074 qr65_3074 => ?_)
          refine ok_nm (fun x66_3075 hx66_3075 => ?_)
          refine ok_bn (s_X12_tellsOf (rg_w (show rg (199 : Int32) (199) (199) from ⟨by decide, by decide⟩) (by decide) (by decide)) qσ1_2917) (fun r67_3076 qr67_3076 => ?_)
          refine ok_if (fun c_3077 => ?_) (fun c_3077 => ?_)
          · unfold F_X12_cuts_286
            refine ok_nm (fun σ28_3078 hσ28_3078 => ?_)
            have bσ28_3078 : BF g m σ28_3078 := by rw [hσ28_3078]; exact bf_set qσ1_2917 (rg_any _) (by decide)
            refine ok_nm (fun σ30_3079 hσ30_3079 => ?_)
            have bσ30_3079 : BF g m σ30_3079 := by rw [hσ30_3079]; exact bf_set bσ28_3078 (rg_any _) (by decide)
            refine ok_nm (fun σ32_3080 hσ32_3080 => ?_)
            have bσ32_3080 : BF g m σ32_3080 := by rw [hσ32_3080]; exact bf_set bσ30_3079 (rg_any _) (by decide)
            exact ok_mono (s_X12_cuts_305 r_a1 1024 _ _ _ _ _ _ r_a1 (rg_w (show rg (0 : Int32) (0) (0) from ⟨by decide, by decide⟩) (by decide) (by decide)) (ms_0 (show rg (0 : Int32) (0) (0) from ⟨by decide, by decide⟩) (by decide)) bσ32_3080) (fun q hq => ⟨rg_w hq.1 (by decide) (by decide), hq.2⟩)
          · refine ok_nm (fun σ70_3081 hσ70_3081 => ?_)
            have bσ70_3081 : BF g m σ70_3081 := by rw [hσ70_3081]; exact bf_set qσ1_2917 (rg_any _) (by decide)
            refine ok_nm (fun σ72_3082 hσ72_3082 => ?_)
            have bσ72_3082 : BF g m σ72_3082 := by rw [hσ72_3082]; exact bf_set bσ70_3081 (rg_any _) (by decide)
            refine ok_nm (fun σ74_3083 hσ74_3083 => ?_)
            have bσ74_3083 : BF g m σ74_3083 := by rw [hσ74_3083]; exact bf_set bσ72_3082 (rg_any _) (by decide)
            refine ok_nm (fun σ76_3084 hσ76_3084 => ?_)
            have bσ76_3084 : BF g m σ76_3084 := by rw [hσ76_3084]; exact bf_set bσ74_3083 (rg_any _) (by decide)
            exact ok_some ⟨(rg_w (show rg (0 : Int32) (0) (0) from ⟨by decide, by decide⟩) (by decide) (by decide)), bσ76_3084⟩
        · unfold F_X12_cuts_286
          refine ok_nm (fun σ28_3085 hσ28_3085 => ?_)
          have bσ28_3085 : BF g m σ28_3085 := by rw [hσ28_3085]; exact bf_set qσ1_2917 (rg_any _) (by decide)
          refine ok_nm (fun σ30_3086 hσ30_3086 => ?_)
          have bσ30_3086 : BF g m σ30_3086 := by rw [hσ30_3086]; exact bf_set bσ28_3085 (rg_any _) (by decide)
          refine ok_nm (fun σ32_3087 hσ32_3087 => ?_)
          have bσ32_3087 : BF g m σ32_3087 := by rw [hσ32_3087]; exact bf_set bσ30_3086 (rg_any _) (by decide)
          exact ok_mono (s_X12_cuts_305 r_a1 1024 _ _ _ _ _ _ r_a1 (rg_w (show rg (0 : Int32) (0) (0) from ⟨by decide, by decide⟩) (by decide) (by decide)) (ms_0 (show rg (0 : Int32) (0) (0) from ⟨by decide, by decide⟩) (by decide)) bσ32_3087) (fun q hq => ⟨rg_w hq.1 (by decide) (by decide), hq.2⟩)
      · refine ok_nm (fun x12_3088 hx12_3088 => ?_)
        refine ok_gd (rg_inb (rg_eq hx12_3088 (rg_add (l := 32) (h := 37) (show rg (32 : Int32) (32) (32) from ⟨by decide, by decide⟩) r_a1 (by decide) (by decide) (by decide) (by decide))) (by decide) (by decide)) ?_
        refine ok_bn (s_X12_half qσ1_2917) (fun r14_3089 qr14_3089 => ?_)
        unfold F_X12_cuts_145
        refine ok_bn (s_X12_slant r_a1 qσ1_2917) (fun r15_3090 qr15_3090 => ?_)
        refine ok_bn (s_X12_half qσ1_2917) (fun r16_3091 qr16_3091 => ?_)
        refine ok_nm (fun x17_3092 hx17_3092 => ?_)
        refine ok_bn (s_X12_within qσ1_2917) (fun r18_3093 qr18_3093 => ?_)
        refine ok_nm (fun x19_3094 hx19_3094 => ?_)
        refine ok_gd (rg_inb (rg_eq hx19_3094 (rg_add (l := 38) (h := 43) (show rg (38 : Int32) (38) (38) from ⟨by decide, by decide⟩) r_a1 (by decide) (by decide) (by decide) (by decide))) (by decide) (by decide)) ?_
        refine ok_bn (s_X12_half qσ1_2917) (fun r21_3095 qr21_3095 => ?_)
        refine ok_bn (s_X12_slant r_a1 qσ1_2917) (fun r22_3096 qr22_3096 => ?_)
        refine ok_bn (s_X12_half qσ1_2917) (fun r23_3097 qr23_3097 => ?_)
        refine ok_nm (fun x24_3098 hx24_3098 => ?_)
        refine ok_bn (s_X12_within qσ1_2917) (fun r25_3099 qr25_3099 => ?_)
        refine ok_if (fun c_3100 => ?_) (fun c_3100 => ?_)
        · refine ok_bn (s_X12_size qσ1_2917) (fun r63_3101 qr63_3101 => ?_)
          refine ok_nm (fun x64_3102 hx64_3102 => ?_)
          refine ok_bn (s_X12_size qσ1_2917) (fun r65_3103 qr65_3103 => ?_)
          refine ok_nm (fun x66_3104 hx66_3104 => ?_)
          refine ok_bn (s_X12_tellsOf (rg_w (show rg (199 : Int32) (199) (199) from ⟨by decide, by decide⟩) (by decide) (by decide)) qσ1_2917) (fun r67_3105 qr67_3105 => ?_)
          refine ok_if (fun c_3106 => ?_) (fun c_3106 => ?_)
          · unfold F_X12_cuts_286
            refine ok_nm (fun σ28_3107 hσ28_3107 => ?_)
            have bσ28_3107 : BF g m σ28_3107 := by rw [hσ28_3107]; exact bf_set qσ1_2917 (rg_any _) (by decide)
            refine ok_nm (fun σ30_3108 hσ30_3108 => ?_)
            have bσ30_3108 : BF g m σ30_3108 := by rw [hσ30_3108]; exact bf_set bσ28_3107 (rg_any _) (by decide)
            refine ok_nm (fun σ32_3109 hσ32_3109 => ?_)
            have bσ32_3109 : BF g m σ32_3109 := by rw [hσ32_3109]; exact bf_set bσ30_3108 (rg_any _) (by decide)
            exact ok_mono (s_X12_cuts_305 r_a1 1024 _ _ _ _ _ _ r_a1 (rg_w (show rg (0 : Int32) (0) (0) from ⟨by decide, by decide⟩) (by decide) (by decide)) (ms_0 (show rg (0 : Int32) (0) (0) from ⟨by decide, by decide⟩) (by decide)) bσ32_3109) (fun q hq => ⟨rg_w hq.1 (by decide) (by decide), hq.2⟩)
          · refine ok_nm (fun σ70_3110 hσ70_3110 => ?_)
            have bσ70_3110 : BF g m σ70_3110 := by rw [hσ70_3110]; exact bf_set qσ1_2917 (rg_any _) (by decide)
            refine ok_nm (fun σ72_3111 hσ72_3111 => ?_)
            have bσ72_3111 : BF g m σ72_3111 := by rw [hσ72_3111]; exact bf_set bσ70_3110 (rg_any _) (by decide)
            refine ok_nm (fun σ74_3112 hσ74_3112 => ?_)
            have bσ74_3112 : BF g m σ74_3112 := by rw [hσ74_3112]; exact bf_set bσ72_3111 (rg_any _) (by decide)
            refine ok_nm (fun σ76_3113 hσ76_3113 => ?_)
            have bσ76_3113 : BF g m σ76_3113 := by rw [hσ76_3113]; exact bf_set bσ74_3112 (rg_any _) (by decide)
            exact ok_some ⟨(rg_w (show rg (0 : Int32) (0) (0) from ⟨by decide, by decide⟩) (by decide) (by decide)), bσ76_3113⟩
        · unfold F_X12_cuts_286
          refine ok_nm (fun σ28_3114 hσ28_3114 => ?_)
          have bσ28_3114 : BF g m σ28_3114 := by rw [hσ28_3114]; exact bf_set qσ1_2917 (rg_any _) (by decide)
          refine ok_nm (fun σ30_3115 hσ30_3115 => ?_)
          have bσ30_3115 : BF g m σ30_3115 := by rw [hσ30_3115]; exact bf_set bσ28_3114 (rg_any _) (by decide)
          refine ok_nm (fun σ32_3116 hσ32_3116 => ?_)
          have bσ32_3116 : BF g m σ32_3116 := by rw [hσ32_3116]; exact bf_set bσ30_3115 (rg_any _) (by decide)
          exact ok_mono (s_X12_cuts_305 r_a1 1024 _ _ _ _ _ _ r_a1 (rg_w (show rg (0 : Int32) (0) (0) from ⟨by decide, by decide⟩) (by decide) (by decide)) (ms_0 (show rg (0 : Int32) (0) (0) from ⟨by decide, by decide⟩) (by decide)) bσ32_3116) (fun q hq => ⟨rg_w hq.1 (by decide) (by decide), hq.2⟩)

set_option maxHeartbeats 4000000 in
set_option maxRecDepth 100000 in
theorem s_X12_isGood {g : Nat → Int32} {m : Int} {σ : SG} {ρ : RG} (hB : BF g m σ) : ok (F_X12_isGood σ ρ) (fun q => rg q (0) (1)) := by
  unfold F_X12_isGood
  refine ok_bn (s_X12_tellsOf (rg_w (show rg (194 : Int32) (194) (194) from ⟨by decide, by decide⟩) (by decide) (by decide)) hB) (fun r1_3119 qr1_3119 => ?_)
  refine ok_if (fun c_3120 => ?_) (fun c_3120 => ?_)
  · exact ok_some (rg_w (show rg (0 : Int32) (0) (0) from ⟨by decide, by decide⟩) (by decide) (by decide))
  · exact ok_some (rg_w (show rg (1 : Int32) (1) (1) from ⟨by decide, by decide⟩) (by decide) (by decide))

set_option maxHeartbeats 4000000 in
set_option maxRecDepth 100000 in
theorem s_X12_cut {g : Nat → Int32} {m : Int} {a1 : Int32} {σ : SG} {ρ : RG} (hB : BF g m σ) : ok (F_X12_cut a1 σ ρ) (fun q => rg q.1 (-2147483648) (2147483647) ∧ BF g m q.2) := by
  unfold F_X12_cut
  refine ok_bn (s_X12_isCutter hB.1) (fun r1_3130 qr1_3130 => ?_)
  refine ok_if (fun c_3131 => ?_) (fun c_3131 => ?_)
  · exact ok_some ⟨(rg_w (show rg (-1 : Int32) (-1) (-1) from ⟨by decide, by decide⟩) (by decide) (by decide)), hB⟩
  · obtain ⟨w_3132, w_3133⟩ := qr1_3130.2 c_3131
    refine ok_if (fun c_3134 => ?_) (fun c_3134 => ?_)
    · exact ok_some ⟨(rg_w (show rg (-3 : Int32) (-3) (-3) from ⟨by decide, by decide⟩) (by decide) (by decide)), hB⟩
    · refine ok_nm (fun x4_3135 hx4_3135 => ?_)
      refine ok_gd (rg_inb (rg_eq hx4_3135 (rg_add (l := 44) (h := 49) (show rg (44 : Int32) (44) (44) from ⟨by decide, by decide⟩) (rg_le w_3133 (rg_ge w_3132 (show rg (0 : Int32) (0) (0) from ⟨by decide, by decide⟩) (rg_any _)) (show rg (5 : Int32) (5) (5) from ⟨by decide, by decide⟩)) (by decide) (by decide) (by decide) (by decide))) (by decide) (by decide)) ?_
      refine ok_bn2 (s_X12_cuts (rg_le w_3133 (rg_ge w_3132 (show rg (0 : Int32) (0) (0) from ⟨by decide, by decide⟩) (rg_any _)) (show rg (5 : Int32) (5) (5) from ⟨by decide, by decide⟩)) hB) (fun r6_3136 σ6_3137 qr6_3136 => ?_)
      obtain ⟨hr6_3136, bσ6_3137⟩ := qr6_3136
      refine ok_if (fun c_3138 => ?_) (fun c_3138 => ?_)
      · exact ok_some ⟨(rg_w (show rg (-3 : Int32) (-3) (-3) from ⟨by decide, by decide⟩) (by decide) (by decide)), bσ6_3137⟩
      · exact ok_some ⟨(rg_any _), bσ6_3137⟩

set_option maxHeartbeats 4000000 in
set_option maxRecDepth 100000 in
theorem s_X12_right {g : Nat → Int32} {m : Int} {σ : SG} {ρ : RG} (hB : BF g m σ) : ok (F_X12_right σ ρ) (fun q => rg q.1 (-2147483648) (2147483647) ∧ BF g m q.2) := by
  unfold F_X12_right
  refine ok_bn (s_X12_leastCorner hB) (fun r1_3144 qr1_3144 => ?_)
  refine ok_bn (s_X12_tellsOf (rg_w (show rg (199 : Int32) (199) (199) from ⟨by decide, by decide⟩) (by decide) (by decide)) hB) (fun r2_3145 qr2_3145 => ?_)
  refine ok_if (fun c_3146 => ?_) (fun c_3146 => ?_)
  · refine ok_bn (s_X12_rights hB) (fun σ4_3147 qσ4_3147 => ?_)
    refine ok_nm (fun x5_3148 hx5_3148 => ?_)
    exact ok_some ⟨(rg_any _), qσ4_3147⟩
  · exact ok_some ⟨(rg_w (show rg (-3 : Int32) (-3) (-3) from ⟨by decide, by decide⟩) (by decide) (by decide)), hB⟩

set_option maxHeartbeats 4000000 in
set_option maxRecDepth 100000 in
theorem s_X12_turn {g : Nat → Int32} {m : Int} {a1 : Int32} {σ : SG} {ρ : RG} (hB : BF g m σ) : ok (F_X12_turn a1 σ ρ) (fun q => rg q.1 (-2147483648) (2147483647) ∧ BF g m q.2) := by
  unfold F_X12_turn
  refine ok_if (fun c_3154 => ?_) (fun c_3154 => ?_)
  · unfold F_X12_turn_9
    refine ok_gd (rg_inb (show rg (1 : Int32) (1) (1) from ⟨by decide, by decide⟩) (by decide) (by decide)) ?_
    refine ok_nm (fun x3_3155 hx3_3155 => ?_)
    refine ok_gd (rg_inb (show rg (1 : Int32) (1) (1) from ⟨by decide, by decide⟩) (by decide) (by decide)) ?_
    refine ok_nm (fun σ6_3156 hσ6_3156 => ?_)
    have bσ6_3156 : BF g m σ6_3156 := by rw [hσ6_3156]; exact bf_setx hB (a := 1) (b := 1) (show rg (1 : Int32) (1) (1) from ⟨by decide, by decide⟩) (rg_any _) (by decide)
    refine ok_gd (rg_inb (show rg (1 : Int32) (1) (1) from ⟨by decide, by decide⟩) (by decide) (by decide)) ?_
    exact ok_some ⟨(rg_any _), bσ6_3156⟩
  · unfold F_X12_turn_9
    refine ok_gd (rg_inb (show rg (2 : Int32) (2) (2) from ⟨by decide, by decide⟩) (by decide) (by decide)) ?_
    refine ok_nm (fun x3_3157 hx3_3157 => ?_)
    refine ok_gd (rg_inb (show rg (2 : Int32) (2) (2) from ⟨by decide, by decide⟩) (by decide) (by decide)) ?_
    refine ok_nm (fun σ6_3158 hσ6_3158 => ?_)
    have bσ6_3158 : BF g m σ6_3158 := by rw [hσ6_3158]; exact bf_setx hB (a := 2) (b := 2) (show rg (2 : Int32) (2) (2) from ⟨by decide, by decide⟩) (rg_any _) (by decide)
    refine ok_gd (rg_inb (show rg (2 : Int32) (2) (2) from ⟨by decide, by decide⟩) (by decide) (by decide)) ?_
    exact ok_some ⟨(rg_any _), bσ6_3158⟩

set_option maxHeartbeats 4000000 in
set_option maxRecDepth 100000 in
theorem s_X12_would {g : Nat → Int32} {m : Int} {a1 : Int32} {a2 : Int32} {σ : SG} {ρ : RG} (hB : BF g m σ) : ok (F_X12_would a1 a2 σ ρ) (fun q => rg q.1 (-2147483648) (2147483647) ∧ BF g m q.2) := by
  unfold F_X12_would
  refine ok_bn (s_X12_isCutter hB.1) (fun r1_3185 qr1_3185 => ?_)
  refine ok_if (fun c_3186 => ?_) (fun c_3186 => ?_)
  · exact ok_some ⟨(rg_w (show rg (-10001 : Int32) (-10001) (-10001) from ⟨by decide, by decide⟩) (by decide) (by decide)), hB⟩
  · obtain ⟨w_3187, w_3188⟩ := qr1_3185.2 c_3186
    refine ok_bn (s_X12_in) (fun r3_3189 qr3_3189 => ?_)
    refine ok_if (fun c_3190 => ?_) (fun c_3190 => ?_)
    · exact ok_some ⟨(rg_w (show rg (-10001 : Int32) (-10001) (-10001) from ⟨by decide, by decide⟩) (by decide) (by decide)), hB⟩
    · obtain ⟨w_3191, w_3192⟩ := qr3_3189.2 c_3190
      refine ok_bn (s_X12_keeps hB) (fun σ5_3193 qσ5_3193 => ?_)
      refine ok_nm (fun x6_3194 hx6_3194 => ?_)
      refine ok_gd (rg_inb (rg_eq hx6_3194 (rg_add (l := 44) (h := 49) (show rg (44 : Int32) (44) (44) from ⟨by decide, by decide⟩) (rg_le w_3188 (rg_ge w_3187 (show rg (0 : Int32) (0) (0) from ⟨by decide, by decide⟩) (rg_any _)) (show rg (5 : Int32) (5) (5) from ⟨by decide, by decide⟩)) (by decide) (by decide) (by decide) (by decide))) (by decide) (by decide)) ?_
      refine ok_bn2 (s_X12_cuts (rg_le w_3188 (rg_ge w_3187 (show rg (0 : Int32) (0) (0) from ⟨by decide, by decide⟩) (rg_any _)) (show rg (5 : Int32) (5) (5) from ⟨by decide, by decide⟩)) qσ5_3193) (fun r8_3195 σ8_3196 qr8_3195 => ?_)
      obtain ⟨hr8_3195, bσ8_3196⟩ := qr8_3195
      refine ok_if (fun c_3197 => ?_) (fun c_3197 => ?_)
      · refine ok_bn (s_X12_goesBack bσ8_3196) (fun σ10_3198 qσ10_3198 => ?_)
        exact ok_some ⟨(rg_w (show rg (-10005 : Int32) (-10005) (-10005) from ⟨by decide, by decide⟩) (by decide) (by decide)), qσ10_3198⟩
      · refine ok_nm (fun x11_3199 hx11_3199 => ?_)
        refine ok_if (fun c_3200 => ?_) (fun c_3200 => ?_)
        · refine ok_bn (s_X12_goesBack bσ8_3196) (fun σ23_3201 qσ23_3201 => ?_)
          exact ok_some ⟨(rg_any _), qσ23_3201⟩
        · refine ok_if (fun c_3202 => ?_) (fun c_3202 => ?_)
          · refine ok_bn (s_X12_goesBack bσ8_3196) (fun σ22_3203 qσ22_3203 => ?_)
            exact ok_some ⟨(rg_any _), qσ22_3203⟩
          · refine ok_if (fun c_3204 => ?_) (fun c_3204 => ?_)
            · refine ok_bn (s_X12_goesBack bσ8_3196) (fun σ21_3205 qσ21_3205 => ?_)
              exact ok_some ⟨(rg_any _), qσ21_3205⟩
            · refine ok_if (fun c_3206 => ?_) (fun c_3206 => ?_)
              · refine ok_bn (s_X12_goesBack bσ8_3196) (fun σ20_3207 qσ20_3207 => ?_)
                exact ok_some ⟨(rg_any _), qσ20_3207⟩
              · refine ok_nm (fun x16_3208 hx16_3208 => ?_)
                refine ok_nm (fun x17_3209 hx17_3209 => ?_)
                refine ok_gd (rg_inb (rg_eq hx17_3209 (rg_sub (l := 0) (h := 2) (rg_eq hx16_3208 (rg_add (l := 3) (h := 5) (show rg (0 : Int32) (0) (0) from ⟨by decide, by decide⟩) (rg_neh c_3206 (rg_nel c_3204 (rg_nel c_3202 (rg_nel c_3200 (rg_le w_3192 (rg_ge w_3191 (show rg (0 : Int32) (0) (0) from ⟨by decide, by decide⟩) (rg_any _)) (show rg (6 : Int32) (6) (6) from ⟨by decide, by decide⟩)) (show rg (0 : Int32) (0) (0) from ⟨by decide, by decide⟩) rfl) (show rg (1 : Int32) (1) (1) from ⟨by decide, by decide⟩) rfl) (show rg (2 : Int32) (2) (2) from ⟨by decide, by decide⟩) rfl) (show rg (6 : Int32) (6) (6) from ⟨by decide, by decide⟩) rfl) (by decide) (by decide) (by decide) (by decide))) (show rg (3 : Int32) (3) (3) from ⟨by decide, by decide⟩) (by decide) (by decide) (by decide) (by decide))) (by decide) (by decide)) ?_
                refine ok_bn (s_X12_goesBack bσ8_3196) (fun σ19_3210 qσ19_3210 => ?_)
                exact ok_some ⟨(rg_any _), qσ19_3210⟩

set_option maxHeartbeats 4000000 in
set_option maxRecDepth 100000 in
theorem s_X12_goesOn_18 {g : Nat → Int32} {m : Int} {a1 : Int32} {a2 : Int32} {a3 : Int32} {ρ : RG} (r_a1 : rg a1 (0) (200)) : ∀ (n : Nat) (σ : SG) (v1 : Int32) (v2 : Int32) (v3 : Int32) (v4 : Int32), rg v1 (0) (200) → rg v4 (0) (200) → (200 : Int) - v4.toInt < (n : Int) → BF g m σ → ok (F_X12_goesOn_18 a1 a2 a3 n σ ρ v1 v2 v3 v4) (fun q => BF g m q) := by
  intro n
  induction n with
  | zero => intro σ v1 v2 v3 v4 r_v1 r_v4 hm hB; exact (ms_z r_v4 (by decide) hm).elim
  | succ n ih =>
    intro σ v1 v2 v3 v4 r_v1 r_v4 hm hB
    unfold F_X12_goesOn_18
    refine ok_if (fun c_3300 => ?_) (fun c_3300 => ?_)
    · exact ok_some hB
    · refine ok_if (fun c_3301 => ?_) (fun c_3301 => ?_)
      · exact ok_some hB
      · refine ok_gd (rg_ne0 (rg_gt (nle c_3301) (show rg (0 : Int32) (0) (0) from ⟨by decide, by decide⟩) (bx_get hB.1 (r := 55) (a := 11) (b := 11) (k := 11) (l := 0) (h := 6) (by decide) (by decide) (by decide))) (by decide)) ?_
        refine ok_nm (fun x10_3302 hx10_3302 => ?_)
        refine ok_if (fun c_3303 => ?_) (fun c_3303 => ?_)
        · refine ok_bn (s_X12_leastCorner hB) (fun r29_3304 qr29_3304 => ?_)
          refine ok_bn (s_X12_tellsOf (rg_w (show rg (199 : Int32) (199) (199) from ⟨by decide, by decide⟩) (by decide) (by decide)) hB) (fun r30_3305 qr30_3305 => ?_)
          refine ok_if (fun c_3306 => ?_) (fun c_3306 => ?_)
          · unfold F_X12_goesOn_72
            refine ok_nm (fun x12_3307 hx12_3307 => ?_)
            refine ok_gd (rg_inb (rg_eq hx12_3307 (rg_add (l := 44) (h := 49) (show rg (44 : Int32) (44) (44) from ⟨by decide, by decide⟩) (rg_eq hx10_3302 (rg_rem0 (rg_lt (nle c_3300) r_v4 (rg_gt (nle c_3300) r_v4 r_v1)) (rg_gt (nle c_3301) (show rg (0 : Int32) (0) (0) from ⟨by decide, by decide⟩) (bx_get hB.1 (r := 55) (a := 11) (b := 11) (k := 11) (l := 0) (h := 6) (by decide) (by decide) (by decide))) (by decide) (by decide))) (by decide) (by decide) (by decide) (by decide))) (by decide) (by decide)) ?_
            refine ok_bn2 (s_X12_cuts (rg_eq hx10_3302 (rg_rem0 (rg_lt (nle c_3300) r_v4 (rg_gt (nle c_3300) r_v4 r_v1)) (rg_gt (nle c_3301) (show rg (0 : Int32) (0) (0) from ⟨by decide, by decide⟩) (bx_get hB.1 (r := 55) (a := 11) (b := 11) (k := 11) (l := 0) (h := 6) (by decide) (by decide) (by decide))) (by decide) (by decide))) hB) (fun r14_3308 σ14_3309 qr14_3308 => ?_)
            obtain ⟨hr14_3308, bσ14_3309⟩ := qr14_3308
            refine ok_if (fun c_3310 => ?_) (fun c_3310 => ?_)
            · exact ok_some bσ14_3309
            · refine ok_nm (fun x16_3311 hx16_3311 => ?_)
              refine ok_nm (fun σ18_3312 hσ18_3312 => ?_)
              have bσ18_3312 : BF g m σ18_3312 := by rw [hσ18_3312]; exact bf_set bσ14_3309 (rg_any _) (by decide)
              refine ok_bn (s_X12_isGood bσ18_3312) (fun r19_3313 qr19_3313 => ?_)
              refine ok_if (fun c_3314 => ?_) (fun c_3314 => ?_)
              · unfold F_X12_goesOn_119
                refine ok_nm (fun x21_3315 hx21_3315 => ?_)
                refine ok_nm (fun σ23_3316 hσ23_3316 => ?_)
                have bσ23_3316 : BF g m σ23_3316 := by rw [hσ23_3316]; exact bf_set bσ18_3312 (rg_any _) (by decide)
                refine ok_if (fun c_3317 => ?_) (fun c_3317 => ?_)
                · unfold F_X12_goesOn_141
                  refine ok_nm (fun x25_3318 hx25_3318 => ?_)
                  refine ok_nm (fun σ27_3319 hσ27_3319 => ?_)
                  have bσ27_3319 : BF g m σ27_3319 := by rw [hσ27_3319]; exact bf_set bσ23_3316 (rg_any _) (by decide)
                  refine ok_nm (fun x28_3320 hx28_3320 => ?_)
                  exact ih _ _ _ _ _ (rg_w (rg_gt (nle c_3300) (rg_lt (nle c_3300) r_v4 r_v1) r_v1) (by decide) (by decide)) (rg_w (rg_eq hx28_3320 (rg_add (l := 1) (h := 200) (rg_lt (nle c_3300) r_v4 (rg_gt (nle c_3300) r_v4 r_v1)) (show rg (1 : Int32) (1) (1) from ⟨by decide, by decide⟩) (by decide) (by decide) (by decide) (by decide))) (by decide) (by decide)) (ms_s hx28_3320 (rg_lt (nle c_3300) r_v4 (rg_gt (nle c_3300) r_v4 r_v1)) (by decide) (by decide) hm) bσ27_3319
                · unfold F_X12_goesOn_141
                  refine ok_nm (fun x25_3321 hx25_3321 => ?_)
                  refine ok_nm (fun σ27_3322 hσ27_3322 => ?_)
                  have bσ27_3322 : BF g m σ27_3322 := by rw [hσ27_3322]; exact bf_set bσ23_3316 (rg_any _) (by decide)
                  refine ok_nm (fun x28_3323 hx28_3323 => ?_)
                  exact ih _ _ _ _ _ (rg_w (rg_gt (nle c_3300) (rg_lt (nle c_3300) r_v4 r_v1) r_v1) (by decide) (by decide)) (rg_w (rg_eq hx28_3323 (rg_add (l := 1) (h := 200) (rg_lt (nle c_3300) r_v4 (rg_gt (nle c_3300) r_v4 r_v1)) (show rg (1 : Int32) (1) (1) from ⟨by decide, by decide⟩) (by decide) (by decide) (by decide) (by decide))) (by decide) (by decide)) (ms_s hx28_3323 (rg_lt (nle c_3300) r_v4 (rg_gt (nle c_3300) r_v4 r_v1)) (by decide) (by decide) hm) bσ27_3322
              · unfold F_X12_goesOn_119
                refine ok_nm (fun x21_3324 hx21_3324 => ?_)
                refine ok_nm (fun σ23_3325 hσ23_3325 => ?_)
                have bσ23_3325 : BF g m σ23_3325 := by rw [hσ23_3325]; exact bf_set bσ18_3312 (rg_any _) (by decide)
                refine ok_if (fun c_3326 => ?_) (fun c_3326 => ?_)
                · unfold F_X12_goesOn_141
                  refine ok_nm (fun x25_3327 hx25_3327 => ?_)
                  refine ok_nm (fun σ27_3328 hσ27_3328 => ?_)
                  have bσ27_3328 : BF g m σ27_3328 := by rw [hσ27_3328]; exact bf_set bσ23_3325 (rg_any _) (by decide)
                  refine ok_nm (fun x28_3329 hx28_3329 => ?_)
                  exact ih _ _ _ _ _ (rg_w (rg_gt (nle c_3300) (rg_lt (nle c_3300) r_v4 r_v1) r_v1) (by decide) (by decide)) (rg_w (rg_eq hx28_3329 (rg_add (l := 1) (h := 200) (rg_lt (nle c_3300) r_v4 (rg_gt (nle c_3300) r_v4 r_v1)) (show rg (1 : Int32) (1) (1) from ⟨by decide, by decide⟩) (by decide) (by decide) (by decide) (by decide))) (by decide) (by decide)) (ms_s hx28_3329 (rg_lt (nle c_3300) r_v4 (rg_gt (nle c_3300) r_v4 r_v1)) (by decide) (by decide) hm) bσ27_3328
                · unfold F_X12_goesOn_141
                  refine ok_nm (fun x25_3330 hx25_3330 => ?_)
                  refine ok_nm (fun σ27_3331 hσ27_3331 => ?_)
                  have bσ27_3331 : BF g m σ27_3331 := by rw [hσ27_3331]; exact bf_set bσ23_3325 (rg_any _) (by decide)
                  refine ok_nm (fun x28_3332 hx28_3332 => ?_)
                  exact ih _ _ _ _ _ (rg_w (rg_gt (nle c_3300) (rg_lt (nle c_3300) r_v4 r_v1) r_v1) (by decide) (by decide)) (rg_w (rg_eq hx28_3332 (rg_add (l := 1) (h := 200) (rg_lt (nle c_3300) r_v4 (rg_gt (nle c_3300) r_v4 r_v1)) (show rg (1 : Int32) (1) (1) from ⟨by decide, by decide⟩) (by decide) (by decide) (by decide) (by decide))) (by decide) (by decide)) (ms_s hx28_3332 (rg_lt (nle c_3300) r_v4 (rg_gt (nle c_3300) r_v4 r_v1)) (by decide) (by decide) hm) bσ27_3331
          · refine ok_bn (s_X12_rights hB) (fun σ32_3333 qσ32_3333 => ?_)
            unfold F_X12_goesOn_72
            refine ok_nm (fun x12_3334 hx12_3334 => ?_)
            refine ok_gd (rg_inb (rg_eq hx12_3334 (rg_add (l := 44) (h := 49) (show rg (44 : Int32) (44) (44) from ⟨by decide, by decide⟩) (rg_eq hx10_3302 (rg_rem0 (rg_lt (nle c_3300) r_v4 (rg_gt (nle c_3300) r_v4 r_v1)) (rg_gt (nle c_3301) (show rg (0 : Int32) (0) (0) from ⟨by decide, by decide⟩) (bx_get hB.1 (r := 55) (a := 11) (b := 11) (k := 11) (l := 0) (h := 6) (by decide) (by decide) (by decide))) (by decide) (by decide))) (by decide) (by decide) (by decide) (by decide))) (by decide) (by decide)) ?_
            refine ok_bn2 (s_X12_cuts (rg_eq hx10_3302 (rg_rem0 (rg_lt (nle c_3300) r_v4 (rg_gt (nle c_3300) r_v4 r_v1)) (rg_gt (nle c_3301) (show rg (0 : Int32) (0) (0) from ⟨by decide, by decide⟩) (bx_get hB.1 (r := 55) (a := 11) (b := 11) (k := 11) (l := 0) (h := 6) (by decide) (by decide) (by decide))) (by decide) (by decide))) qσ32_3333) (fun r14_3335 σ14_3336 qr14_3335 => ?_)
            obtain ⟨hr14_3335, bσ14_3336⟩ := qr14_3335
            refine ok_if (fun c_3337 => ?_) (fun c_3337 => ?_)
            · exact ok_some bσ14_3336
            · refine ok_nm (fun x16_3338 hx16_3338 => ?_)
              refine ok_nm (fun σ18_3339 hσ18_3339 => ?_)
              have bσ18_3339 : BF g m σ18_3339 := by rw [hσ18_3339]; exact bf_set bσ14_3336 (rg_any _) (by decide)
              refine ok_bn (s_X12_isGood bσ18_3339) (fun r19_3340 qr19_3340 => ?_)
              refine ok_if (fun c_3341 => ?_) (fun c_3341 => ?_)
              · unfold F_X12_goesOn_119
                refine ok_nm (fun x21_3342 hx21_3342 => ?_)
                refine ok_nm (fun σ23_3343 hσ23_3343 => ?_)
                have bσ23_3343 : BF g m σ23_3343 := by rw [hσ23_3343]; exact bf_set bσ18_3339 (rg_any _) (by decide)
                refine ok_if (fun c_3344 => ?_) (fun c_3344 => ?_)
                · unfold F_X12_goesOn_141
                  refine ok_nm (fun x25_3345 hx25_3345 => ?_)
                  refine ok_nm (fun σ27_3346 hσ27_3346 => ?_)
                  have bσ27_3346 : BF g m σ27_3346 := by rw [hσ27_3346]; exact bf_set bσ23_3343 (rg_any _) (by decide)
                  refine ok_nm (fun x28_3347 hx28_3347 => ?_)
                  exact ih _ _ _ _ _ (rg_w (rg_gt (nle c_3300) (rg_lt (nle c_3300) r_v4 r_v1) r_v1) (by decide) (by decide)) (rg_w (rg_eq hx28_3347 (rg_add (l := 1) (h := 200) (rg_lt (nle c_3300) r_v4 (rg_gt (nle c_3300) r_v4 r_v1)) (show rg (1 : Int32) (1) (1) from ⟨by decide, by decide⟩) (by decide) (by decide) (by decide) (by decide))) (by decide) (by decide)) (ms_s hx28_3347 (rg_lt (nle c_3300) r_v4 (rg_gt (nle c_3300) r_v4 r_v1)) (by decide) (by decide) hm) bσ27_3346
                · unfold F_X12_goesOn_141
                  refine ok_nm (fun x25_3348 hx25_3348 => ?_)
                  refine ok_nm (fun σ27_3349 hσ27_3349 => ?_)
                  have bσ27_3349 : BF g m σ27_3349 := by rw [hσ27_3349]; exact bf_set bσ23_3343 (rg_any _) (by decide)
                  refine ok_nm (fun x28_3350 hx28_3350 => ?_)
                  exact ih _ _ _ _ _ (rg_w (rg_gt (nle c_3300) (rg_lt (nle c_3300) r_v4 r_v1) r_v1) (by decide) (by decide)) (rg_w (rg_eq hx28_3350 (rg_add (l := 1) (h := 200) (rg_lt (nle c_3300) r_v4 (rg_gt (nle c_3300) r_v4 r_v1)) (show rg (1 : Int32) (1) (1) from ⟨by decide, by decide⟩) (by decide) (by decide) (by decide) (by decide))) (by decide) (by decide)) (ms_s hx28_3350 (rg_lt (nle c_3300) r_v4 (rg_gt (nle c_3300) r_v4 r_v1)) (by decide) (by decide) hm) bσ27_3349
              · unfold F_X12_goesOn_119
                refine ok_nm (fun x21_3351 hx21_3351 => ?_)
                refine ok_nm (fun σ23_3352 hσ23_3352 => ?_)
                have bσ23_3352 : BF g m σ23_3352 := by rw [hσ23_3352]; exact bf_set bσ18_3339 (rg_any _) (by decide)
                refine ok_if (fun c_3353 => ?_) (fun c_3353 => ?_)
                · unfold F_X12_goesOn_141
                  refine ok_nm (fun x25_3354 hx25_3354 => ?_)
                  refine ok_nm (fun σ27_3355 hσ27_3355 => ?_)
                  have bσ27_3355 : BF g m σ27_3355 := by rw [hσ27_3355]; exact bf_set bσ23_3352 (rg_any _) (by decide)
                  refine ok_nm (fun x28_3356 hx28_3356 => ?_)
                  exact ih _ _ _ _ _ (rg_w (rg_gt (nle c_3300) (rg_lt (nle c_3300) r_v4 r_v1) r_v1) (by decide) (by decide)) (rg_w (rg_eq hx28_3356 (rg_add (l := 1) (h := 200) (rg_lt (nle c_3300) r_v4 (rg_gt (nle c_3300) r_v4 r_v1)) (show rg (1 : Int32) (1) (1) from ⟨by decide, by decide⟩) (by decide) (by decide) (by decide) (by decide))) (by decide) (by decide)) (ms_s hx28_3356 (rg_lt (nle c_3300) r_v4 (rg_gt (nle c_3300) r_v4 r_v1)) (by decide) (by decide) hm) bσ27_3355
                · unfold F_X12_goesOn_141
                  refine ok_nm (fun x25_3357 hx25_3357 => ?_)
                  refine ok_nm (fun σ27_3358 hσ27_3358 => ?_)
                  have bσ27_3358 : BF g m σ27_3358 := by rw [hσ27_3358]; exact bf_set bσ23_3352 (rg_any _) (by decide)
                  refine ok_nm (fun x28_3359 hx28_3359 => ?_)
                  exact ih _ _ _ _ _ (rg_w (rg_gt (nle c_3300) (rg_lt (nle c_3300) r_v4 r_v1) r_v1) (by decide) (by decide)) (rg_w (rg_eq hx28_3359 (rg_add (l := 1) (h := 200) (rg_lt (nle c_3300) r_v4 (rg_gt (nle c_3300) r_v4 r_v1)) (show rg (1 : Int32) (1) (1) from ⟨by decide, by decide⟩) (by decide) (by decide) (by decide) (by decide))) (by decide) (by decide)) (ms_s hx28_3359 (rg_lt (nle c_3300) r_v4 (rg_gt (nle c_3300) r_v4 r_v1)) (by decide) (by decide) hm) bσ27_3358
        · unfold F_X12_goesOn_72
          refine ok_nm (fun x12_3360 hx12_3360 => ?_)
          refine ok_gd (rg_inb (rg_eq hx12_3360 (rg_add (l := 44) (h := 49) (show rg (44 : Int32) (44) (44) from ⟨by decide, by decide⟩) (rg_eq hx10_3302 (rg_rem0 (rg_lt (nle c_3300) r_v4 (rg_gt (nle c_3300) r_v4 r_v1)) (rg_gt (nle c_3301) (show rg (0 : Int32) (0) (0) from ⟨by decide, by decide⟩) (bx_get hB.1 (r := 55) (a := 11) (b := 11) (k := 11) (l := 0) (h := 6) (by decide) (by decide) (by decide))) (by decide) (by decide))) (by decide) (by decide) (by decide) (by decide))) (by decide) (by decide)) ?_
          refine ok_bn2 (s_X12_cuts (rg_eq hx10_3302 (rg_rem0 (rg_lt (nle c_3300) r_v4 (rg_gt (nle c_3300) r_v4 r_v1)) (rg_gt (nle c_3301) (show rg (0 : Int32) (0) (0) from ⟨by decide, by decide⟩) (bx_get hB.1 (r := 55) (a := 11) (b := 11) (k := 11) (l := 0) (h := 6) (by decide) (by decide) (by decide))) (by decide) (by decide))) hB) (fun r14_3361 σ14_3362 qr14_3361 => ?_)
          obtain ⟨hr14_3361, bσ14_3362⟩ := qr14_3361
          refine ok_if (fun c_3363 => ?_) (fun c_3363 => ?_)
          · exact ok_some bσ14_3362
          · refine ok_nm (fun x16_3364 hx16_3364 => ?_)
            refine ok_nm (fun σ18_3365 hσ18_3365 => ?_)
            have bσ18_3365 : BF g m σ18_3365 := by rw [hσ18_3365]; exact bf_set bσ14_3362 (rg_any _) (by decide)
            refine ok_bn (s_X12_isGood bσ18_3365) (fun r19_3366 qr19_3366 => ?_)
            refine ok_if (fun c_3367 => ?_) (fun c_3367 => ?_)
            · unfold F_X12_goesOn_119
              refine ok_nm (fun x21_3368 hx21_3368 => ?_)
              refine ok_nm (fun σ23_3369 hσ23_3369 => ?_)
              have bσ23_3369 : BF g m σ23_3369 := by rw [hσ23_3369]; exact bf_set bσ18_3365 (rg_any _) (by decide)
              refine ok_if (fun c_3370 => ?_) (fun c_3370 => ?_)
              · unfold F_X12_goesOn_141
                refine ok_nm (fun x25_3371 hx25_3371 => ?_)
                refine ok_nm (fun σ27_3372 hσ27_3372 => ?_)
                have bσ27_3372 : BF g m σ27_3372 := by rw [hσ27_3372]; exact bf_set bσ23_3369 (rg_any _) (by decide)
                refine ok_nm (fun x28_3373 hx28_3373 => ?_)
                exact ih _ _ _ _ _ (rg_w (rg_gt (nle c_3300) (rg_lt (nle c_3300) r_v4 r_v1) r_v1) (by decide) (by decide)) (rg_w (rg_eq hx28_3373 (rg_add (l := 1) (h := 200) (rg_lt (nle c_3300) r_v4 (rg_gt (nle c_3300) r_v4 r_v1)) (show rg (1 : Int32) (1) (1) from ⟨by decide, by decide⟩) (by decide) (by decide) (by decide) (by decide))) (by decide) (by decide)) (ms_s hx28_3373 (rg_lt (nle c_3300) r_v4 (rg_gt (nle c_3300) r_v4 r_v1)) (by decide) (by decide) hm) bσ27_3372
              · unfold F_X12_goesOn_141
                refine ok_nm (fun x25_3374 hx25_3374 => ?_)
                refine ok_nm (fun σ27_3375 hσ27_3375 => ?_)
                have bσ27_3375 : BF g m σ27_3375 := by rw [hσ27_3375]; exact bf_set bσ23_3369 (rg_any _) (by decide)
                refine ok_nm (fun x28_3376 hx28_3376 => ?_)
                exact ih _ _ _ _ _ (rg_w (rg_gt (nle c_3300) (rg_lt (nle c_3300) r_v4 r_v1) r_v1) (by decide) (by decide)) (rg_w (rg_eq hx28_3376 (rg_add (l := 1) (h := 200) (rg_lt (nle c_3300) r_v4 (rg_gt (nle c_3300) r_v4 r_v1)) (show rg (1 : Int32) (1) (1) from ⟨by decide, by decide⟩) (by decide) (by decide) (by decide) (by decide))) (by decide) (by decide)) (ms_s hx28_3376 (rg_lt (nle c_3300) r_v4 (rg_gt (nle c_3300) r_v4 r_v1)) (by decide) (by decide) hm) bσ27_3375
            · unfold F_X12_goesOn_119
              refine ok_nm (fun x21_3377 hx21_3377 => ?_)
              refine ok_nm (fun σ23_3378 hσ23_3378 => ?_)
              have bσ23_3378 : BF g m σ23_3378 := by rw [hσ23_3378]; exact bf_set bσ18_3365 (rg_any _) (by decide)
              refine ok_if (fun c_3379 => ?_) (fun c_3379 => ?_)
              · unfold F_X12_goesOn_141
                refine ok_nm (fun x25_3380 hx25_3380 => ?_)
                refine ok_nm (fun σ27_3381 hσ27_3381 => ?_)
                have bσ27_3381 : BF g m σ27_3381 := by rw [hσ27_3381]; exact bf_set bσ23_3378 (rg_any _) (by decide)
                refine ok_nm (fun x28_3382 hx28_3382 => ?_)
                exact ih _ _ _ _ _ (rg_w (rg_gt (nle c_3300) (rg_lt (nle c_3300) r_v4 r_v1) r_v1) (by decide) (by decide)) (rg_w (rg_eq hx28_3382 (rg_add (l := 1) (h := 200) (rg_lt (nle c_3300) r_v4 (rg_gt (nle c_3300) r_v4 r_v1)) (show rg (1 : Int32) (1) (1) from ⟨by decide, by decide⟩) (by decide) (by decide) (by decide) (by decide))) (by decide) (by decide)) (ms_s hx28_3382 (rg_lt (nle c_3300) r_v4 (rg_gt (nle c_3300) r_v4 r_v1)) (by decide) (by decide) hm) bσ27_3381
              · unfold F_X12_goesOn_141
                refine ok_nm (fun x25_3383 hx25_3383 => ?_)
                refine ok_nm (fun σ27_3384 hσ27_3384 => ?_)
                have bσ27_3384 : BF g m σ27_3384 := by rw [hσ27_3384]; exact bf_set bσ23_3378 (rg_any _) (by decide)
                refine ok_nm (fun x28_3385 hx28_3385 => ?_)
                exact ih _ _ _ _ _ (rg_w (rg_gt (nle c_3300) (rg_lt (nle c_3300) r_v4 r_v1) r_v1) (by decide) (by decide)) (rg_w (rg_eq hx28_3385 (rg_add (l := 1) (h := 200) (rg_lt (nle c_3300) r_v4 (rg_gt (nle c_3300) r_v4 r_v1)) (show rg (1 : Int32) (1) (1) from ⟨by decide, by decide⟩) (by decide) (by decide) (by decide) (by decide))) (by decide) (by decide)) (ms_s hx28_3385 (rg_lt (nle c_3300) r_v4 (rg_gt (nle c_3300) r_v4 r_v1)) (by decide) (by decide) hm) bσ27_3384

set_option maxHeartbeats 4000000 in
set_option maxRecDepth 100000 in
theorem s_X12_goesOn {g : Nat → Int32} {m : Int} {a1 : Int32} {a2 : Int32} {a3 : Int32} {σ : SG} {ρ : RG} (r_a1 : rg a1 (0) (200)) (hB : BF g m σ) : ok (F_X12_goesOn a1 a2 a3 σ ρ) (fun q => BF g m q) := by
  unfold F_X12_goesOn
  refine ok_nm (fun σ2_3386 hσ2_3386 => ?_)
  have bσ2_3386 : BF g m σ2_3386 := by rw [hσ2_3386]; exact bf_set hB (rg_any _) (by decide)
  refine ok_nm (fun σ4_3387 hσ4_3387 => ?_)
  have bσ4_3387 : BF g m σ4_3387 := by rw [hσ4_3387]; exact bf_set bσ2_3386 (rg_any _) (by decide)
  refine ok_nm (fun σ6_3388 hσ6_3388 => ?_)
  have bσ6_3388 : BF g m σ6_3388 := by rw [hσ6_3388]; exact bf_set bσ4_3387 (rg_any _) (by decide)
  exact (s_X12_goesOn_18 r_a1 1024 _ _ _ _ _ r_a1 (rg_w (show rg (0 : Int32) (0) (0) from ⟨by decide, by decide⟩) (by decide) (by decide)) (ms_0 (show rg (0 : Int32) (0) (0) from ⟨by decide, by decide⟩) (by decide)) bσ6_3388)

set_option maxHeartbeats 4000000 in
set_option maxRecDepth 100000 in
theorem s_X12_goodBy {g : Nat → Int32} {m : Int} {a1 : Int32} {a2 : Int32} {σ : SG} {ρ : RG} (r_a1 : rg a1 (0) (40)) (hB : BF g m σ) : ok (F_X12_goodBy a1 a2 σ ρ) (fun q => rg q.1 (-2147483648) (2147483647) ∧ BF g m q.2) := by
  unfold F_X12_goodBy
  refine ok_bn (s_X12_goesOn (rg_w r_a1 (by decide) (by decide)) hB) (fun σ1_3391 qσ1_3391 => ?_)
  refine ok_bn (s_X12_goesBack qσ1_3391) (fun σ2_3392 qσ2_3392 => ?_)
  exact ok_some ⟨(rg_any _), qσ2_3392⟩

set_option maxHeartbeats 4000000 in
set_option maxRecDepth 100000 in
theorem s_X12_on {g : Nat → Int32} {m : Int} {a1 : Int32} {a2 : Int32} {σ : SG} {ρ : RG} (hB : BF g m σ) : ok (F_X12_on a1 a2 σ ρ) (fun q => rg q.1 (-2147483648) (2147483647) ∧ BF g m q.2) := by
  unfold F_X12_on
  refine ok_bn (s_X12_in) (fun r1_3446 qr1_3446 => ?_)
  refine ok_if (fun c_3447 => ?_) (fun c_3447 => ?_)
  · refine ok_nm (fun x26_3448 hx26_3448 => ?_)
    refine ok_bn (s_X12_isCutter hB.1) (fun r27_3449 qr27_3449 => ?_)
    refine ok_if (fun c_3450 => ?_) (fun c_3450 => ?_)
    · exact ok_some ⟨(rg_w (show rg (-10001 : Int32) (-10001) (-10001) from ⟨by decide, by decide⟩) (by decide) (by decide)), hB⟩
    · obtain ⟨w_3451, w_3452⟩ := qr27_3449.2 c_3450
      unfold F_X12_on_24
      refine ok_bn (s_X12_in) (fun r3_3453 qr3_3453 => ?_)
      refine ok_if (fun c_3454 => ?_) (fun c_3454 => ?_)
      · exact ok_some ⟨(rg_w (show rg (-10002 : Int32) (-10002) (-10002) from ⟨by decide, by decide⟩) (by decide) (by decide)), hB⟩
      · obtain ⟨w_3455, w_3456⟩ := qr3_3453.2 c_3454
        refine ok_bn (s_X12_keeps hB) (fun σ5_3457 qσ5_3457 => ?_)
        refine ok_bn (s_X12_goesOn (rg_w (rg_le w_3456 (rg_ge w_3455 (show rg (0 : Int32) (0) (0) from ⟨by decide, by decide⟩) (rg_any _)) (show rg (40 : Int32) (40) (40) from ⟨by decide, by decide⟩)) (by decide) (by decide)) qσ5_3457) (fun σ6_3458 qσ6_3458 => ?_)
        refine ok_if (fun c_3459 => ?_) (fun c_3459 => ?_)
        · refine ok_if (fun c_3460 => ?_) (fun c_3460 => ?_)
          · refine ok_nm (fun x21_3461 hx21_3461 => ?_)
            refine ok_bn (s_X12_goesBack qσ6_3458) (fun σ22_3462 qσ22_3462 => ?_)
            exact ok_some ⟨(rg_any _), qσ22_3462⟩
          · refine ok_if (fun c_3463 => ?_) (fun c_3463 => ?_)
            · refine ok_bn (s_X12_goesBack qσ6_3458) (fun σ20_3464 qσ20_3464 => ?_)
              exact ok_some ⟨(rg_any _), qσ20_3464⟩
            · refine ok_if (fun c_3465 => ?_) (fun c_3465 => ?_)
              · refine ok_bn (s_X12_goesBack qσ6_3458) (fun σ19_3466 qσ19_3466 => ?_)
                exact ok_some ⟨(rg_any _), qσ19_3466⟩
              · refine ok_nm (fun x11_3467 hx11_3467 => ?_)
                refine ok_nm (fun x12_3468 hx12_3468 => ?_)
                refine ok_gd (rg_inb (rg_eq hx12_3468 (rg_sub (l := 5) (h := 10) (rg_eq hx11_3467 (rg_add (l := 15) (h := 20) (show rg (5 : Int32) (5) (5) from ⟨by decide, by decide⟩) (rg_eq (uns hx26_3448) (rg_add (l := 10) (h := 15) (rg_le w_3452 (rg_ge w_3451 (show rg (0 : Int32) (0) (0) from ⟨by decide, by decide⟩) (rg_any _)) (show rg (5 : Int32) (5) (5) from ⟨by decide, by decide⟩)) (show rg (10 : Int32) (10) (10) from ⟨by decide, by decide⟩) (by decide) (by decide) (by decide) (by decide))) (by decide) (by decide) (by decide) (by decide))) (show rg (10 : Int32) (10) (10) from ⟨by decide, by decide⟩) (by decide) (by decide) (by decide) (by decide))) (by decide) (by decide)) ?_
                refine ok_nm (fun x14_3469 hx14_3469 => ?_)
                refine ok_nm (fun x15_3470 hx15_3470 => ?_)
                refine ok_gd (rg_inb (rg_eq hx15_3470 (rg_sub (l := 5) (h := 10) (rg_eq (hx14_3469.trans hx11_3467.symm) (rg_eq hx11_3467 (rg_add (l := 15) (h := 20) (show rg (5 : Int32) (5) (5) from ⟨by decide, by decide⟩) (rg_eq (uns hx26_3448) (rg_add (l := 10) (h := 15) (rg_le w_3452 (rg_ge w_3451 (show rg (0 : Int32) (0) (0) from ⟨by decide, by decide⟩) (rg_any _)) (show rg (5 : Int32) (5) (5) from ⟨by decide, by decide⟩)) (show rg (10 : Int32) (10) (10) from ⟨by decide, by decide⟩) (by decide) (by decide) (by decide) (by decide))) (by decide) (by decide) (by decide) (by decide)))) (show rg (10 : Int32) (10) (10) from ⟨by decide, by decide⟩) (by decide) (by decide) (by decide) (by decide))) (by decide) (by decide)) ?_
                refine ok_nm (fun x17_3471 hx17_3471 => ?_)
                refine ok_bn (s_X12_goesBack qσ6_3458) (fun σ18_3472 qσ18_3472 => ?_)
                exact ok_some ⟨(rg_any _), qσ18_3472⟩
        · refine ok_nm (fun x23_3473 hx23_3473 => ?_)
          refine ok_gd (rg_inb (rg_eq hx23_3473 (rg_add (l := 10) (h := -6) (rg_le w_3451 (show rg (0 : Int32) (0) (0) from ⟨by decide, by decide⟩) (rg_eq hx26_3448 (rg_sub (l := 0) (h := -8) (rg_lt (nle c_3459) (rg_eq (uns hx26_3448) (rg_add (l := 10) (h := 15) (rg_le w_3452 (rg_ge w_3451 (show rg (0 : Int32) (0) (0) from ⟨by decide, by decide⟩) (rg_any _)) (show rg (5 : Int32) (5) (5) from ⟨by decide, by decide⟩)) (show rg (10 : Int32) (10) (10) from ⟨by decide, by decide⟩) (by decide) (by decide) (by decide) (by decide))) (show rg (3 : Int32) (3) (3) from ⟨by decide, by decide⟩)) (show rg (10 : Int32) (10) (10) from ⟨by decide, by decide⟩) (by decide) (by decide) (by decide) (by decide)))) (rg_lt (nle c_3459) (rg_eq (uns hx26_3448) (rg_add (l := 10) (h := 15) (rg_le w_3452 (rg_ge w_3451 (show rg (0 : Int32) (0) (0) from ⟨by decide, by decide⟩) (rg_any _)) (show rg (5 : Int32) (5) (5) from ⟨by decide, by decide⟩)) (show rg (10 : Int32) (10) (10) from ⟨by decide, by decide⟩) (by decide) (by decide) (by decide) (by decide))) (show rg (3 : Int32) (3) (3) from ⟨by decide, by decide⟩)) (by decide) (by decide) (by decide) (by decide))) (by decide) (by decide)) ?_
          refine ok_bn (s_X12_goesBack qσ6_3458) (fun σ25_3474 qσ25_3474 => ?_)
          exact ok_some ⟨(rg_any _), qσ25_3474⟩
  · obtain ⟨w_3475, w_3476⟩ := qr1_3446.2 c_3447
    unfold F_X12_on_24
    refine ok_bn (s_X12_in) (fun r3_3477 qr3_3477 => ?_)
    refine ok_if (fun c_3478 => ?_) (fun c_3478 => ?_)
    · exact ok_some ⟨(rg_w (show rg (-10002 : Int32) (-10002) (-10002) from ⟨by decide, by decide⟩) (by decide) (by decide)), hB⟩
    · obtain ⟨w_3479, w_3480⟩ := qr3_3477.2 c_3478
      refine ok_bn (s_X12_keeps hB) (fun σ5_3481 qσ5_3481 => ?_)
      refine ok_bn (s_X12_goesOn (rg_w (rg_le w_3480 (rg_ge w_3479 (show rg (0 : Int32) (0) (0) from ⟨by decide, by decide⟩) (rg_any _)) (show rg (40 : Int32) (40) (40) from ⟨by decide, by decide⟩)) (by decide) (by decide)) qσ5_3481) (fun σ6_3482 qσ6_3482 => ?_)
      refine ok_if (fun c_3483 => ?_) (fun c_3483 => ?_)
      · refine ok_if (fun c_3484 => ?_) (fun c_3484 => ?_)
        · refine ok_nm (fun x21_3485 hx21_3485 => ?_)
          refine ok_bn (s_X12_goesBack qσ6_3482) (fun σ22_3486 qσ22_3486 => ?_)
          exact ok_some ⟨(rg_any _), qσ22_3486⟩
        · refine ok_if (fun c_3487 => ?_) (fun c_3487 => ?_)
          · refine ok_bn (s_X12_goesBack qσ6_3482) (fun σ20_3488 qσ20_3488 => ?_)
            exact ok_some ⟨(rg_any _), qσ20_3488⟩
          · refine ok_if (fun c_3489 => ?_) (fun c_3489 => ?_)
            · refine ok_bn (s_X12_goesBack qσ6_3482) (fun σ19_3490 qσ19_3490 => ?_)
              exact ok_some ⟨(rg_any _), qσ19_3490⟩
            · refine ok_nm (fun x11_3491 hx11_3491 => ?_)
              refine ok_nm (fun x12_3492 hx12_3492 => ?_)
              refine ok_gd (rg_inb (rg_eq hx12_3492 (rg_sub (l := 2) (h := -1) (rg_eq hx11_3491 (rg_add (l := 12) (h := 9) (rg_ge w_3476 (rg_neh c_3489 (rg_nel c_3489 (rg_nel c_3487 (rg_nel c_3484 (rg_ge c_3483 (show rg (3 : Int32) (3) (3) from ⟨by decide, by decide⟩) (rg_le w_3476 (rg_ge w_3475 (show rg (0 : Int32) (0) (0) from ⟨by decide, by decide⟩) (rg_any _)) (show rg (5 : Int32) (5) (5) from ⟨by decide, by decide⟩))) (show rg (3 : Int32) (3) (3) from ⟨by decide, by decide⟩) rfl) (show rg (4 : Int32) (4) (4) from ⟨by decide, by decide⟩) rfl) (show rg (5 : Int32) (5) (5) from ⟨by decide, by decide⟩) rfl) (show rg (5 : Int32) (5) (5) from ⟨by decide, by decide⟩) rfl) (show rg (5 : Int32) (5) (5) from ⟨by decide, by decide⟩)) (rg_neh c_3489 (rg_nel c_3489 (rg_nel c_3487 (rg_nel c_3484 (rg_ge c_3483 (show rg (3 : Int32) (3) (3) from ⟨by decide, by decide⟩) (rg_le w_3476 (rg_ge w_3475 (show rg (0 : Int32) (0) (0) from ⟨by decide, by decide⟩) (rg_any _)) (show rg (5 : Int32) (5) (5) from ⟨by decide, by decide⟩))) (show rg (3 : Int32) (3) (3) from ⟨by decide, by decide⟩) rfl) (show rg (4 : Int32) (4) (4) from ⟨by decide, by decide⟩) rfl) (show rg (5 : Int32) (5) (5) from ⟨by decide, by decide⟩) rfl) (show rg (5 : Int32) (5) (5) from ⟨by decide, by decide⟩) rfl) (by decide) (by decide) (by decide) (by decide))) (show rg (10 : Int32) (10) (10) from ⟨by decide, by decide⟩) (by decide) (by decide) (by decide) (by decide))) (by decide) (by decide)) ?_
              refine ok_nm (fun x14_3493 hx14_3493 => ?_)
              refine ok_nm (fun x15_3494 hx15_3494 => ?_)
              refine ok_gd (rg_inb (rg_eq hx15_3494 (rg_sub (l := 2) (h := -1) (rg_eq (hx14_3493.trans hx11_3491.symm) (rg_eq hx11_3491 (rg_add (l := 12) (h := 9) (rg_ge w_3476 (rg_neh c_3489 (rg_nel c_3489 (rg_nel c_3487 (rg_nel c_3484 (rg_ge c_3483 (show rg (3 : Int32) (3) (3) from ⟨by decide, by decide⟩) (rg_le w_3476 (rg_ge w_3475 (show rg (0 : Int32) (0) (0) from ⟨by decide, by decide⟩) (rg_any _)) (show rg (5 : Int32) (5) (5) from ⟨by decide, by decide⟩))) (show rg (3 : Int32) (3) (3) from ⟨by decide, by decide⟩) rfl) (show rg (4 : Int32) (4) (4) from ⟨by decide, by decide⟩) rfl) (show rg (5 : Int32) (5) (5) from ⟨by decide, by decide⟩) rfl) (show rg (5 : Int32) (5) (5) from ⟨by decide, by decide⟩) rfl) (show rg (5 : Int32) (5) (5) from ⟨by decide, by decide⟩)) (rg_neh c_3489 (rg_nel c_3489 (rg_nel c_3487 (rg_nel c_3484 (rg_ge c_3483 (show rg (3 : Int32) (3) (3) from ⟨by decide, by decide⟩) (rg_le w_3476 (rg_ge w_3475 (show rg (0 : Int32) (0) (0) from ⟨by decide, by decide⟩) (rg_any _)) (show rg (5 : Int32) (5) (5) from ⟨by decide, by decide⟩))) (show rg (3 : Int32) (3) (3) from ⟨by decide, by decide⟩) rfl) (show rg (4 : Int32) (4) (4) from ⟨by decide, by decide⟩) rfl) (show rg (5 : Int32) (5) (5) from ⟨by decide, by decide⟩) rfl) (show rg (5 : Int32) (5) (5) from ⟨by decide, by decide⟩) rfl) (by decide) (by decide) (by decide) (by decide)))) (show rg (10 : Int32) (10) (10) from ⟨by decide, by decide⟩) (by decide) (by decide) (by decide) (by decide))) (by decide) (by decide)) ?_
              refine ok_nm (fun x17_3495 hx17_3495 => ?_)
              refine ok_bn (s_X12_goesBack qσ6_3482) (fun σ18_3496 qσ18_3496 => ?_)
              exact ok_some ⟨(rg_any _), qσ18_3496⟩
      · refine ok_nm (fun x23_3497 hx23_3497 => ?_)
        refine ok_gd (rg_inb (rg_eq hx23_3497 (rg_add (l := 0) (h := 2) (show rg (0 : Int32) (0) (0) from ⟨by decide, by decide⟩) (rg_lt (nle c_3483) (rg_le w_3476 (rg_ge w_3475 (show rg (0 : Int32) (0) (0) from ⟨by decide, by decide⟩) (rg_any _)) (show rg (5 : Int32) (5) (5) from ⟨by decide, by decide⟩)) (show rg (3 : Int32) (3) (3) from ⟨by decide, by decide⟩)) (by decide) (by decide) (by decide) (by decide))) (by decide) (by decide)) ?_
        refine ok_bn (s_X12_goesBack qσ6_3482) (fun σ25_3498 qσ25_3498 => ?_)
        exact ok_some ⟨(rg_any _), qσ25_3498⟩

set_option maxHeartbeats 4000000 in
set_option maxRecDepth 100000 in
theorem s_X12_toasted {g : Nat → Int32} {m : Int} {a1 : Int32} {a2 : Int32} {σ : SG} {ρ : RG} (hB : BF g m σ) : ok (F_X12_toasted a1 a2 σ ρ) (fun q => rg q.1 (-2147483648) (2147483647) ∧ BF g m q.2) := by
  unfold F_X12_toasted
  refine ok_bn (s_X12_in) (fun r1_3510 qr1_3510 => ?_)
  refine ok_if (fun c_3511 => ?_) (fun c_3511 => ?_)
  · exact ok_some ⟨(rg_w (show rg (-2 : Int32) (-2) (-2) from ⟨by decide, by decide⟩) (by decide) (by decide)), hB⟩
  · obtain ⟨w_3512, w_3513⟩ := qr1_3510.2 c_3511
    refine ok_bn (s_X12_in) (fun r3_3514 qr3_3514 => ?_)
    refine ok_if (fun c_3515 => ?_) (fun c_3515 => ?_)
    · exact ok_some ⟨(rg_w (show rg (-2 : Int32) (-2) (-2) from ⟨by decide, by decide⟩) (by decide) (by decide)), hB⟩
    · obtain ⟨w_3516, w_3517⟩ := qr3_3514.2 c_3515
      refine ok_bn (s_X12_keeps hB) (fun σ5_3518 qσ5_3518 => ?_)
      refine ok_bn (s_X12_goesOn (rg_w (rg_le w_3513 (rg_ge w_3512 (show rg (0 : Int32) (0) (0) from ⟨by decide, by decide⟩) (rg_any _)) (show rg (40 : Int32) (40) (40) from ⟨by decide, by decide⟩)) (by decide) (by decide)) qσ5_3518) (fun σ6_3519 qσ6_3519 => ?_)
      refine ok_bn (s_X12_goesBack qσ6_3519) (fun σ7_3520 qσ7_3520 => ?_)
      exact ok_some ⟨(rg_any _), qσ7_3520⟩

set_option maxHeartbeats 4000000 in
set_option maxRecDepth 100000 in
theorem s_X12_lasts {g : Nat → Int32} {m : Int} {σ : SG} {ρ : RG} (hB : BF g m σ) : ok (F_X12_lasts σ ρ) (fun q => rg q.1 (-2147483648) (2147483647) ∧ BF g m q.2) := by
  unfold F_X12_lasts
  refine ok_bn (s_X12_keeps hB) (fun σ1_3524 qσ1_3524 => ?_)
  refine ok_bn (s_X12_goesOn (rg_w (show rg (200 : Int32) (200) (200) from ⟨by decide, by decide⟩) (by decide) (by decide)) qσ1_3524) (fun σ2_3525 qσ2_3525 => ?_)
  refine ok_bn (s_X12_goesBack qσ2_3525) (fun σ3_3526 qσ3_3526 => ?_)
  exact ok_some ⟨(rg_any _), qσ3_3526⟩

set_option maxHeartbeats 4000000 in
set_option maxRecDepth 100000 in
theorem s_X12_stands_2 {g : Nat → Int32} {m : Int} {a1 : Int32} {ρ : RG} (r_a1 : rg a1 (0) (5)) : ∀ (n : Nat) (σ : SG) (v1 : Int32) (v2 : Int32), rg v1 (0) (5) → rg v2 (0) (11) → (11 : Int) - v2.toInt < (n : Int) → BF g m σ → ok (F_X12_stands_2 a1 n σ ρ v1 v2) (fun q => BF g m q) := by
  intro n
  induction n with
  | zero => intro σ v1 v2 r_v1 r_v2 hm hB; exact (ms_z r_v2 (by decide) hm).elim
  | succ n ih =>
    intro σ v1 v2 r_v1 r_v2 hm hB
    unfold F_X12_stands_2
    refine ok_if (fun c_3532 => ?_) (fun c_3532 => ?_)
    · exact ok_some hB
    · refine ok_nm (fun x2_3533 hx2_3533 => ?_)
      refine ok_nm (fun x3_3534 hx3_3534 => ?_)
      refine ok_gd (rg_inb (rg_lt (nle c_3532) r_v2 (show rg (11 : Int32) (11) (11) from ⟨by decide, by decide⟩)) (by decide) (by decide)) ?_
      refine ok_gd (rg_inb (rg_eq hx3_3534 (rg_add (l := 0) (h := 65) (rg_eq hx2_3533 (rg_mul (h := 55) (show rg (11 : Int32) (11) (11) from ⟨by decide, by decide⟩) r_v1 (by decide) (by decide) (by decide) (by decide))) (rg_lt (nle c_3532) r_v2 (show rg (11 : Int32) (11) (11) from ⟨by decide, by decide⟩)) (by decide) (by decide) (by decide) (by decide))) (by decide) (by decide)) ?_
      refine ok_nm (fun σ7_3535 hσ7_3535 => ?_)
      have bσ7_3535 : BF g m σ7_3535 := by rw [hσ7_3535]; exact bf_far hB (by decide) (by decide) (by decide) (by decide)
      refine ok_nm (fun x8_3536 hx8_3536 => ?_)
      exact ih _ _ _ r_v1 (rg_w (rg_eq hx8_3536 (rg_add (l := 1) (h := 11) (rg_lt (nle c_3532) r_v2 (show rg (11 : Int32) (11) (11) from ⟨by decide, by decide⟩)) (show rg (1 : Int32) (1) (1) from ⟨by decide, by decide⟩) (by decide) (by decide) (by decide) (by decide))) (by decide) (by decide)) (ms_s hx8_3536 (rg_lt (nle c_3532) r_v2 (show rg (11 : Int32) (11) (11) from ⟨by decide, by decide⟩)) (by decide) (by decide) hm) bσ7_3535

set_option maxHeartbeats 4000000 in
set_option maxRecDepth 100000 in
theorem s_X12_stands {g : Nat → Int32} {m : Int} {a1 : Int32} {σ : SG} {ρ : RG} (r_a1 : rg a1 (0) (5)) (hB : BF g m σ) : ok (F_X12_stands a1 σ ρ) (fun q => BF g m q) := by
  unfold F_X12_stands
  exact (s_X12_stands_2 r_a1 1024 _ _ _ r_a1 (rg_w (show rg (0 : Int32) (0) (0) from ⟨by decide, by decide⟩) (by decide) (by decide)) (ms_0 (show rg (0 : Int32) (0) (0) from ⟨by decide, by decide⟩) (by decide)) hB)

set_option maxHeartbeats 4000000 in
set_option maxRecDepth 100000 in
theorem s_X12_standsBack_2 {g : Nat → Int32} {m : Int} {a1 : Int32} {ρ : RG} (r_a1 : rg a1 (0) (5)) : ∀ (n : Nat) (σ : SG) (v1 : Int32) (v2 : Int32), rg v1 (0) (5) → rg v2 (0) (11) → (11 : Int) - v2.toInt < (n : Int) → BF g m σ → ok (F_X12_standsBack_2 a1 n σ ρ v1 v2) (fun q => BF g m q) := by
  intro n
  induction n with
  | zero => intro σ v1 v2 r_v1 r_v2 hm hB; exact (ms_z r_v2 (by decide) hm).elim
  | succ n ih =>
    intro σ v1 v2 r_v1 r_v2 hm hB
    unfold F_X12_standsBack_2
    refine ok_if (fun c_3542 => ?_) (fun c_3542 => ?_)
    · exact ok_some hB
    · refine ok_nm (fun x2_3543 hx2_3543 => ?_)
      refine ok_nm (fun x3_3544 hx3_3544 => ?_)
      refine ok_gd (rg_inb (rg_eq hx3_3544 (rg_add (l := 0) (h := 65) (rg_eq hx2_3543 (rg_mul (h := 55) (show rg (11 : Int32) (11) (11) from ⟨by decide, by decide⟩) r_v1 (by decide) (by decide) (by decide) (by decide))) (rg_lt (nle c_3542) r_v2 (show rg (11 : Int32) (11) (11) from ⟨by decide, by decide⟩)) (by decide) (by decide) (by decide) (by decide))) (by decide) (by decide)) ?_
      refine ok_gd (rg_inb (rg_lt (nle c_3542) r_v2 (show rg (11 : Int32) (11) (11) from ⟨by decide, by decide⟩)) (by decide) (by decide)) ?_
      refine ok_nm (fun σ7_3545 hσ7_3545 => ?_)
      have bσ7_3545 : BF g m σ7_3545 := by rw [hσ7_3545]; exact bf_setx hB (a := 0) (b := 10) (rg_lt (nle c_3542) r_v2 (show rg (11 : Int32) (11) (11) from ⟨by decide, by decide⟩)) (rg_any _) (by decide)
      refine ok_nm (fun x8_3546 hx8_3546 => ?_)
      exact ih _ _ _ r_v1 (rg_w (rg_eq hx8_3546 (rg_add (l := 1) (h := 11) (rg_lt (nle c_3542) r_v2 (show rg (11 : Int32) (11) (11) from ⟨by decide, by decide⟩)) (show rg (1 : Int32) (1) (1) from ⟨by decide, by decide⟩) (by decide) (by decide) (by decide) (by decide))) (by decide) (by decide)) (ms_s hx8_3546 (rg_lt (nle c_3542) r_v2 (show rg (11 : Int32) (11) (11) from ⟨by decide, by decide⟩)) (by decide) (by decide) hm) bσ7_3545

set_option maxHeartbeats 4000000 in
set_option maxRecDepth 100000 in
theorem s_X12_standsBack {g : Nat → Int32} {m : Int} {a1 : Int32} {σ : SG} {ρ : RG} (r_a1 : rg a1 (0) (5)) (hB : BF g m σ) : ok (F_X12_standsBack a1 σ ρ) (fun q => BF g m q) := by
  unfold F_X12_standsBack
  exact (s_X12_standsBack_2 r_a1 1024 _ _ _ r_a1 (rg_w (show rg (0 : Int32) (0) (0) from ⟨by decide, by decide⟩) (by decide) (by decide)) (ms_0 (show rg (0 : Int32) (0) (0) from ⟨by decide, by decide⟩) (by decide)) hB)

set_option maxHeartbeats 4000000 in
set_option maxRecDepth 100000 in
theorem s_X12_cancel_12 {g : Nat → Int32} {m : Int} {ρ : RG} : ∀ (n : Nat) (σ : SG) (v1 : Int32) (v2 : Int32) (v3 : Int32), rg v3 (0) (36) → (36 : Int) - v3.toInt < (n : Int) → BF g m σ → ok (F_X12_cancel_12 n σ ρ v1 v2 v3) (fun q => rg q.1 (-2147483648) (2147483647) ∧ BF g m q.2) := by
  intro n
  induction n with
  | zero => intro σ v1 v2 v3 r_v3 hm hB; exact (ms_z r_v3 (by decide) hm).elim
  | succ n ih =>
    intro σ v1 v2 v3 r_v3 hm hB
    unfold F_X12_cancel_12
    refine ok_nm (fun x2_3577 hx2_3577 => ?_)
    refine ok_if (fun c_3578 => ?_) (fun c_3578 => ?_)
    · exact ok_some ⟨(rg_any _), hB⟩
    · refine ok_gd (rg_ne0 (sq_ge1 hx2_3577 (nle c_3578) (rg_lt (nle c_3578) r_v3 (rg_gt (nle c_3578) r_v3 (rg_eq hx2_3577 (rg_mul (h := 36) (bx_get hB.1 (r := 55) (a := 11) (b := 11) (k := 11) (l := 0) (h := 6) (by decide) (by decide) (by decide)) (bx_get hB.1 (r := 55) (a := 11) (b := 11) (k := 11) (l := 0) (h := 6) (by decide) (by decide) (by decide)) (by decide) (by decide) (by decide) (by decide))))) (bx_get hB.1 (r := 55) (a := 11) (b := 11) (k := 11) (l := 0) (h := 6) (by decide) (by decide) (by decide)) (by decide)) (by decide)) ?_
      refine ok_nm (fun x5_3579 hx5_3579 => ?_)
      refine ok_gd (rg_ne0 (sq_ge1 hx2_3577 (nle c_3578) (rg_lt (nle c_3578) r_v3 (rg_gt (nle c_3578) r_v3 (rg_eq hx2_3577 (rg_mul (h := 36) (bx_get hB.1 (r := 55) (a := 11) (b := 11) (k := 11) (l := 0) (h := 6) (by decide) (by decide) (by decide)) (bx_get hB.1 (r := 55) (a := 11) (b := 11) (k := 11) (l := 0) (h := 6) (by decide) (by decide) (by decide)) (by decide) (by decide) (by decide) (by decide))))) (bx_get hB.1 (r := 55) (a := 11) (b := 11) (k := 11) (l := 0) (h := 6) (by decide) (by decide) (by decide)) (by decide)) (by decide)) ?_
      refine ok_nm (fun x7_3580 hx7_3580 => ?_)
      refine ok_nm (fun x8_3581 hx8_3581 => ?_)
      refine ok_gd (rg_inb (rg_eq hx8_3581 (rg_add (l := 44) (h := 49) (show rg (44 : Int32) (44) (44) from ⟨by decide, by decide⟩) (rg_eq hx5_3579 (dv_sq hx2_3577 (nle c_3578) (rg_lt (nle c_3578) r_v3 (rg_gt (nle c_3578) r_v3 (rg_eq hx2_3577 (rg_mul (h := 36) (sq_ge1 hx2_3577 (nle c_3578) r_v3 (bx_get hB.1 (r := 55) (a := 11) (b := 11) (k := 11) (l := 0) (h := 6) (by decide) (by decide) (by decide)) (by decide)) (sq_ge1 hx2_3577 (nle c_3578) r_v3 (bx_get hB.1 (r := 55) (a := 11) (b := 11) (k := 11) (l := 0) (h := 6) (by decide) (by decide) (by decide)) (by decide)) (by decide) (by decide) (by decide) (by decide))))) (sq_ge1 hx2_3577 (nle c_3578) (rg_lt (nle c_3578) r_v3 (rg_gt (nle c_3578) r_v3 (rg_eq hx2_3577 (rg_mul (h := 36) (bx_get hB.1 (r := 55) (a := 11) (b := 11) (k := 11) (l := 0) (h := 6) (by decide) (by decide) (by decide)) (bx_get hB.1 (r := 55) (a := 11) (b := 11) (k := 11) (l := 0) (h := 6) (by decide) (by decide) (by decide)) (by decide) (by decide) (by decide) (by decide))))) (bx_get hB.1 (r := 55) (a := 11) (b := 11) (k := 11) (l := 0) (h := 6) (by decide) (by decide) (by decide)) (by decide)) (by decide))) (by decide) (by decide) (by decide) (by decide))) (by decide) (by decide)) ?_
      refine ok_bn2 (s_X12_cuts (rg_eq hx5_3579 (dv_sq hx2_3577 (nle c_3578) (rg_lt (nle c_3578) r_v3 (rg_gt (nle c_3578) r_v3 (rg_eq hx2_3577 (rg_mul (h := 36) (sq_ge1 hx2_3577 (nle c_3578) r_v3 (bx_get hB.1 (r := 55) (a := 11) (b := 11) (k := 11) (l := 0) (h := 6) (by decide) (by decide) (by decide)) (by decide)) (sq_ge1 hx2_3577 (nle c_3578) r_v3 (bx_get hB.1 (r := 55) (a := 11) (b := 11) (k := 11) (l := 0) (h := 6) (by decide) (by decide) (by decide)) (by decide)) (by decide) (by decide) (by decide) (by decide))))) (sq_ge1 hx2_3577 (nle c_3578) (rg_lt (nle c_3578) r_v3 (rg_gt (nle c_3578) r_v3 (rg_eq hx2_3577 (rg_mul (h := 36) (bx_get hB.1 (r := 55) (a := 11) (b := 11) (k := 11) (l := 0) (h := 6) (by decide) (by decide) (by decide)) (bx_get hB.1 (r := 55) (a := 11) (b := 11) (k := 11) (l := 0) (h := 6) (by decide) (by decide) (by decide)) (by decide) (by decide) (by decide) (by decide))))) (bx_get hB.1 (r := 55) (a := 11) (b := 11) (k := 11) (l := 0) (h := 6) (by decide) (by decide) (by decide)) (by decide)) (by decide))) hB) (fun r10_3582 σ10_3583 qr10_3582 => ?_)
      obtain ⟨hr10_3582, bσ10_3583⟩ := qr10_3582
      refine ok_if (fun c_3584 => ?_) (fun c_3584 => ?_)
      · unfold F_X12_cancel_143
        refine ok_bn (s_X12_goesBack bσ10_3583) (fun σ12_3585 qσ12_3585 => ?_)
        refine ok_nm (fun x13_3586 hx13_3586 => ?_)
        exact ih _ _ _ _ (rg_w (rg_eq hx13_3586 (rg_add (l := 1) (h := 36) (rg_lt (nle c_3578) r_v3 (rg_gt (nle c_3578) r_v3 (rg_eq hx2_3577 (rg_mul (h := 36) (sq_ge1 hx2_3577 (nle c_3578) r_v3 (bx_get hB.1 (r := 55) (a := 11) (b := 11) (k := 11) (l := 0) (h := 6) (by decide) (by decide) (by decide)) (by decide)) (sq_ge1 hx2_3577 (nle c_3578) r_v3 (bx_get hB.1 (r := 55) (a := 11) (b := 11) (k := 11) (l := 0) (h := 6) (by decide) (by decide) (by decide)) (by decide)) (by decide) (by decide) (by decide) (by decide))))) (show rg (1 : Int32) (1) (1) from ⟨by decide, by decide⟩) (by decide) (by decide) (by decide) (by decide))) (by decide) (by decide)) (ms_s hx13_3586 (rg_lt (nle c_3578) r_v3 (rg_gt (nle c_3578) r_v3 (rg_eq hx2_3577 (rg_mul (h := 36) (sq_ge1 hx2_3577 (nle c_3578) r_v3 (bx_get hB.1 (r := 55) (a := 11) (b := 11) (k := 11) (l := 0) (h := 6) (by decide) (by decide) (by decide)) (by decide)) (sq_ge1 hx2_3577 (nle c_3578) r_v3 (bx_get hB.1 (r := 55) (a := 11) (b := 11) (k := 11) (l := 0) (h := 6) (by decide) (by decide) (by decide)) (by decide)) (by decide) (by decide) (by decide) (by decide))))) (by decide) (by decide) hm) qσ12_3585
      · refine ok_nm (fun x14_3587 hx14_3587 => ?_)
        refine ok_gd (rg_inb (rg_eq hx14_3587 (rg_add (l := 44) (h := 49) (show rg (44 : Int32) (44) (44) from ⟨by decide, by decide⟩) (rg_eq hx7_3580 (rg_rem0 (rg_lt (nle c_3578) r_v3 (rg_gt (nle c_3578) r_v3 (rg_eq hx2_3577 (rg_mul (h := 36) (sq_ge1 hx2_3577 (nle c_3578) r_v3 (bx_get hB.1 (r := 55) (a := 11) (b := 11) (k := 11) (l := 0) (h := 6) (by decide) (by decide) (by decide)) (by decide)) (sq_ge1 hx2_3577 (nle c_3578) r_v3 (bx_get hB.1 (r := 55) (a := 11) (b := 11) (k := 11) (l := 0) (h := 6) (by decide) (by decide) (by decide)) (by decide)) (by decide) (by decide) (by decide) (by decide))))) (sq_ge1 hx2_3577 (nle c_3578) (rg_lt (nle c_3578) r_v3 (rg_gt (nle c_3578) r_v3 (rg_eq hx2_3577 (rg_mul (h := 36) (bx_get hB.1 (r := 55) (a := 11) (b := 11) (k := 11) (l := 0) (h := 6) (by decide) (by decide) (by decide)) (bx_get hB.1 (r := 55) (a := 11) (b := 11) (k := 11) (l := 0) (h := 6) (by decide) (by decide) (by decide)) (by decide) (by decide) (by decide) (by decide))))) (bx_get hB.1 (r := 55) (a := 11) (b := 11) (k := 11) (l := 0) (h := 6) (by decide) (by decide) (by decide)) (by decide)) (by decide) (by decide))) (by decide) (by decide) (by decide) (by decide))) (by decide) (by decide)) ?_
        refine ok_bn2 (s_X12_cuts (rg_eq hx7_3580 (rg_rem0 (rg_lt (nle c_3578) r_v3 (rg_gt (nle c_3578) r_v3 (rg_eq hx2_3577 (rg_mul (h := 36) (sq_ge1 hx2_3577 (nle c_3578) r_v3 (bx_get hB.1 (r := 55) (a := 11) (b := 11) (k := 11) (l := 0) (h := 6) (by decide) (by decide) (by decide)) (by decide)) (sq_ge1 hx2_3577 (nle c_3578) r_v3 (bx_get hB.1 (r := 55) (a := 11) (b := 11) (k := 11) (l := 0) (h := 6) (by decide) (by decide) (by decide)) (by decide)) (by decide) (by decide) (by decide) (by decide))))) (sq_ge1 hx2_3577 (nle c_3578) (rg_lt (nle c_3578) r_v3 (rg_gt (nle c_3578) r_v3 (rg_eq hx2_3577 (rg_mul (h := 36) (bx_get hB.1 (r := 55) (a := 11) (b := 11) (k := 11) (l := 0) (h := 6) (by decide) (by decide) (by decide)) (bx_get hB.1 (r := 55) (a := 11) (b := 11) (k := 11) (l := 0) (h := 6) (by decide) (by decide) (by decide)) (by decide) (by decide) (by decide) (by decide))))) (bx_get hB.1 (r := 55) (a := 11) (b := 11) (k := 11) (l := 0) (h := 6) (by decide) (by decide) (by decide)) (by decide)) (by decide) (by decide))) bσ10_3583) (fun r16_3588 σ16_3589 qr16_3588 => ?_)
        obtain ⟨hr16_3588, bσ16_3589⟩ := qr16_3588
        refine ok_if (fun c_3590 => ?_) (fun c_3590 => ?_)
        · unfold F_X12_cancel_143
          refine ok_bn (s_X12_goesBack bσ16_3589) (fun σ12_3591 qσ12_3591 => ?_)
          refine ok_nm (fun x13_3592 hx13_3592 => ?_)
          exact ih _ _ _ _ (rg_w (rg_eq hx13_3592 (rg_add (l := 1) (h := 36) (rg_lt (nle c_3578) r_v3 (rg_gt (nle c_3578) r_v3 (rg_eq hx2_3577 (rg_mul (h := 36) (sq_ge1 hx2_3577 (nle c_3578) r_v3 (bx_get hB.1 (r := 55) (a := 11) (b := 11) (k := 11) (l := 0) (h := 6) (by decide) (by decide) (by decide)) (by decide)) (sq_ge1 hx2_3577 (nle c_3578) r_v3 (bx_get hB.1 (r := 55) (a := 11) (b := 11) (k := 11) (l := 0) (h := 6) (by decide) (by decide) (by decide)) (by decide)) (by decide) (by decide) (by decide) (by decide))))) (show rg (1 : Int32) (1) (1) from ⟨by decide, by decide⟩) (by decide) (by decide) (by decide) (by decide))) (by decide) (by decide)) (ms_s hx13_3592 (rg_lt (nle c_3578) r_v3 (rg_gt (nle c_3578) r_v3 (rg_eq hx2_3577 (rg_mul (h := 36) (sq_ge1 hx2_3577 (nle c_3578) r_v3 (bx_get hB.1 (r := 55) (a := 11) (b := 11) (k := 11) (l := 0) (h := 6) (by decide) (by decide) (by decide)) (by decide)) (sq_ge1 hx2_3577 (nle c_3578) r_v3 (bx_get hB.1 (r := 55) (a := 11) (b := 11) (k := 11) (l := 0) (h := 6) (by decide) (by decide) (by decide)) (by decide)) (by decide) (by decide) (by decide) (by decide))))) (by decide) (by decide) hm) qσ12_3591
        · refine ok_bn (s_X12_size bσ16_3589) (fun r18_3593 qr18_3593 => ?_)
          refine ok_bn (s_X12_size bσ16_3589) (fun r19_3594 qr19_3594 => ?_)
          refine ok_nm (fun x20_3595 hx20_3595 => ?_)
          refine ok_if (fun c_3596 => ?_) (fun c_3596 => ?_)
          · unfold F_X12_cancel_143
            refine ok_bn (s_X12_goesBack bσ16_3589) (fun σ12_3597 qσ12_3597 => ?_)
            refine ok_nm (fun x13_3598 hx13_3598 => ?_)
            exact ih _ _ _ _ (rg_w (rg_eq hx13_3598 (rg_add (l := 1) (h := 36) (rg_lt (nle c_3578) r_v3 (rg_gt (nle c_3578) r_v3 (rg_eq hx2_3577 (rg_mul (h := 36) (sq_ge1 hx2_3577 (nle c_3578) r_v3 (bx_get hB.1 (r := 55) (a := 11) (b := 11) (k := 11) (l := 0) (h := 6) (by decide) (by decide) (by decide)) (by decide)) (sq_ge1 hx2_3577 (nle c_3578) r_v3 (bx_get hB.1 (r := 55) (a := 11) (b := 11) (k := 11) (l := 0) (h := 6) (by decide) (by decide) (by decide)) (by decide)) (by decide) (by decide) (by decide) (by decide))))) (show rg (1 : Int32) (1) (1) from ⟨by decide, by decide⟩) (by decide) (by decide) (by decide) (by decide))) (by decide) (by decide)) (ms_s hx13_3598 (rg_lt (nle c_3578) r_v3 (rg_gt (nle c_3578) r_v3 (rg_eq hx2_3577 (rg_mul (h := 36) (sq_ge1 hx2_3577 (nle c_3578) r_v3 (bx_get hB.1 (r := 55) (a := 11) (b := 11) (k := 11) (l := 0) (h := 6) (by decide) (by decide) (by decide)) (by decide)) (sq_ge1 hx2_3577 (nle c_3578) r_v3 (bx_get hB.1 (r := 55) (a := 11) (b := 11) (k := 11) (l := 0) (h := 6) (by decide) (by decide) (by decide)) (by decide)) (by decide) (by decide) (by decide) (by decide))))) (by decide) (by decide) hm) qσ12_3597
          · refine ok_bn (s_X12_size bσ16_3589) (fun r22_3599 qr22_3599 => ?_)
            refine ok_bn (s_X12_size bσ16_3589) (fun r23_3600 qr23_3600 => ?_)
            refine ok_nm (fun x24_3601 hx24_3601 => ?_)
            refine ok_nm (fun x25_3602 hx25_3602 => ?_)
            refine ok_nm (fun x26_3603 hx26_3603 => ?_)
            unfold F_X12_cancel_143
            refine ok_bn (s_X12_goesBack bσ16_3589) (fun σ12_3604 qσ12_3604 => ?_)
            refine ok_nm (fun x13_3605 hx13_3605 => ?_)
            exact ih _ _ _ _ (rg_w (rg_eq hx13_3605 (rg_add (l := 1) (h := 36) (rg_lt (nle c_3578) r_v3 (rg_gt (nle c_3578) r_v3 (rg_eq hx2_3577 (rg_mul (h := 36) (sq_ge1 hx2_3577 (nle c_3578) r_v3 (bx_get hB.1 (r := 55) (a := 11) (b := 11) (k := 11) (l := 0) (h := 6) (by decide) (by decide) (by decide)) (by decide)) (sq_ge1 hx2_3577 (nle c_3578) r_v3 (bx_get hB.1 (r := 55) (a := 11) (b := 11) (k := 11) (l := 0) (h := 6) (by decide) (by decide) (by decide)) (by decide)) (by decide) (by decide) (by decide) (by decide))))) (show rg (1 : Int32) (1) (1) from ⟨by decide, by decide⟩) (by decide) (by decide) (by decide) (by decide))) (by decide) (by decide)) (ms_s hx13_3605 (rg_lt (nle c_3578) r_v3 (rg_gt (nle c_3578) r_v3 (rg_eq hx2_3577 (rg_mul (h := 36) (sq_ge1 hx2_3577 (nle c_3578) r_v3 (bx_get hB.1 (r := 55) (a := 11) (b := 11) (k := 11) (l := 0) (h := 6) (by decide) (by decide) (by decide)) (by decide)) (sq_ge1 hx2_3577 (nle c_3578) r_v3 (bx_get hB.1 (r := 55) (a := 11) (b := 11) (k := 11) (l := 0) (h := 6) (by decide) (by decide) (by decide)) (by decide)) (by decide) (by decide) (by decide) (by decide))))) (by decide) (by decide) hm) qσ12_3604

set_option maxHeartbeats 4000000 in
set_option maxRecDepth 100000 in
theorem s_X12_cancel {g : Nat → Int32} {m : Int} {σ : SG} {ρ : RG} (hB : BF g m σ) : ok (F_X12_cancel σ ρ) (fun q => rg q.1 (-2147483648) (2147483647) ∧ BF g m q.2) := by
  unfold F_X12_cancel
  refine ok_bn (s_X12_keeps hB) (fun σ1_3606 qσ1_3606 => ?_)
  exact (s_X12_cancel_12 1024 _ _ _ _ (rg_w (show rg (0 : Int32) (0) (0) from ⟨by decide, by decide⟩) (by decide) (by decide)) (ms_0 (show rg (0 : Int32) (0) (0) from ⟨by decide, by decide⟩) (by decide)) qσ1_3606)

set_option maxHeartbeats 4000000 in
set_option maxRecDepth 100000 in
theorem s_X12_enough_16 {g : Nat → Int32} {m : Int} {a1 : Int32} {ρ : RG} (r_a1 : rg a1 (0) (5)) : ∀ (n : Nat) (σ : SG) (v1 : Int32) (v2 : Int32), rg v1 (0) (5) → rg v2 (1) (41) → (41 : Int) - v2.toInt < (n : Int) → BF g m σ → ok (F_X12_enough_16 a1 n σ ρ v1 v2) (fun q => rg q.1 (-5) (40) ∧ BF g m q.2) := by
  intro n
  induction n with
  | zero => intro σ v1 v2 r_v1 r_v2 hm hB; exact (ms_z r_v2 (by decide) hm).elim
  | succ n ih =>
    intro σ v1 v2 r_v1 r_v2 hm hB
    unfold F_X12_enough_16
    refine ok_if (fun c_3626 => ?_) (fun c_3626 => ?_)
    · exact ok_some ⟨(rg_w (show rg (-5 : Int32) (-5) (-5) from ⟨by decide, by decide⟩) (by decide) (by decide)), hB⟩
    · refine ok_bn2 (s_X12_cuts r_v1 hB) (fun r5_3627 σ5_3628 qr5_3627 => ?_)
      obtain ⟨hr5_3627, bσ5_3628⟩ := qr5_3627
      refine ok_if (fun c_3629 => ?_) (fun c_3629 => ?_)
      · unfold F_X12_enough_42
        unfold F_X12_enough_43
        refine ok_bn (s_X12_goesBack bσ5_3628) (fun σ7_3630 qσ7_3630 => ?_)
        refine ok_if (fun c_3631 => ?_) (fun c_3631 => ?_)
        · refine ok_nm (fun x9_3632 hx9_3632 => ?_)
          exact ih _ _ _ r_v1 (rg_w (rg_eq hx9_3632 (rg_add (l := 2) (h := 41) (rg_le (nlt c_3626) r_v2 (show rg (40 : Int32) (40) (40) from ⟨by decide, by decide⟩)) (show rg (1 : Int32) (1) (1) from ⟨by decide, by decide⟩) (by decide) (by decide) (by decide) (by decide))) (by decide) (by decide)) (ms_s hx9_3632 (rg_le (nlt c_3626) r_v2 (show rg (40 : Int32) (40) (40) from ⟨by decide, by decide⟩)) (by decide) (by decide) hm) qσ7_3630
        · exact absurd (by decide) c_3631
      · refine ok_bn (s_X12_isGood bσ5_3628) (fun r10_3633 qr10_3633 => ?_)
        refine ok_if (fun c_3634 => ?_) (fun c_3634 => ?_)
        · unfold F_X12_enough_42
          unfold F_X12_enough_43
          refine ok_bn (s_X12_goesBack bσ5_3628) (fun σ7_3635 qσ7_3635 => ?_)
          refine ok_if (fun c_3636 => ?_) (fun c_3636 => ?_)
          · refine ok_nm (fun x9_3637 hx9_3637 => ?_)
            exact ih _ _ _ r_v1 (rg_w (rg_eq hx9_3637 (rg_add (l := 2) (h := 41) (rg_le (nlt c_3626) r_v2 (show rg (40 : Int32) (40) (40) from ⟨by decide, by decide⟩)) (show rg (1 : Int32) (1) (1) from ⟨by decide, by decide⟩) (by decide) (by decide) (by decide) (by decide))) (by decide) (by decide)) (ms_s hx9_3637 (rg_le (nlt c_3626) r_v2 (show rg (40 : Int32) (40) (40) from ⟨by decide, by decide⟩)) (by decide) (by decide) hm) qσ7_3635
          · exact absurd (by decide) c_3636
        · unfold F_X12_enough_43
          refine ok_bn (s_X12_goesBack bσ5_3628) (fun σ7_3638 qσ7_3638 => ?_)
          refine ok_if (fun c_3639 => ?_) (fun c_3639 => ?_)
          · exact absurd c_3639 (by decide)
          · exact ok_some ⟨(rg_w (rg_le (nlt c_3626) r_v2 (show rg (40 : Int32) (40) (40) from ⟨by decide, by decide⟩)) (by decide) (by decide)), qσ7_3638⟩

set_option maxHeartbeats 4000000 in
set_option maxRecDepth 100000 in
theorem s_X12_enough {g : Nat → Int32} {m : Int} {a1 : Int32} {σ : SG} {ρ : RG} (hB : BF g m σ) : ok (F_X12_enough a1 σ ρ) (fun q => rg q.1 (-5) (40) ∧ BF g m q.2) := by
  unfold F_X12_enough
  refine ok_bn (s_X12_isCutter hB.1) (fun r1_3640 qr1_3640 => ?_)
  refine ok_if (fun c_3641 => ?_) (fun c_3641 => ?_)
  · exact ok_some ⟨(rg_w (show rg (-1 : Int32) (-1) (-1) from ⟨by decide, by decide⟩) (by decide) (by decide)), hB⟩
  · obtain ⟨w_3642, w_3643⟩ := qr1_3640.2 c_3641
    refine ok_bn (s_X12_keeps hB) (fun σ3_3644 qσ3_3644 => ?_)
    exact (s_X12_enough_16 (rg_le w_3643 (rg_ge w_3642 (show rg (0 : Int32) (0) (0) from ⟨by decide, by decide⟩) (rg_any _)) (show rg (5 : Int32) (5) (5) from ⟨by decide, by decide⟩)) 1024 _ _ _ (rg_le w_3643 (rg_ge w_3642 (show rg (0 : Int32) (0) (0) from ⟨by decide, by decide⟩) (rg_any _)) (show rg (5 : Int32) (5) (5) from ⟨by decide, by decide⟩)) (rg_w (show rg (1 : Int32) (1) (1) from ⟨by decide, by decide⟩) (by decide) (by decide)) (ms_0 (show rg (1 : Int32) (1) (1) from ⟨by decide, by decide⟩) (by decide)) qσ3_3644)

set_option maxHeartbeats 4000000 in
set_option maxRecDepth 100000 in
theorem s_X12_when_42 {g : Nat → Int32} {m : Int} {a1 : Int32} {a2 : Int32} {ρ : RG} (r_a1 : rg a1 (1) (20)) (r_a2 : rg a2 (0) (1)) : ∀ (n : Nat) (σ : SG) (v1 : Int32) (v2 : Int32) (v3 : Int32) (v4 : Int32) (v5 : Int32), rg v1 (1) (20) → rg v2 (0) (1) → rg v5 (0) (20) → (20 : Int) - v5.toInt < (n : Int) → BF g m σ → ok (F_X12_when_42 a1 a2 n σ ρ v1 v2 v3 v4 v5) (fun q => rg q.1 (-2147483648) (2147483647) ∧ BF g m q.2) := by
  intro n
  induction n with
  | zero => intro σ v1 v2 v3 v4 v5 r_v1 r_v2 r_v5 hm hB; exact (ms_z r_v5 (by decide) hm).elim
  | succ n ih =>
    intro σ v1 v2 v3 v4 v5 r_v1 r_v2 r_v5 hm hB
    unfold F_X12_when_42
    refine ok_if (fun c_3668 => ?_) (fun c_3668 => ?_)
    · refine ok_if (fun c_3669 => ?_) (fun c_3669 => ?_)
      · exact ok_some ⟨(rg_any _), hB⟩
      · refine ok_if (fun c_3670 => ?_) (fun c_3670 => ?_)
        · exact ok_some ⟨(rg_w (rg_eql c_3670 (show rg (-5 : Int32) (-5) (-5) from ⟨by decide, by decide⟩)) (by decide) (by decide)), hB⟩
        · exact ok_some ⟨(rg_any _), hB⟩
    · refine ok_bn2 (s_X12_goodBy (rg_w r_v1 (by decide) (by decide)) hB) (fun r10_3671 σ10_3672 qr10_3671 => ?_)
      obtain ⟨hr10_3671, bσ10_3672⟩ := qr10_3671
      refine ok_if (fun c_3673 => ?_) (fun c_3673 => ?_)
      · unfold F_X12_when_70
        refine ok_if (fun c_3674 => ?_) (fun c_3674 => ?_)
        · unfold F_X12_when_84
          refine ok_nm (fun x13_3675 hx13_3675 => ?_)
          exact ih _ _ _ _ _ _ r_v1 r_v2 (rg_w (rg_eq hx13_3675 (rg_add (l := 1) (h := 20) (rg_lt (nle c_3668) r_v5 r_v1) (show rg (1 : Int32) (1) (1) from ⟨by decide, by decide⟩) (by decide) (by decide) (by decide) (by decide))) (by decide) (by decide)) (ms_s hx13_3675 (rg_lt (nle c_3668) r_v5 r_v1) (by decide) (by decide) hm) bσ10_3672
        · unfold F_X12_when_84
          refine ok_nm (fun x13_3676 hx13_3676 => ?_)
          exact ih _ _ _ _ _ _ r_v1 r_v2 (rg_w (rg_eq hx13_3676 (rg_add (l := 1) (h := 20) (rg_lt (nle c_3668) r_v5 r_v1) (show rg (1 : Int32) (1) (1) from ⟨by decide, by decide⟩) (by decide) (by decide) (by decide) (by decide))) (by decide) (by decide)) (ms_s hx13_3676 (rg_lt (nle c_3668) r_v5 r_v1) (by decide) (by decide) hm) bσ10_3672
      · unfold F_X12_when_70
        refine ok_if (fun c_3677 => ?_) (fun c_3677 => ?_)
        · unfold F_X12_when_84
          refine ok_nm (fun x13_3678 hx13_3678 => ?_)
          exact ih _ _ _ _ _ _ r_v1 r_v2 (rg_w (rg_eq hx13_3678 (rg_add (l := 1) (h := 20) (rg_lt (nle c_3668) r_v5 r_v1) (show rg (1 : Int32) (1) (1) from ⟨by decide, by decide⟩) (by decide) (by decide) (by decide) (by decide))) (by decide) (by decide)) (ms_s hx13_3678 (rg_lt (nle c_3668) r_v5 r_v1) (by decide) (by decide) hm) bσ10_3672
        · unfold F_X12_when_84
          refine ok_nm (fun x13_3679 hx13_3679 => ?_)
          exact ih _ _ _ _ _ _ r_v1 r_v2 (rg_w (rg_eq hx13_3679 (rg_add (l := 1) (h := 20) (rg_lt (nle c_3668) r_v5 r_v1) (show rg (1 : Int32) (1) (1) from ⟨by decide, by decide⟩) (by decide) (by decide) (by decide) (by decide))) (by decide) (by decide)) (ms_s hx13_3679 (rg_lt (nle c_3668) r_v5 r_v1) (by decide) (by decide) hm) bσ10_3672

set_option maxHeartbeats 4000000 in
set_option maxRecDepth 100000 in
theorem s_X12_when {g : Nat → Int32} {m : Int} {a1 : Int32} {a2 : Int32} {σ : SG} {ρ : RG} (hB : BF g m σ) : ok (F_X12_when a1 a2 σ ρ) (fun q => rg q.1 (-2147483648) (2147483647) ∧ BF g m q.2) := by
  unfold F_X12_when
  refine ok_bn (s_X12_in) (fun r1_3680 qr1_3680 => ?_)
  refine ok_if (fun c_3681 => ?_) (fun c_3681 => ?_)
  · exact ok_some ⟨(rg_w (show rg (-1 : Int32) (-1) (-1) from ⟨by decide, by decide⟩) (by decide) (by decide)), hB⟩
  · obtain ⟨w_3682, w_3683⟩ := qr1_3680.2 c_3681
    refine ok_bn (s_X12_in) (fun r3_3684 qr3_3684 => ?_)
    refine ok_if (fun c_3685 => ?_) (fun c_3685 => ?_)
    · exact ok_some ⟨(rg_w (show rg (-2 : Int32) (-2) (-2) from ⟨by decide, by decide⟩) (by decide) (by decide)), hB⟩
    · obtain ⟨w_3686, w_3687⟩ := qr3_3684.2 c_3685
      refine ok_bn (s_X12_keeps hB) (fun σ5_3688 qσ5_3688 => ?_)
      refine ok_bn2 (s_X12_goodBy (rg_w (rg_le w_3687 (rg_ge w_3686 (show rg (1 : Int32) (1) (1) from ⟨by decide, by decide⟩) (rg_any _)) (show rg (20 : Int32) (20) (20) from ⟨by decide, by decide⟩)) (by decide) (by decide)) qσ5_3688) (fun r6_3689 σ6_3690 qr6_3689 => ?_)
      obtain ⟨hr6_3689, bσ6_3690⟩ := qr6_3689
      exact (s_X12_when_42 (rg_le w_3687 (rg_ge w_3686 (show rg (1 : Int32) (1) (1) from ⟨by decide, by decide⟩) (rg_any _)) (show rg (20 : Int32) (20) (20) from ⟨by decide, by decide⟩)) (rg_le w_3683 (rg_ge w_3682 (show rg (0 : Int32) (0) (0) from ⟨by decide, by decide⟩) (rg_any _)) (show rg (1 : Int32) (1) (1) from ⟨by decide, by decide⟩)) 1024 _ _ _ _ _ _ (rg_le w_3687 (rg_ge w_3686 (show rg (1 : Int32) (1) (1) from ⟨by decide, by decide⟩) (rg_any _)) (show rg (20 : Int32) (20) (20) from ⟨by decide, by decide⟩)) (rg_le w_3683 (rg_ge w_3682 (show rg (0 : Int32) (0) (0) from ⟨by decide, by decide⟩) (rg_any _)) (show rg (1 : Int32) (1) (1) from ⟨by decide, by decide⟩)) (rg_w (show rg (0 : Int32) (0) (0) from ⟨by decide, by decide⟩) (by decide) (by decide)) (ms_0 (show rg (0 : Int32) (0) (0) from ⟨by decide, by decide⟩) (by decide)) bσ6_3690)

set_option maxHeartbeats 4000000 in
set_option maxRecDepth 100000 in
theorem s_X12_guide {g : Nat → Int32} {m : Int} {a1 : Int32} {σ : SG} {ρ : RG} (hB : BF g m σ) : ok (F_X12_guide a1 σ ρ) (fun q => rg q.1 (-2147483648) (2147483647) ∧ BF g m q.2) := by
  unfold F_X12_guide
  refine ok_bn (s_X12_in) (fun r1_3703 qr1_3703 => ?_)
  refine ok_if (fun c_3704 => ?_) (fun c_3704 => ?_)
  · exact ok_some ⟨(rg_w (show rg (-10002 : Int32) (-10002) (-10002) from ⟨by decide, by decide⟩) (by decide) (by decide)), hB⟩
  · obtain ⟨w_3705, w_3706⟩ := qr1_3703.2 c_3704
    refine ok_bn (s_X12_keeps hB) (fun σ3_3707 qσ3_3707 => ?_)
    refine ok_bn2 (s_X12_goodBy (rg_le w_3706 (rg_ge w_3705 (show rg (0 : Int32) (0) (0) from ⟨by decide, by decide⟩) (rg_any _)) (show rg (40 : Int32) (40) (40) from ⟨by decide, by decide⟩)) qσ3_3707) (fun r4_3708 σ4_3709 qr4_3708 => ?_)
    obtain ⟨hr4_3708, bσ4_3709⟩ := qr4_3708
    refine ok_nm (fun σ6_3710 hσ6_3710 => ?_)
    have bσ6_3710 : BF g m σ6_3710 := by rw [hσ6_3710]; exact bf_set bσ4_3709 (rg_any _) (by decide)
    refine ok_bn2 (s_X12_goodBy (rg_le w_3706 (rg_ge w_3705 (show rg (0 : Int32) (0) (0) from ⟨by decide, by decide⟩) (rg_any _)) (show rg (40 : Int32) (40) (40) from ⟨by decide, by decide⟩)) bσ6_3710) (fun r7_3711 σ7_3712 qr7_3711 => ?_)
    obtain ⟨hr7_3711, bσ7_3712⟩ := qr7_3711
    refine ok_nm (fun σ9_3713 hσ9_3713 => ?_)
    have bσ9_3713 : BF g m σ9_3713 := by rw [hσ9_3713]; exact bf_set bσ7_3712 (rg_any _) (by decide)
    refine ok_nm (fun x10_3714 hx10_3714 => ?_)
    exact ok_some ⟨(rg_any _), bσ9_3713⟩

set_option maxHeartbeats 4000000 in
set_option maxRecDepth 100000 in
theorem s_X12_again_24 {g : Nat → Int32} {m : Int} {a1 : Int32} {ρ : RG} (r_a1 : rg a1 (0) (5)) : ∀ (n : Nat) (σ : SG) (v1 : Int32) (v2 : Int32) (v3 : Int32), rg v1 (0) (5) → rg v3 (1) (21) → (21 : Int) - v3.toInt < (n : Int) → BF g m σ → ok (F_X12_again_24 a1 n σ ρ v1 v2 v3) (fun q => rg q.1 (-2147483648) (2147483647) ∧ BF g m q.2) := by
  intro n
  induction n with
  | zero => intro σ v1 v2 v3 r_v1 r_v3 hm hB; exact (ms_z r_v3 (by decide) hm).elim
  | succ n ih =>
    intro σ v1 v2 v3 r_v1 r_v3 hm hB
    unfold F_X12_again_24
    refine ok_if (fun c_3736 => ?_) (fun c_3736 => ?_)
    · unfold F_X12_again_106
      refine ok_nm (fun σ8_3737 hσ8_3737 => ?_)
      have bσ8_3737 : BF g m σ8_3737 := by rw [hσ8_3737]; exact bf_set hB (rg_any _) (by decide)
      refine ok_bn (s_X12_goesBack bσ8_3737) (fun σ9_3738 qσ9_3738 => ?_)
      exact ok_some ⟨(rg_any _), qσ9_3738⟩
    · refine ok_if (fun c_3739 => ?_) (fun c_3739 => ?_)
      · refine ok_nm (fun x11_3740 hx11_3740 => ?_)
        refine ok_gd (rg_inb (rg_eq hx11_3740 (rg_add (l := 44) (h := 49) (show rg (44 : Int32) (44) (44) from ⟨by decide, by decide⟩) r_v1 (by decide) (by decide) (by decide) (by decide))) (by decide) (by decide)) ?_
        refine ok_bn2 (s_X12_cuts r_v1 hB) (fun r13_3741 σ13_3742 qr13_3741 => ?_)
        obtain ⟨hr13_3741, bσ13_3742⟩ := qr13_3741
        refine ok_nm (fun σ15_3743 hσ15_3743 => ?_)
        have bσ15_3743 : BF g m σ15_3743 := by rw [hσ15_3743]; exact bf_set bσ13_3742 (rg_any _) (by decide)
        refine ok_if (fun c_3744 => ?_) (fun c_3744 => ?_)
        · refine ok_if (fun c_3745 => ?_) (fun c_3745 => ?_)
          · unfold F_X12_again_99
            refine ok_nm (fun x17_3746 hx17_3746 => ?_)
            exact ih _ _ _ _ r_v1 (rg_w (rg_eq hx17_3746 (rg_add (l := 2) (h := 21) (rg_le (nlt c_3736) r_v3 (show rg (20 : Int32) (20) (20) from ⟨by decide, by decide⟩)) (show rg (1 : Int32) (1) (1) from ⟨by decide, by decide⟩) (by decide) (by decide) (by decide) (by decide))) (by decide) (by decide)) (ms_s hx17_3746 (rg_le (nlt c_3736) r_v3 (show rg (20 : Int32) (20) (20) from ⟨by decide, by decide⟩)) (by decide) (by decide) hm) bσ15_3743
          · unfold F_X12_again_97
            unfold F_X12_again_99
            refine ok_nm (fun x17_3747 hx17_3747 => ?_)
            exact ih _ _ _ _ r_v1 (rg_w (rg_eq hx17_3747 (rg_add (l := 2) (h := 21) (rg_le (nlt c_3736) r_v3 (show rg (20 : Int32) (20) (20) from ⟨by decide, by decide⟩)) (show rg (1 : Int32) (1) (1) from ⟨by decide, by decide⟩) (by decide) (by decide) (by decide) (by decide))) (by decide) (by decide)) (ms_s hx17_3747 (rg_le (nlt c_3736) r_v3 (show rg (20 : Int32) (20) (20) from ⟨by decide, by decide⟩)) (by decide) (by decide) hm) bσ15_3743
        · unfold F_X12_again_97
          unfold F_X12_again_99
          refine ok_nm (fun x17_3748 hx17_3748 => ?_)
          exact ih _ _ _ _ r_v1 (rg_w (rg_eq hx17_3748 (rg_add (l := 2) (h := 21) (rg_le (nlt c_3736) r_v3 (show rg (20 : Int32) (20) (20) from ⟨by decide, by decide⟩)) (show rg (1 : Int32) (1) (1) from ⟨by decide, by decide⟩) (by decide) (by decide) (by decide) (by decide))) (by decide) (by decide)) (ms_s hx17_3748 (rg_le (nlt c_3736) r_v3 (show rg (20 : Int32) (20) (20) from ⟨by decide, by decide⟩)) (by decide) (by decide) hm) bσ15_3743
      · unfold F_X12_again_106
        refine ok_nm (fun σ8_3749 hσ8_3749 => ?_)
        have bσ8_3749 : BF g m σ8_3749 := by rw [hσ8_3749]; exact bf_set hB (rg_any _) (by decide)
        refine ok_bn (s_X12_goesBack bσ8_3749) (fun σ9_3750 qσ9_3750 => ?_)
        exact ok_some ⟨(rg_any _), qσ9_3750⟩

set_option maxHeartbeats 4000000 in
set_option maxRecDepth 100000 in
theorem s_X12_again {g : Nat → Int32} {m : Int} {a1 : Int32} {σ : SG} {ρ : RG} (hB : BF g m σ) : ok (F_X12_again a1 σ ρ) (fun q => rg q.1 (-2147483648) (2147483647) ∧ BF g m q.2) := by
  unfold F_X12_again
  refine ok_bn (s_X12_isCutter hB.1) (fun r1_3751 qr1_3751 => ?_)
  refine ok_if (fun c_3752 => ?_) (fun c_3752 => ?_)
  · exact ok_some ⟨(rg_w (show rg (-1 : Int32) (-1) (-1) from ⟨by decide, by decide⟩) (by decide) (by decide)), hB⟩
  · obtain ⟨w_3753, w_3754⟩ := qr1_3751.2 c_3752
    refine ok_bn (s_X12_keeps hB) (fun σ3_3755 qσ3_3755 => ?_)
    refine ok_nm (fun σ5_3756 hσ5_3756 => ?_)
    have bσ5_3756 : BF g m σ5_3756 := by rw [hσ5_3756]; exact bf_set qσ3_3755 (rg_any _) (by decide)
    exact (s_X12_again_24 (rg_le w_3754 (rg_ge w_3753 (show rg (0 : Int32) (0) (0) from ⟨by decide, by decide⟩) (rg_any _)) (show rg (5 : Int32) (5) (5) from ⟨by decide, by decide⟩)) 1024 _ _ _ _ (rg_le w_3754 (rg_ge w_3753 (show rg (0 : Int32) (0) (0) from ⟨by decide, by decide⟩) (rg_any _)) (show rg (5 : Int32) (5) (5) from ⟨by decide, by decide⟩)) (rg_w (show rg (1 : Int32) (1) (1) from ⟨by decide, by decide⟩) (by decide) (by decide)) (ms_0 (show rg (1 : Int32) (1) (1) from ⟨by decide, by decide⟩) (by decide)) bσ5_3756)

set_option maxHeartbeats 4000000 in
set_option maxRecDepth 100000 in
theorem s_X12_evener_61 {g : Nat → Int32} {m : Int} {a1 : Int32} {a2 : Int32} {ρ : RG} (r_a1 : rg a1 (0) (40)) (r_a2 : rg a2 (0) (1)) : ∀ (n : Nat) (σ : SG) (v2 : Int32) (v3 : Int32) (v4 : Int32) (v5 : Int32), rg v2 (0) (1) → rg v3 (0) (5) → rg v5 (1) (6) → (6 : Int) - v5.toInt < (n : Int) → BF g m σ → ok (F_X12_evener_61 a1 a2 n σ ρ v2 v3 v4 v5) (fun q => rg q.1 (-2147483648) (2147483647) ∧ BF g m q.2) := by
  intro n
  induction n with
  | zero => intro σ v2 v3 v4 v5 r_v2 r_v3 r_v5 hm hB; exact (ms_z r_v5 (by decide) hm).elim
  | succ n ih =>
    intro σ v2 v3 v4 v5 r_v2 r_v3 r_v5 hm hB
    unfold F_X12_evener_61
    refine ok_if (fun c_3786 => ?_) (fun c_3786 => ?_)
    · refine ok_nm (fun x9_3787 hx9_3787 => ?_)
      refine ok_gd (rg_inb (rg_eq hx9_3787 (rg_add (l := 5) (h := 10) (show rg (5 : Int32) (5) (5) from ⟨by decide, by decide⟩) r_v3 (by decide) (by decide) (by decide) (by decide))) (by decide) (by decide)) ?_
      refine ok_nm (fun x11_3788 hx11_3788 => ?_)
      refine ok_bn (s_X12_goesBack hB) (fun σ12_3789 qσ12_3789 => ?_)
      refine ok_if (fun c_3790 => ?_) (fun c_3790 => ?_)
      · exact ok_some ⟨(rg_w r_v3 (by decide) (by decide)), qσ12_3789⟩
      · exact ok_some ⟨(rg_any _), qσ12_3789⟩
    · refine ok_nm (fun x14_3791 hx14_3791 => ?_)
      refine ok_gd (rg_inb (rg_eq hx14_3791 (rg_add (l := 6) (h := 10) (show rg (5 : Int32) (5) (5) from ⟨by decide, by decide⟩) (rg_lt (nle c_3786) r_v5 (rg_gt (nle c_3786) r_v5 (bx_get hB.1 (r := 55) (a := 11) (b := 11) (k := 11) (l := 0) (h := 6) (by decide) (by decide) (by decide)))) (by decide) (by decide) (by decide) (by decide))) (by decide) (by decide)) ?_
      refine ok_nm (fun x16_3792 hx16_3792 => ?_)
      refine ok_gd (rg_inb (rg_eq hx16_3792 (rg_add (l := 5) (h := 10) (show rg (5 : Int32) (5) (5) from ⟨by decide, by decide⟩) r_v3 (by decide) (by decide) (by decide) (by decide))) (by decide) (by decide)) ?_
      refine ok_if (fun c_3793 => ?_) (fun c_3793 => ?_)
      · unfold F_X12_evener_99
        refine ok_nm (fun x19_3794 hx19_3794 => ?_)
        refine ok_gd (rg_inb (rg_eq (hx19_3794.trans hx14_3791.symm) (rg_eq hx14_3791 (rg_add (l := 6) (h := 10) (show rg (5 : Int32) (5) (5) from ⟨by decide, by decide⟩) (rg_lt (nle c_3786) r_v5 (rg_gt (nle c_3786) r_v5 (bx_get hB.1 (r := 55) (a := 11) (b := 11) (k := 11) (l := 0) (h := 6) (by decide) (by decide) (by decide)))) (by decide) (by decide) (by decide) (by decide)))) (by decide) (by decide)) ?_
        refine ok_if (fun c_3795 => ?_) (fun c_3795 => ?_)
        · unfold F_X12_evener_128
          refine ok_nm (fun x22_3796 hx22_3796 => ?_)
          exact ih _ _ _ _ _ r_v2 r_v3 (rg_w (rg_eq hx22_3796 (rg_add (l := 2) (h := 6) (rg_lt (nle c_3786) r_v5 (rg_gt (nle c_3786) r_v5 (bx_get hB.1 (r := 55) (a := 11) (b := 11) (k := 11) (l := 0) (h := 6) (by decide) (by decide) (by decide)))) (show rg (1 : Int32) (1) (1) from ⟨by decide, by decide⟩) (by decide) (by decide) (by decide) (by decide))) (by decide) (by decide)) (ms_s hx22_3796 (rg_lt (nle c_3786) r_v5 (rg_gt (nle c_3786) r_v5 (bx_get hB.1 (r := 55) (a := 11) (b := 11) (k := 11) (l := 0) (h := 6) (by decide) (by decide) (by decide)))) (by decide) (by decide) hm) hB
        · refine ok_nm (fun x23_3797 hx23_3797 => ?_)
          refine ok_gd (rg_inb (rg_eq (hx23_3797.trans hx19_3794.symm) (rg_eq (hx19_3794.trans hx14_3791.symm) (rg_eq hx14_3791 (rg_add (l := 6) (h := 10) (show rg (5 : Int32) (5) (5) from ⟨by decide, by decide⟩) (rg_lt (nle c_3786) r_v5 (rg_gt (nle c_3786) r_v5 (bx_get hB.1 (r := 55) (a := 11) (b := 11) (k := 11) (l := 0) (h := 6) (by decide) (by decide) (by decide)))) (by decide) (by decide) (by decide) (by decide))))) (by decide) (by decide)) ?_
          unfold F_X12_evener_128
          refine ok_nm (fun x22_3798 hx22_3798 => ?_)
          exact ih _ _ _ _ _ r_v2 r_v3 (rg_w (rg_eq hx22_3798 (rg_add (l := 2) (h := 6) (rg_lt (nle c_3786) r_v5 (rg_gt (nle c_3786) r_v5 (bx_get hB.1 (r := 55) (a := 11) (b := 11) (k := 11) (l := 0) (h := 6) (by decide) (by decide) (by decide)))) (show rg (1 : Int32) (1) (1) from ⟨by decide, by decide⟩) (by decide) (by decide) (by decide) (by decide))) (by decide) (by decide)) (ms_s hx22_3798 (rg_lt (nle c_3786) r_v5 (rg_gt (nle c_3786) r_v5 (bx_get hB.1 (r := 55) (a := 11) (b := 11) (k := 11) (l := 0) (h := 6) (by decide) (by decide) (by decide)))) (by decide) (by decide) hm) hB
      · unfold F_X12_evener_99
        refine ok_nm (fun x19_3799 hx19_3799 => ?_)
        refine ok_gd (rg_inb (rg_eq (hx19_3799.trans hx14_3791.symm) (rg_eq hx14_3791 (rg_add (l := 6) (h := 10) (show rg (5 : Int32) (5) (5) from ⟨by decide, by decide⟩) (rg_lt (nle c_3786) r_v5 (rg_gt (nle c_3786) r_v5 (bx_get hB.1 (r := 55) (a := 11) (b := 11) (k := 11) (l := 0) (h := 6) (by decide) (by decide) (by decide)))) (by decide) (by decide) (by decide) (by decide)))) (by decide) (by decide)) ?_
        refine ok_if (fun c_3800 => ?_) (fun c_3800 => ?_)
        · unfold F_X12_evener_128
          refine ok_nm (fun x22_3801 hx22_3801 => ?_)
          exact ih _ _ _ _ _ r_v2 (rg_w (rg_lt (nle c_3786) r_v5 (rg_gt (nle c_3786) r_v5 (bx_get hB.1 (r := 55) (a := 11) (b := 11) (k := 11) (l := 0) (h := 6) (by decide) (by decide) (by decide)))) (by decide) (by decide)) (rg_w (rg_eq hx22_3801 (rg_add (l := 2) (h := 6) (rg_lt (nle c_3786) r_v5 (rg_gt (nle c_3786) r_v5 (bx_get hB.1 (r := 55) (a := 11) (b := 11) (k := 11) (l := 0) (h := 6) (by decide) (by decide) (by decide)))) (show rg (1 : Int32) (1) (1) from ⟨by decide, by decide⟩) (by decide) (by decide) (by decide) (by decide))) (by decide) (by decide)) (ms_s hx22_3801 (rg_lt (nle c_3786) r_v5 (rg_gt (nle c_3786) r_v5 (bx_get hB.1 (r := 55) (a := 11) (b := 11) (k := 11) (l := 0) (h := 6) (by decide) (by decide) (by decide)))) (by decide) (by decide) hm) hB
        · refine ok_nm (fun x23_3802 hx23_3802 => ?_)
          refine ok_gd (rg_inb (rg_eq (hx23_3802.trans hx19_3799.symm) (rg_eq (hx19_3799.trans hx14_3791.symm) (rg_eq hx14_3791 (rg_add (l := 6) (h := 10) (show rg (5 : Int32) (5) (5) from ⟨by decide, by decide⟩) (rg_lt (nle c_3786) r_v5 (rg_gt (nle c_3786) r_v5 (bx_get hB.1 (r := 55) (a := 11) (b := 11) (k := 11) (l := 0) (h := 6) (by decide) (by decide) (by decide)))) (by decide) (by decide) (by decide) (by decide))))) (by decide) (by decide)) ?_
          unfold F_X12_evener_128
          refine ok_nm (fun x22_3803 hx22_3803 => ?_)
          exact ih _ _ _ _ _ r_v2 (rg_w (rg_lt (nle c_3786) r_v5 (rg_gt (nle c_3786) r_v5 (bx_get hB.1 (r := 55) (a := 11) (b := 11) (k := 11) (l := 0) (h := 6) (by decide) (by decide) (by decide)))) (by decide) (by decide)) (rg_w (rg_eq hx22_3803 (rg_add (l := 2) (h := 6) (rg_lt (nle c_3786) r_v5 (rg_gt (nle c_3786) r_v5 (bx_get hB.1 (r := 55) (a := 11) (b := 11) (k := 11) (l := 0) (h := 6) (by decide) (by decide) (by decide)))) (show rg (1 : Int32) (1) (1) from ⟨by decide, by decide⟩) (by decide) (by decide) (by decide) (by decide))) (by decide) (by decide)) (ms_s hx22_3803 (rg_lt (nle c_3786) r_v5 (rg_gt (nle c_3786) r_v5 (bx_get hB.1 (r := 55) (a := 11) (b := 11) (k := 11) (l := 0) (h := 6) (by decide) (by decide) (by decide)))) (by decide) (by decide) hm) hB

set_option maxHeartbeats 4000000 in
set_option maxRecDepth 100000 in
theorem s_X12_evener {g : Nat → Int32} {m : Int} {a1 : Int32} {a2 : Int32} {σ : SG} {ρ : RG} (hB : BF g m σ) : ok (F_X12_evener a1 a2 σ ρ) (fun q => rg q.1 (-2147483648) (2147483647) ∧ BF g m q.2) := by
  unfold F_X12_evener
  refine ok_bn (s_X12_in) (fun r1_3804 qr1_3804 => ?_)
  refine ok_if (fun c_3805 => ?_) (fun c_3805 => ?_)
  · exact ok_some ⟨(rg_w (show rg (-1 : Int32) (-1) (-1) from ⟨by decide, by decide⟩) (by decide) (by decide)), hB⟩
  · obtain ⟨w_3806, w_3807⟩ := qr1_3804.2 c_3805
    refine ok_bn (s_X12_in) (fun r3_3808 qr3_3808 => ?_)
    refine ok_if (fun c_3809 => ?_) (fun c_3809 => ?_)
    · exact ok_some ⟨(rg_w (show rg (-2 : Int32) (-2) (-2) from ⟨by decide, by decide⟩) (by decide) (by decide)), hB⟩
    · obtain ⟨w_3810, w_3811⟩ := qr3_3808.2 c_3809
      refine ok_if (fun c_3812 => ?_) (fun c_3812 => ?_)
      · exact ok_some ⟨(rg_w (show rg (-5 : Int32) (-5) (-5) from ⟨by decide, by decide⟩) (by decide) (by decide)), hB⟩
      · refine ok_bn (s_X12_keeps hB) (fun σ6_3813 qσ6_3813 => ?_)
        refine ok_bn (s_X12_goesOn (rg_w (rg_le w_3811 (rg_ge w_3810 (show rg (0 : Int32) (0) (0) from ⟨by decide, by decide⟩) (rg_any _)) (show rg (40 : Int32) (40) (40) from ⟨by decide, by decide⟩)) (by decide) (by decide)) qσ6_3813) (fun σ7_3814 qσ7_3814 => ?_)
        exact (s_X12_evener_61 (rg_le w_3811 (rg_ge w_3810 (show rg (0 : Int32) (0) (0) from ⟨by decide, by decide⟩) (rg_any _)) (show rg (40 : Int32) (40) (40) from ⟨by decide, by decide⟩)) (rg_le w_3807 (rg_ge w_3806 (show rg (0 : Int32) (0) (0) from ⟨by decide, by decide⟩) (rg_any _)) (show rg (1 : Int32) (1) (1) from ⟨by decide, by decide⟩)) 1024 _ _ _ _ _ (rg_le w_3807 (rg_ge w_3806 (show rg (0 : Int32) (0) (0) from ⟨by decide, by decide⟩) (rg_any _)) (show rg (1 : Int32) (1) (1) from ⟨by decide, by decide⟩)) (rg_w (show rg (0 : Int32) (0) (0) from ⟨by decide, by decide⟩) (by decide) (by decide)) (rg_w (show rg (1 : Int32) (1) (1) from ⟨by decide, by decide⟩) (by decide) (by decide)) (ms_0 (show rg (1 : Int32) (1) (1) from ⟨by decide, by decide⟩) (by decide)) qσ7_3814)

set_option maxHeartbeats 4000000 in
set_option maxRecDepth 100000 in
theorem s_X12_who_8 {g : Nat → Int32} {m : Int} {ρ : RG} : ∀ (n : Nat) (σ : SG) (v1 : Int32) (v2 : Int32), rg v2 (0) (6) → (6 : Int) - v2.toInt < (n : Int) → BF g m σ → ok (F_X12_who_8 n σ ρ v1 v2) (fun q => rg q.1 (-2147483648) (2147483647) ∧ BF g m q.2) := by
  intro n
  induction n with
  | zero => intro σ v1 v2 r_v2 hm hB; exact (ms_z r_v2 (by decide) hm).elim
  | succ n ih =>
    intro σ v1 v2 r_v2 hm hB
    unfold F_X12_who_8
    refine ok_if (fun c_3836 => ?_) (fun c_3836 => ?_)
    · exact ok_some ⟨(rg_any _), hB⟩
    · refine ok_nm (fun x3_3837 hx3_3837 => ?_)
      refine ok_gd (rg_inb (rg_eq hx3_3837 (rg_add (l := 44) (h := 49) (show rg (44 : Int32) (44) (44) from ⟨by decide, by decide⟩) (rg_lt (nle c_3836) r_v2 (rg_gt (nle c_3836) r_v2 (bx_get hB.1 (r := 55) (a := 11) (b := 11) (k := 11) (l := 0) (h := 6) (by decide) (by decide) (by decide)))) (by decide) (by decide) (by decide) (by decide))) (by decide) (by decide)) ?_
      refine ok_bn2 (s_X12_cuts (rg_lt (nle c_3836) r_v2 (rg_gt (nle c_3836) r_v2 (bx_get hB.1 (r := 55) (a := 11) (b := 11) (k := 11) (l := 0) (h := 6) (by decide) (by decide) (by decide)))) hB) (fun r5_3838 σ5_3839 qr5_3838 => ?_)
      obtain ⟨hr5_3838, bσ5_3839⟩ := qr5_3838
      refine ok_if (fun c_3840 => ?_) (fun c_3840 => ?_)
      · unfold F_X12_who_75
        unfold F_X12_who_76
        refine ok_nm (fun x7_3841 hx7_3841 => ?_)
        refine ok_bn (s_X12_goesBack bσ5_3839) (fun σ8_3842 qσ8_3842 => ?_)
        refine ok_nm (fun x9_3843 hx9_3843 => ?_)
        exact ih _ _ _ (rg_w (rg_eq hx9_3843 (rg_add (l := 1) (h := 6) (rg_lt (nle c_3836) r_v2 (rg_gt (nle c_3836) r_v2 (bx_get hB.1 (r := 55) (a := 11) (b := 11) (k := 11) (l := 0) (h := 6) (by decide) (by decide) (by decide)))) (show rg (1 : Int32) (1) (1) from ⟨by decide, by decide⟩) (by decide) (by decide) (by decide) (by decide))) (by decide) (by decide)) (ms_s hx9_3843 (rg_lt (nle c_3836) r_v2 (rg_gt (nle c_3836) r_v2 (bx_get hB.1 (r := 55) (a := 11) (b := 11) (k := 11) (l := 0) (h := 6) (by decide) (by decide) (by decide)))) (by decide) (by decide) hm) qσ8_3842
      · refine ok_if (fun c_3844 => ?_) (fun c_3844 => ?_)
        · refine ok_if (fun c_3845 => ?_) (fun c_3845 => ?_)
          · refine ok_nm (fun x12_3846 hx12_3846 => ?_)
            unfold F_X12_who_76
            refine ok_nm (fun x7_3847 hx7_3847 => ?_)
            refine ok_bn (s_X12_goesBack bσ5_3839) (fun σ8_3848 qσ8_3848 => ?_)
            refine ok_nm (fun x9_3849 hx9_3849 => ?_)
            exact ih _ _ _ (rg_w (rg_eq hx9_3849 (rg_add (l := 1) (h := 6) (rg_lt (nle c_3836) r_v2 (rg_gt (nle c_3836) r_v2 (bx_get hB.1 (r := 55) (a := 11) (b := 11) (k := 11) (l := 0) (h := 6) (by decide) (by decide) (by decide)))) (show rg (1 : Int32) (1) (1) from ⟨by decide, by decide⟩) (by decide) (by decide) (by decide) (by decide))) (by decide) (by decide)) (ms_s hx9_3849 (rg_lt (nle c_3836) r_v2 (rg_gt (nle c_3836) r_v2 (bx_get hB.1 (r := 55) (a := 11) (b := 11) (k := 11) (l := 0) (h := 6) (by decide) (by decide) (by decide)))) (by decide) (by decide) hm) qσ8_3848
          · unfold F_X12_who_75
            unfold F_X12_who_76
            refine ok_nm (fun x7_3850 hx7_3850 => ?_)
            refine ok_bn (s_X12_goesBack bσ5_3839) (fun σ8_3851 qσ8_3851 => ?_)
            refine ok_nm (fun x9_3852 hx9_3852 => ?_)
            exact ih _ _ _ (rg_w (rg_eq hx9_3852 (rg_add (l := 1) (h := 6) (rg_lt (nle c_3836) r_v2 (rg_gt (nle c_3836) r_v2 (bx_get hB.1 (r := 55) (a := 11) (b := 11) (k := 11) (l := 0) (h := 6) (by decide) (by decide) (by decide)))) (show rg (1 : Int32) (1) (1) from ⟨by decide, by decide⟩) (by decide) (by decide) (by decide) (by decide))) (by decide) (by decide)) (ms_s hx9_3852 (rg_lt (nle c_3836) r_v2 (rg_gt (nle c_3836) r_v2 (bx_get hB.1 (r := 55) (a := 11) (b := 11) (k := 11) (l := 0) (h := 6) (by decide) (by decide) (by decide)))) (by decide) (by decide) hm) qσ8_3851
        · unfold F_X12_who_75
          unfold F_X12_who_76
          refine ok_nm (fun x7_3853 hx7_3853 => ?_)
          refine ok_bn (s_X12_goesBack bσ5_3839) (fun σ8_3854 qσ8_3854 => ?_)
          refine ok_nm (fun x9_3855 hx9_3855 => ?_)
          exact ih _ _ _ (rg_w (rg_eq hx9_3855 (rg_add (l := 1) (h := 6) (rg_lt (nle c_3836) r_v2 (rg_gt (nle c_3836) r_v2 (bx_get hB.1 (r := 55) (a := 11) (b := 11) (k := 11) (l := 0) (h := 6) (by decide) (by decide) (by decide)))) (show rg (1 : Int32) (1) (1) from ⟨by decide, by decide⟩) (by decide) (by decide) (by decide) (by decide))) (by decide) (by decide)) (ms_s hx9_3855 (rg_lt (nle c_3836) r_v2 (rg_gt (nle c_3836) r_v2 (bx_get hB.1 (r := 55) (a := 11) (b := 11) (k := 11) (l := 0) (h := 6) (by decide) (by decide) (by decide)))) (by decide) (by decide) hm) qσ8_3854

set_option maxHeartbeats 4000000 in
set_option maxRecDepth 100000 in
theorem s_X12_who {g : Nat → Int32} {m : Int} {σ : SG} {ρ : RG} (hB : BF g m σ) : ok (F_X12_who σ ρ) (fun q => rg q.1 (-2147483648) (2147483647) ∧ BF g m q.2) := by
  unfold F_X12_who
  refine ok_bn (s_X12_keeps hB) (fun σ1_3856 qσ1_3856 => ?_)
  exact (s_X12_who_8 1024 _ _ _ (rg_w (show rg (0 : Int32) (0) (0) from ⟨by decide, by decide⟩) (by decide) (by decide)) (ms_0 (show rg (0 : Int32) (0) (0) from ⟨by decide, by decide⟩) (by decide)) qσ1_3856)

set_option maxHeartbeats 4000000 in
set_option maxRecDepth 100000 in
theorem s_X12_looked_9 {g : Nat → Int32} {m : Int} {ρ : RG} : ∀ (n : Nat) (σ : SG) (v1 : Int32) (v2 : Int32), rg v2 (0) (8) → (8 : Int) - v2.toInt < (n : Int) → BF g m σ → ok (F_X12_looked_9 n σ ρ v1 v2) (fun q => rg q.1 (-2147483648) (2147483647) ∧ BF g m q.2) := by
  intro n
  induction n with
  | zero => intro σ v1 v2 r_v2 hm hB; exact (ms_z r_v2 (by decide) hm).elim
  | succ n ih =>
    intro σ v1 v2 r_v2 hm hB
    unfold F_X12_looked_9
    refine ok_if (fun c_3872 => ?_) (fun c_3872 => ?_)
    · refine ok_bn (s_X12_goesBack hB) (fun σ3_3873 qσ3_3873 => ?_)
      exact ok_some ⟨(rg_any _), qσ3_3873⟩
    · refine ok_if (fun c_3874 => ?_) (fun c_3874 => ?_)
      · refine ok_nm (fun x6_3875 hx6_3875 => ?_)
        refine ok_gd (rg_inb (rg_eq hx6_3875 (rg_add (l := 78) (h := 85) (show rg (78 : Int32) (78) (78) from ⟨by decide, by decide⟩) (rg_lt (nle c_3872) r_v2 (rg_gt (nle c_3872) r_v2 (bx_get hB.1 (r := 55) (a := 14) (b := 14) (k := 14) (l := 0) (h := 8) (by decide) (by decide) (by decide)))) (by decide) (by decide) (by decide) (by decide))) (by decide) (by decide)) ?_
        refine ok_nm (fun x8_3876 hx8_3876 => ?_)
        refine ok_gd (rg_inb (rg_eq hx8_3876 (rg_add (l := 44) (h := 49) (show rg (44 : Int32) (44) (44) from ⟨by decide, by decide⟩) (bx_getx hB.1 (r := 55) (a := 78) (b := 85) (l := 0) (h := 5) (by decide) (rg_w (rg_eq hx6_3875 (rg_add (l := 78) (h := 85) (show rg (78 : Int32) (78) (78) from ⟨by decide, by decide⟩) (rg_lt (nle c_3872) r_v2 (rg_gt (nle c_3872) r_v2 (bx_get hB.1 (r := 55) (a := 14) (b := 14) (k := 14) (l := 0) (h := 8) (by decide) (by decide) (by decide)))) (by decide) (by decide) (by decide) (by decide))) (by decide) (by decide))) (by decide) (by decide) (by decide) (by decide))) (by decide) (by decide)) ?_
        refine ok_bn2 (s_X12_cuts (bx_getx hB.1 (r := 55) (a := 78) (b := 85) (l := 0) (h := 5) (by decide) (rg_w (rg_eq hx6_3875 (rg_add (l := 78) (h := 85) (show rg (78 : Int32) (78) (78) from ⟨by decide, by decide⟩) (rg_lt (nle c_3872) r_v2 (rg_gt (nle c_3872) r_v2 (bx_get hB.1 (r := 55) (a := 14) (b := 14) (k := 14) (l := 0) (h := 8) (by decide) (by decide) (by decide)))) (by decide) (by decide) (by decide) (by decide))) (by decide) (by decide))) hB) (fun r10_3877 σ10_3878 qr10_3877 => ?_)
        obtain ⟨hr10_3877, bσ10_3878⟩ := qr10_3877
        refine ok_if (fun c_3879 => ?_) (fun c_3879 => ?_)
        · unfold F_X12_looked_69
          unfold F_X12_looked_75
          refine ok_nm (fun x12_3880 hx12_3880 => ?_)
          exact ih _ _ _ (rg_w (rg_eq hx12_3880 (rg_add (l := 1) (h := 8) (rg_lt (nle c_3872) r_v2 (rg_gt (nle c_3872) r_v2 (bx_get hB.1 (r := 55) (a := 14) (b := 14) (k := 14) (l := 0) (h := 8) (by decide) (by decide) (by decide)))) (show rg (1 : Int32) (1) (1) from ⟨by decide, by decide⟩) (by decide) (by decide) (by decide) (by decide))) (by decide) (by decide)) (ms_s hx12_3880 (rg_lt (nle c_3872) r_v2 (rg_gt (nle c_3872) r_v2 (bx_get hB.1 (r := 55) (a := 14) (b := 14) (k := 14) (l := 0) (h := 8) (by decide) (by decide) (by decide)))) (by decide) (by decide) hm) bσ10_3878
        · refine ok_nm (fun x13_3881 hx13_3881 => ?_)
          refine ok_gd (rg_inb (rg_eq hx13_3881 (rg_add (l := 86) (h := 93) (show rg (86 : Int32) (86) (86) from ⟨by decide, by decide⟩) (rg_lt (nle c_3872) r_v2 (rg_gt (nle c_3872) r_v2 (bx_get hB.1 (r := 55) (a := 14) (b := 14) (k := 14) (l := 0) (h := 8) (by decide) (by decide) (by decide)))) (by decide) (by decide) (by decide) (by decide))) (by decide) (by decide)) ?_
          refine ok_if (fun c_3882 => ?_) (fun c_3882 => ?_)
          · unfold F_X12_looked_75
            refine ok_nm (fun x12_3883 hx12_3883 => ?_)
            exact ih _ _ _ (rg_w (rg_eq hx12_3883 (rg_add (l := 1) (h := 8) (rg_lt (nle c_3872) r_v2 (rg_gt (nle c_3872) r_v2 (bx_get hB.1 (r := 55) (a := 14) (b := 14) (k := 14) (l := 0) (h := 8) (by decide) (by decide) (by decide)))) (show rg (1 : Int32) (1) (1) from ⟨by decide, by decide⟩) (by decide) (by decide) (by decide) (by decide))) (by decide) (by decide)) (ms_s hx12_3883 (rg_lt (nle c_3872) r_v2 (rg_gt (nle c_3872) r_v2 (bx_get hB.1 (r := 55) (a := 14) (b := 14) (k := 14) (l := 0) (h := 8) (by decide) (by decide) (by decide)))) (by decide) (by decide) hm) bσ10_3878
          · unfold F_X12_looked_69
            unfold F_X12_looked_75
            refine ok_nm (fun x12_3884 hx12_3884 => ?_)
            exact ih _ _ _ (rg_w (rg_eq hx12_3884 (rg_add (l := 1) (h := 8) (rg_lt (nle c_3872) r_v2 (rg_gt (nle c_3872) r_v2 (bx_get hB.1 (r := 55) (a := 14) (b := 14) (k := 14) (l := 0) (h := 8) (by decide) (by decide) (by decide)))) (show rg (1 : Int32) (1) (1) from ⟨by decide, by decide⟩) (by decide) (by decide) (by decide) (by decide))) (by decide) (by decide)) (ms_s hx12_3884 (rg_lt (nle c_3872) r_v2 (rg_gt (nle c_3872) r_v2 (bx_get hB.1 (r := 55) (a := 14) (b := 14) (k := 14) (l := 0) (h := 8) (by decide) (by decide) (by decide)))) (by decide) (by decide) hm) bσ10_3878
      · refine ok_bn (s_X12_goesBack hB) (fun σ5_3885 qσ5_3885 => ?_)
        exact ok_some ⟨(rg_any _), qσ5_3885⟩

set_option maxHeartbeats 4000000 in
set_option maxRecDepth 100000 in
theorem s_X12_looked {g : Nat → Int32} {m : Int} {σ : SG} {ρ : RG} (hB : BF g m σ) : ok (F_X12_looked σ ρ) (fun q => rg q.1 (-2147483648) (2147483647) ∧ BF g m q.2) := by
  unfold F_X12_looked
  refine ok_bn (s_X12_keeps hB) (fun σ1_3886 qσ1_3886 => ?_)
  exact (s_X12_looked_9 1024 _ _ _ (rg_w (show rg (0 : Int32) (0) (0) from ⟨by decide, by decide⟩) (by decide) (by decide)) (ms_0 (show rg (0 : Int32) (0) (0) from ⟨by decide, by decide⟩) (by decide)) qσ1_3886)

theorem s_X12_mean_32 {g : Nat → Int32} {m : Int} {a1 v1 : Int32} {ρ : RG} (hg : ¬ g 11 = 0) : ∀ (n : Nat) (σ : SG) (v2 : Int64) (v4 : Int32), rg v4 0 6 → (6 : Int) - v4.toInt < (n : Int) → BF g m σ → ok (F_X12_mean_32 a1 n σ ρ v1 v2 v4) (fun q => BF g m q.2) := by
  intro n
  induction n with
  | zero => intro σ v2 v4 r4 hm; exact (ms_z r4 (by decide) hm).elim
  | succ n ih =>
    intro σ v2 v4 r4 hm hB
    unfold F_X12_mean_32
    have r11 : rg (σ 55 11) 0 6 := bx_get hB.1 (r := 55) (a := 11) (b := 11) (k := 11) (l := 0) (h := 6) (by decide) (by decide) (by decide)
    have n11 : ¬ σ 55 11 = 0 := by rw [hB.2 11 (by decide)]; exact hg
    have r1 : rg (σ 55 11) 1 6 := rg_nel n11 r11 (show rg (0 : Int32) 0 0 from ⟨by decide, by decide⟩) rfl
    refine ok_if (fun _ => ok_bn (s_X12_lowest (cnt64 r1).1 (cnt64 r1).2) (fun r _ => ok_some hB)) (fun c => ?_)
    have r4' : rg v4 0 5 := rg_lt (nle c) r4 r11
    have i1 := show rg (1 : Int32) 1 1 from ⟨by decide, by decide⟩
    refine ok_nm (fun x7 h7 => ?_)
    have r7 : rg x7 44 49 := rg_eq h7 (rg_add (show rg (44 : Int32) 44 44 from ⟨by decide, by decide⟩) r4' (by decide) (by decide) (by decide) (by decide))
    refine ok_gd (rg_inb r7 (by decide) (by decide)) (ok_bn2 (s_X12_cuts r4' hB) (fun r9 σ9 q9 => ?_))
    have b9 : BF g m σ9 := q9.2
    have go : ∀ k1 : Int64, ok (F_X12_mean_73 a1 (F_X12_mean_32 a1 n) σ9 ρ v1 v4 v2 k1) (fun q => BF g m q.2) := by
      intro k1
      unfold F_X12_mean_73
      refine ok_nm (fun x11 _ => ok_bn (s_X12_goesBack b9) (fun σ12 b12 => ok_nm (fun x13 h13 => ?_)))
      exact ih σ12 x11 x13 (rg_eq h13 (rg_add r4' i1 (by decide) (by decide) (by decide) (by decide))) (ms_s h13 r4' (by decide) (by decide) hm) b12
    exact ok_if (fun _ => go _) (fun _ => go _)
theorem s_X12_mean {g : Nat → Int32} {m : Int} {a1 : Int32} {σ : SG} {ρ : RG} (hB : BF g m σ) : ok (F_X12_mean a1 σ ρ) (fun q => BF g m q.2) := by
  unfold F_X12_mean
  refine ok_bn s_X12_in (fun r h => ok_if (fun _ => ok_some hB) (fun _ => ok_if (fun _ => ok_some hB) (fun c => ?_)))
  refine ok_bn (s_X12_keeps hB) (fun σ4 b4 => ?_)
  exact s_X12_mean_32 (by rw [← hB.2 11 (by decide)]; exact c) 1024 σ4 0 0 ⟨by decide, by decide⟩ (by decide) b4

theorem rs_s {v x : Int32} {l h T : Int} {d : Nat} (e : x = v + 1) (hv : rg v l h) (hl : -2147483648 ≤ l + 1) (hh : h + 1 ≤ 2147483647) (hm : v.toInt < T ∧ T - v.toInt < ((d + 1 : Nat) : Int)) : x.toInt ≤ T ∧ T - x.toInt < (d : Int) := by
  have h1 := hv.1
  have h2 := hv.2
  have e1 : (1 : Int32).toInt = 1 := rfl
  have ex : x.toInt = v.toInt + 1 := by rw [e, ti_add (by omega) (by omega), e1]
  omega
theorem rk_g {g : Nat → Int32} {m : Int} {σ : SG} {a : Int32} {k d : Nat} (hB : BF g m σ) (hk : 11 ≤ k) (c : ¬ a = σ 55 k) (h : a.toInt ≤ (g k).toInt ∧ (g k).toInt - a.toInt < ((d + 1 : Nat) : Int)) : a.toInt < (g k).toInt ∧ (g k).toInt - a.toInt < ((d + 1 : Nat) : Int) := by
  rw [hB.2 k hk] at c
  have : a.toInt ≠ (g k).toInt := fun e => c (Int32.toInt_inj.mp e)
  omega
theorem rk_p {a b : Int32} {d : Nat} (c : ¬ a = b) (h : a.toInt ≤ b.toInt ∧ b.toInt - a.toInt < ((d + 1 : Nat) : Int)) : a.toInt < b.toInt ∧ b.toInt - a.toInt < ((d + 1 : Nat) : Int) := by
  have : a.toInt ≠ b.toInt := fun e => c (Int32.toInt_inj.mp e)
  omega
theorem rk_rg {a : Int32} {l h T B : Int} (ha : rg a l h) (c : a.toInt < T) (hT : T ≤ B) : rg a l (B - 1) := ⟨ha.1, by omega⟩
theorem rk_0 {a : Int32} {T B : Int} {d : Nat} (ha : rg a 0 0) (h0 : 0 ≤ T) (hT : T ≤ B) (hd : B < (d : Int)) : a.toInt ≤ T ∧ T - a.toInt < (d : Int) := by
  have := ha.1
  have := ha.2
  omega
theorem bf_g11 {g : Nat → Int32} {m : Int} {σ : SG} (hB : BF g m σ) : 0 ≤ (g 11).toInt := by
  rw [← hB.2 11 (by decide)]
  exact (bx_get hB.1 (r := 55) (a := 11) (b := 11) (k := 11) (l := 0) (h := 6) (by decide) (by decide) (by decide)).1
theorem bf_g13 {g : Nat → Int32} {m : Int} {σ : SG} (hB : BF g m σ) : 0 ≤ (g 13).toInt := by
  rw [← hB.2 13 (by decide)]
  exact (bx_get hB.1 (r := 55) (a := 13) (b := 13) (k := 13) (l := 0) (h := 4) (by decide) (by decide) (by decide)).1

set_option maxHeartbeats 4000000 in
set_option maxRecDepth 100000 in
theorem s_X12_gameFor_B_24 {g : Nat → Int32} {m : Int} {R : Int32 → Int32 → Int32 → Int32 → SG → RG → Option (Int32 × SG)} {a1 : Int32} {a2 : Int32} {a3 : Int32} {a4 : Int32} {ρ : RG} {d : Nat} (hR : ∀ (a1 : Int32) (a2 : Int32) (a3 : Int32) (a4 : Int32) (σ : SG), rg a1 (0) (5) → rg a2 (0) (5) → rg a3 (0) (5) → rg a4 (0) (5) → (a3.toInt ≤ a4.toInt ∧ a4.toInt - a3.toInt < (d : Int)) → BF g m σ → ok (R a1 a2 a3 a4 σ ρ) (fun q => rg q.1 (-2147483648) (2147483647) ∧ BF g m q.2)) (r_a1 : rg a1 (0) (5)) (r_a2 : rg a2 (0) (5)) (r_a3 : rg a3 (0) (4)) (r_a4 : rg a4 (0) (5)) : ∀ (n : Nat) (σ : SG) (v1 : Int32) (v2 : Int32) (v3 : Int32) (v4 : Int32) (v5 : Int32) (v6 : Int32) (v7 : Int32), rg v1 (0) (5) → rg v2 (0) (5) → rg v3 (0) (4) → rg v4 (0) (5) → rg v7 (0) (3) → (3 : Int) - v7.toInt < (n : Int) → (v3.toInt < v4.toInt ∧ v4.toInt - v3.toInt < ((d + 1 : Nat) : Int)) → BF g m σ → ok (F_X12_gameFor_B_24 R a1 a2 a3 a4 n σ ρ v1 v2 v3 v4 v5 v6 v7) (fun q => rg q.1 (-2147483648) (2147483647) ∧ BF g m q.2) := by
  intro n
  induction n with
  | zero => intro σ v1 v2 v3 v4 v5 v6 v7 r_v1 r_v2 r_v3 r_v4 r_v7 hm hmR hB; exact (ms_z r_v7 (by decide) hm).elim
  | succ n ih =>
    intro σ v1 v2 v3 v4 v5 v6 v7 r_v1 r_v2 r_v3 r_v4 r_v7 hm hmR hB
    unfold F_X12_gameFor_B_24
    refine ok_if (fun c_3966 => ?_) (fun c_3966 => ?_)
    · refine ok_if (fun c_3967 => ?_) (fun c_3967 => ?_)
      · refine ok_nm (fun x7_3968 hx7_3968 => ?_)
        refine ok_bn2 (hR _ _ _ _ _ r_v2 r_v1 (rg_w (rg_eq hx7_3968 (rg_add (l := 1) (h := 5) r_v3 (show rg (1 : Int32) (1) (1) from ⟨by decide, by decide⟩) (by decide) (by decide) (by decide) (by decide))) (by decide) (by decide)) r_v4 (rs_s hx7_3968 r_v3 (by decide) (by decide) hmR) hB) (fun r8_3969 σ8_3970 qr8_3969 => ?_)
        obtain ⟨hr8_3969, bσ8_3970⟩ := qr8_3969
        refine ok_nm (fun x9_3971 hx9_3971 => ?_)
        refine ok_nm (fun σ11_3972 hσ11_3972 => ?_)
        have bσ11_3972 : BF g m σ11_3972 := by rw [hσ11_3972]; exact bf_set bσ8_3970 (rg_any _) (by decide)
        exact ok_some ⟨(rg_any _), bσ11_3972⟩
      · refine ok_nm (fun σ6_3973 hσ6_3973 => ?_)
        have bσ6_3973 : BF g m σ6_3973 := by rw [hσ6_3973]; exact bf_set hB (rg_any _) (by decide)
        exact ok_some ⟨(rg_any _), bσ6_3973⟩
    · refine ok_nm (fun x12_3974 hx12_3974 => ?_)
      refine ok_gd (rg_inb (rg_eq hx12_3974 (rg_add (l := 44) (h := 49) (show rg (44 : Int32) (44) (44) from ⟨by decide, by decide⟩) r_v1 (by decide) (by decide) (by decide) (by decide))) (by decide) (by decide)) ?_
      refine ok_if (fun c_3975 => ?_) (fun c_3975 => ?_)
      · unfold F_X12_gameFor_B_60
        refine ok_nm (fun x16_3976 hx16_3976 => ?_)
        refine ok_bn (s_X12_within hB) (fun r17_3977 qr17_3977 => ?_)
        refine ok_bn2 (s_X12_cuts r_v1 hB) (fun r18_3978 σ18_3979 qr18_3978 => ?_)
        obtain ⟨hr18_3978, bσ18_3979⟩ := qr18_3978
        refine ok_if (fun c_3980 => ?_) (fun c_3980 => ?_)
        · unfold F_X12_gameFor_B_133
          refine ok_bn (s_X12_standsBack (rg_w r_v3 (by decide) (by decide)) bσ18_3979) (fun σ20_3981 qσ20_3981 => ?_)
          refine ok_nm (fun x21_3982 hx21_3982 => ?_)
          exact ih _ _ _ _ _ _ _ _ r_v1 r_v2 r_v3 r_v4 (rg_w (rg_eq hx21_3982 (rg_add (l := 1) (h := 1) (rg_eql c_3975 (show rg (0 : Int32) (0) (0) from ⟨by decide, by decide⟩)) (show rg (1 : Int32) (1) (1) from ⟨by decide, by decide⟩) (by decide) (by decide) (by decide) (by decide))) (by decide) (by decide)) (ms_s hx21_3982 (rg_eql c_3975 (show rg (0 : Int32) (0) (0) from ⟨by decide, by decide⟩)) (by decide) (by decide) hm) hmR qσ20_3981
        · refine ok_nm (fun x22_3983 hx22_3983 => ?_)
          refine ok_bn2 (hR _ _ _ _ _ r_v2 r_v1 (rg_w (rg_eq hx22_3983 (rg_add (l := 1) (h := 5) r_v3 (show rg (1 : Int32) (1) (1) from ⟨by decide, by decide⟩) (by decide) (by decide) (by decide) (by decide))) (by decide) (by decide)) r_v4 (rs_s hx22_3983 r_v3 (by decide) (by decide) hmR) bσ18_3979) (fun r23_3984 σ23_3985 qr23_3984 => ?_)
          obtain ⟨hr23_3984, bσ23_3985⟩ := qr23_3984
          refine ok_nm (fun x24_3986 hx24_3986 => ?_)
          refine ok_if (fun c_3987 => ?_) (fun c_3987 => ?_)
          · unfold F_X12_gameFor_B_115
            refine ok_if (fun c_3988 => ?_) (fun c_3988 => ?_)
            · unfold F_X12_gameFor_B_131
              unfold F_X12_gameFor_B_133
              refine ok_bn (s_X12_standsBack (rg_w r_v3 (by decide) (by decide)) bσ23_3985) (fun σ20_3989 qσ20_3989 => ?_)
              refine ok_nm (fun x21_3990 hx21_3990 => ?_)
              exact ih _ _ _ _ _ _ _ _ r_v1 r_v2 r_v3 r_v4 (rg_w (rg_eq hx21_3990 (rg_add (l := 1) (h := 1) (rg_eql c_3975 (show rg (0 : Int32) (0) (0) from ⟨by decide, by decide⟩)) (show rg (1 : Int32) (1) (1) from ⟨by decide, by decide⟩) (by decide) (by decide) (by decide) (by decide))) (by decide) (by decide)) (ms_s hx21_3990 (rg_eql c_3975 (show rg (0 : Int32) (0) (0) from ⟨by decide, by decide⟩)) (by decide) (by decide) hm) hmR qσ20_3989
            · unfold F_X12_gameFor_B_131
              unfold F_X12_gameFor_B_133
              refine ok_bn (s_X12_standsBack (rg_w r_v3 (by decide) (by decide)) bσ23_3985) (fun σ20_3991 qσ20_3991 => ?_)
              refine ok_nm (fun x21_3992 hx21_3992 => ?_)
              exact ih _ _ _ _ _ _ _ _ r_v1 r_v2 r_v3 r_v4 (rg_w (rg_eq hx21_3992 (rg_add (l := 1) (h := 1) (rg_eql c_3975 (show rg (0 : Int32) (0) (0) from ⟨by decide, by decide⟩)) (show rg (1 : Int32) (1) (1) from ⟨by decide, by decide⟩) (by decide) (by decide) (by decide) (by decide))) (by decide) (by decide)) (ms_s hx21_3992 (rg_eql c_3975 (show rg (0 : Int32) (0) (0) from ⟨by decide, by decide⟩)) (by decide) (by decide) hm) hmR qσ20_3991
          · unfold F_X12_gameFor_B_115
            refine ok_if (fun c_3993 => ?_) (fun c_3993 => ?_)
            · unfold F_X12_gameFor_B_131
              unfold F_X12_gameFor_B_133
              refine ok_bn (s_X12_standsBack (rg_w r_v3 (by decide) (by decide)) bσ23_3985) (fun σ20_3994 qσ20_3994 => ?_)
              refine ok_nm (fun x21_3995 hx21_3995 => ?_)
              exact ih _ _ _ _ _ _ _ _ r_v1 r_v2 r_v3 r_v4 (rg_w (rg_eq hx21_3995 (rg_add (l := 1) (h := 1) (rg_eql c_3975 (show rg (0 : Int32) (0) (0) from ⟨by decide, by decide⟩)) (show rg (1 : Int32) (1) (1) from ⟨by decide, by decide⟩) (by decide) (by decide) (by decide) (by decide))) (by decide) (by decide)) (ms_s hx21_3995 (rg_eql c_3975 (show rg (0 : Int32) (0) (0) from ⟨by decide, by decide⟩)) (by decide) (by decide) hm) hmR qσ20_3994
            · unfold F_X12_gameFor_B_131
              unfold F_X12_gameFor_B_133
              refine ok_bn (s_X12_standsBack (rg_w r_v3 (by decide) (by decide)) bσ23_3985) (fun σ20_3996 qσ20_3996 => ?_)
              refine ok_nm (fun x21_3997 hx21_3997 => ?_)
              exact ih _ _ _ _ _ _ _ _ r_v1 r_v2 r_v3 r_v4 (rg_w (rg_eq hx21_3997 (rg_add (l := 1) (h := 1) (rg_eql c_3975 (show rg (0 : Int32) (0) (0) from ⟨by decide, by decide⟩)) (show rg (1 : Int32) (1) (1) from ⟨by decide, by decide⟩) (by decide) (by decide) (by decide) (by decide))) (by decide) (by decide)) (ms_s hx21_3997 (rg_eql c_3975 (show rg (0 : Int32) (0) (0) from ⟨by decide, by decide⟩)) (by decide) (by decide) hm) hmR qσ20_3996
      · refine ok_if (fun c_3998 => ?_) (fun c_3998 => ?_)
        · unfold F_X12_gameFor_B_60
          refine ok_nm (fun x16_3999 hx16_3999 => ?_)
          refine ok_bn (s_X12_within hB) (fun r17_4000 qr17_4000 => ?_)
          refine ok_bn2 (s_X12_cuts r_v1 hB) (fun r18_4001 σ18_4002 qr18_4001 => ?_)
          obtain ⟨hr18_4001, bσ18_4002⟩ := qr18_4001
          refine ok_if (fun c_4003 => ?_) (fun c_4003 => ?_)
          · unfold F_X12_gameFor_B_133
            refine ok_bn (s_X12_standsBack (rg_w r_v3 (by decide) (by decide)) bσ18_4002) (fun σ20_4004 qσ20_4004 => ?_)
            refine ok_nm (fun x21_4005 hx21_4005 => ?_)
            exact ih _ _ _ _ _ _ _ _ r_v1 r_v2 r_v3 r_v4 (rg_w (rg_eq hx21_4005 (rg_add (l := 2) (h := 2) (rg_eql c_3998 (show rg (1 : Int32) (1) (1) from ⟨by decide, by decide⟩)) (show rg (1 : Int32) (1) (1) from ⟨by decide, by decide⟩) (by decide) (by decide) (by decide) (by decide))) (by decide) (by decide)) (ms_s hx21_4005 (rg_eql c_3998 (show rg (1 : Int32) (1) (1) from ⟨by decide, by decide⟩)) (by decide) (by decide) hm) hmR qσ20_4004
          · refine ok_nm (fun x22_4006 hx22_4006 => ?_)
            refine ok_bn2 (hR _ _ _ _ _ r_v2 r_v1 (rg_w (rg_eq hx22_4006 (rg_add (l := 1) (h := 5) r_v3 (show rg (1 : Int32) (1) (1) from ⟨by decide, by decide⟩) (by decide) (by decide) (by decide) (by decide))) (by decide) (by decide)) r_v4 (rs_s hx22_4006 r_v3 (by decide) (by decide) hmR) bσ18_4002) (fun r23_4007 σ23_4008 qr23_4007 => ?_)
            obtain ⟨hr23_4007, bσ23_4008⟩ := qr23_4007
            refine ok_nm (fun x24_4009 hx24_4009 => ?_)
            refine ok_if (fun c_4010 => ?_) (fun c_4010 => ?_)
            · unfold F_X12_gameFor_B_115
              refine ok_if (fun c_4011 => ?_) (fun c_4011 => ?_)
              · unfold F_X12_gameFor_B_131
                unfold F_X12_gameFor_B_133
                refine ok_bn (s_X12_standsBack (rg_w r_v3 (by decide) (by decide)) bσ23_4008) (fun σ20_4012 qσ20_4012 => ?_)
                refine ok_nm (fun x21_4013 hx21_4013 => ?_)
                exact ih _ _ _ _ _ _ _ _ r_v1 r_v2 r_v3 r_v4 (rg_w (rg_eq hx21_4013 (rg_add (l := 2) (h := 2) (rg_eql c_3998 (show rg (1 : Int32) (1) (1) from ⟨by decide, by decide⟩)) (show rg (1 : Int32) (1) (1) from ⟨by decide, by decide⟩) (by decide) (by decide) (by decide) (by decide))) (by decide) (by decide)) (ms_s hx21_4013 (rg_eql c_3998 (show rg (1 : Int32) (1) (1) from ⟨by decide, by decide⟩)) (by decide) (by decide) hm) hmR qσ20_4012
              · unfold F_X12_gameFor_B_131
                unfold F_X12_gameFor_B_133
                refine ok_bn (s_X12_standsBack (rg_w r_v3 (by decide) (by decide)) bσ23_4008) (fun σ20_4014 qσ20_4014 => ?_)
                refine ok_nm (fun x21_4015 hx21_4015 => ?_)
                exact ih _ _ _ _ _ _ _ _ r_v1 r_v2 r_v3 r_v4 (rg_w (rg_eq hx21_4015 (rg_add (l := 2) (h := 2) (rg_eql c_3998 (show rg (1 : Int32) (1) (1) from ⟨by decide, by decide⟩)) (show rg (1 : Int32) (1) (1) from ⟨by decide, by decide⟩) (by decide) (by decide) (by decide) (by decide))) (by decide) (by decide)) (ms_s hx21_4015 (rg_eql c_3998 (show rg (1 : Int32) (1) (1) from ⟨by decide, by decide⟩)) (by decide) (by decide) hm) hmR qσ20_4014
            · unfold F_X12_gameFor_B_115
              refine ok_if (fun c_4016 => ?_) (fun c_4016 => ?_)
              · unfold F_X12_gameFor_B_131
                unfold F_X12_gameFor_B_133
                refine ok_bn (s_X12_standsBack (rg_w r_v3 (by decide) (by decide)) bσ23_4008) (fun σ20_4017 qσ20_4017 => ?_)
                refine ok_nm (fun x21_4018 hx21_4018 => ?_)
                exact ih _ _ _ _ _ _ _ _ r_v1 r_v2 r_v3 r_v4 (rg_w (rg_eq hx21_4018 (rg_add (l := 2) (h := 2) (rg_eql c_3998 (show rg (1 : Int32) (1) (1) from ⟨by decide, by decide⟩)) (show rg (1 : Int32) (1) (1) from ⟨by decide, by decide⟩) (by decide) (by decide) (by decide) (by decide))) (by decide) (by decide)) (ms_s hx21_4018 (rg_eql c_3998 (show rg (1 : Int32) (1) (1) from ⟨by decide, by decide⟩)) (by decide) (by decide) hm) hmR qσ20_4017
              · unfold F_X12_gameFor_B_131
                unfold F_X12_gameFor_B_133
                refine ok_bn (s_X12_standsBack (rg_w r_v3 (by decide) (by decide)) bσ23_4008) (fun σ20_4019 qσ20_4019 => ?_)
                refine ok_nm (fun x21_4020 hx21_4020 => ?_)
                exact ih _ _ _ _ _ _ _ _ r_v1 r_v2 r_v3 r_v4 (rg_w (rg_eq hx21_4020 (rg_add (l := 2) (h := 2) (rg_eql c_3998 (show rg (1 : Int32) (1) (1) from ⟨by decide, by decide⟩)) (show rg (1 : Int32) (1) (1) from ⟨by decide, by decide⟩) (by decide) (by decide) (by decide) (by decide))) (by decide) (by decide)) (ms_s hx21_4020 (rg_eql c_3998 (show rg (1 : Int32) (1) (1) from ⟨by decide, by decide⟩)) (by decide) (by decide) hm) hmR qσ20_4019
        · unfold F_X12_gameFor_B_60
          refine ok_nm (fun x16_4021 hx16_4021 => ?_)
          refine ok_bn (s_X12_within hB) (fun r17_4022 qr17_4022 => ?_)
          refine ok_bn2 (s_X12_cuts r_v1 hB) (fun r18_4023 σ18_4024 qr18_4023 => ?_)
          obtain ⟨hr18_4023, bσ18_4024⟩ := qr18_4023
          refine ok_if (fun c_4025 => ?_) (fun c_4025 => ?_)
          · unfold F_X12_gameFor_B_133
            refine ok_bn (s_X12_standsBack (rg_w r_v3 (by decide) (by decide)) bσ18_4024) (fun σ20_4026 qσ20_4026 => ?_)
            refine ok_nm (fun x21_4027 hx21_4027 => ?_)
            exact ih _ _ _ _ _ _ _ _ r_v1 r_v2 r_v3 r_v4 (rg_w (rg_eq hx21_4027 (rg_add (l := 3) (h := 3) (rg_nel c_3998 (rg_nel c_3975 (rg_lt (nle c_3966) r_v7 (show rg (3 : Int32) (3) (3) from ⟨by decide, by decide⟩)) (show rg (0 : Int32) (0) (0) from ⟨by decide, by decide⟩) rfl) (show rg (1 : Int32) (1) (1) from ⟨by decide, by decide⟩) rfl) (show rg (1 : Int32) (1) (1) from ⟨by decide, by decide⟩) (by decide) (by decide) (by decide) (by decide))) (by decide) (by decide)) (ms_s hx21_4027 (rg_nel c_3998 (rg_nel c_3975 (rg_lt (nle c_3966) r_v7 (show rg (3 : Int32) (3) (3) from ⟨by decide, by decide⟩)) (show rg (0 : Int32) (0) (0) from ⟨by decide, by decide⟩) rfl) (show rg (1 : Int32) (1) (1) from ⟨by decide, by decide⟩) rfl) (by decide) (by decide) hm) hmR qσ20_4026
          · refine ok_nm (fun x22_4028 hx22_4028 => ?_)
            refine ok_bn2 (hR _ _ _ _ _ r_v2 r_v1 (rg_w (rg_eq hx22_4028 (rg_add (l := 1) (h := 5) r_v3 (show rg (1 : Int32) (1) (1) from ⟨by decide, by decide⟩) (by decide) (by decide) (by decide) (by decide))) (by decide) (by decide)) r_v4 (rs_s hx22_4028 r_v3 (by decide) (by decide) hmR) bσ18_4024) (fun r23_4029 σ23_4030 qr23_4029 => ?_)
            obtain ⟨hr23_4029, bσ23_4030⟩ := qr23_4029
            refine ok_nm (fun x24_4031 hx24_4031 => ?_)
            refine ok_if (fun c_4032 => ?_) (fun c_4032 => ?_)
            · unfold F_X12_gameFor_B_115
              refine ok_if (fun c_4033 => ?_) (fun c_4033 => ?_)
              · unfold F_X12_gameFor_B_131
                unfold F_X12_gameFor_B_133
                refine ok_bn (s_X12_standsBack (rg_w r_v3 (by decide) (by decide)) bσ23_4030) (fun σ20_4034 qσ20_4034 => ?_)
                refine ok_nm (fun x21_4035 hx21_4035 => ?_)
                exact ih _ _ _ _ _ _ _ _ r_v1 r_v2 r_v3 r_v4 (rg_w (rg_eq hx21_4035 (rg_add (l := 3) (h := 3) (rg_nel c_3998 (rg_nel c_3975 (rg_lt (nle c_3966) r_v7 (show rg (3 : Int32) (3) (3) from ⟨by decide, by decide⟩)) (show rg (0 : Int32) (0) (0) from ⟨by decide, by decide⟩) rfl) (show rg (1 : Int32) (1) (1) from ⟨by decide, by decide⟩) rfl) (show rg (1 : Int32) (1) (1) from ⟨by decide, by decide⟩) (by decide) (by decide) (by decide) (by decide))) (by decide) (by decide)) (ms_s hx21_4035 (rg_nel c_3998 (rg_nel c_3975 (rg_lt (nle c_3966) r_v7 (show rg (3 : Int32) (3) (3) from ⟨by decide, by decide⟩)) (show rg (0 : Int32) (0) (0) from ⟨by decide, by decide⟩) rfl) (show rg (1 : Int32) (1) (1) from ⟨by decide, by decide⟩) rfl) (by decide) (by decide) hm) hmR qσ20_4034
              · unfold F_X12_gameFor_B_131
                unfold F_X12_gameFor_B_133
                refine ok_bn (s_X12_standsBack (rg_w r_v3 (by decide) (by decide)) bσ23_4030) (fun σ20_4036 qσ20_4036 => ?_)
                refine ok_nm (fun x21_4037 hx21_4037 => ?_)
                exact ih _ _ _ _ _ _ _ _ r_v1 r_v2 r_v3 r_v4 (rg_w (rg_eq hx21_4037 (rg_add (l := 3) (h := 3) (rg_nel c_3998 (rg_nel c_3975 (rg_lt (nle c_3966) r_v7 (show rg (3 : Int32) (3) (3) from ⟨by decide, by decide⟩)) (show rg (0 : Int32) (0) (0) from ⟨by decide, by decide⟩) rfl) (show rg (1 : Int32) (1) (1) from ⟨by decide, by decide⟩) rfl) (show rg (1 : Int32) (1) (1) from ⟨by decide, by decide⟩) (by decide) (by decide) (by decide) (by decide))) (by decide) (by decide)) (ms_s hx21_4037 (rg_nel c_3998 (rg_nel c_3975 (rg_lt (nle c_3966) r_v7 (show rg (3 : Int32) (3) (3) from ⟨by decide, by decide⟩)) (show rg (0 : Int32) (0) (0) from ⟨by decide, by decide⟩) rfl) (show rg (1 : Int32) (1) (1) from ⟨by decide, by decide⟩) rfl) (by decide) (by decide) hm) hmR qσ20_4036
            · unfold F_X12_gameFor_B_115
              refine ok_if (fun c_4038 => ?_) (fun c_4038 => ?_)
              · unfold F_X12_gameFor_B_131
                unfold F_X12_gameFor_B_133
                refine ok_bn (s_X12_standsBack (rg_w r_v3 (by decide) (by decide)) bσ23_4030) (fun σ20_4039 qσ20_4039 => ?_)
                refine ok_nm (fun x21_4040 hx21_4040 => ?_)
                exact ih _ _ _ _ _ _ _ _ r_v1 r_v2 r_v3 r_v4 (rg_w (rg_eq hx21_4040 (rg_add (l := 3) (h := 3) (rg_nel c_3998 (rg_nel c_3975 (rg_lt (nle c_3966) r_v7 (show rg (3 : Int32) (3) (3) from ⟨by decide, by decide⟩)) (show rg (0 : Int32) (0) (0) from ⟨by decide, by decide⟩) rfl) (show rg (1 : Int32) (1) (1) from ⟨by decide, by decide⟩) rfl) (show rg (1 : Int32) (1) (1) from ⟨by decide, by decide⟩) (by decide) (by decide) (by decide) (by decide))) (by decide) (by decide)) (ms_s hx21_4040 (rg_nel c_3998 (rg_nel c_3975 (rg_lt (nle c_3966) r_v7 (show rg (3 : Int32) (3) (3) from ⟨by decide, by decide⟩)) (show rg (0 : Int32) (0) (0) from ⟨by decide, by decide⟩) rfl) (show rg (1 : Int32) (1) (1) from ⟨by decide, by decide⟩) rfl) (by decide) (by decide) hm) hmR qσ20_4039
              · unfold F_X12_gameFor_B_131
                unfold F_X12_gameFor_B_133
                refine ok_bn (s_X12_standsBack (rg_w r_v3 (by decide) (by decide)) bσ23_4030) (fun σ20_4041 qσ20_4041 => ?_)
                refine ok_nm (fun x21_4042 hx21_4042 => ?_)
                exact ih _ _ _ _ _ _ _ _ r_v1 r_v2 r_v3 r_v4 (rg_w (rg_eq hx21_4042 (rg_add (l := 3) (h := 3) (rg_nel c_3998 (rg_nel c_3975 (rg_lt (nle c_3966) r_v7 (show rg (3 : Int32) (3) (3) from ⟨by decide, by decide⟩)) (show rg (0 : Int32) (0) (0) from ⟨by decide, by decide⟩) rfl) (show rg (1 : Int32) (1) (1) from ⟨by decide, by decide⟩) rfl) (show rg (1 : Int32) (1) (1) from ⟨by decide, by decide⟩) (by decide) (by decide) (by decide) (by decide))) (by decide) (by decide)) (ms_s hx21_4042 (rg_nel c_3998 (rg_nel c_3975 (rg_lt (nle c_3966) r_v7 (show rg (3 : Int32) (3) (3) from ⟨by decide, by decide⟩)) (show rg (0 : Int32) (0) (0) from ⟨by decide, by decide⟩) rfl) (show rg (1 : Int32) (1) (1) from ⟨by decide, by decide⟩) rfl) (by decide) (by decide) hm) hmR qσ20_4041

set_option maxHeartbeats 4000000 in
set_option maxRecDepth 100000 in
theorem s_X12_gameFor_B {g : Nat → Int32} {m : Int} {R : Int32 → Int32 → Int32 → Int32 → SG → RG → Option (Int32 × SG)} {a1 : Int32} {a2 : Int32} {a3 : Int32} {a4 : Int32} {σ : SG} {ρ : RG} {d : Nat} (hR : ∀ (a1 : Int32) (a2 : Int32) (a3 : Int32) (a4 : Int32) (σ : SG), rg a1 (0) (5) → rg a2 (0) (5) → rg a3 (0) (5) → rg a4 (0) (5) → (a3.toInt ≤ a4.toInt ∧ a4.toInt - a3.toInt < (d : Int)) → BF g m σ → ok (R a1 a2 a3 a4 σ ρ) (fun q => rg q.1 (-2147483648) (2147483647) ∧ BF g m q.2)) (hmR : (a3.toInt ≤ a4.toInt ∧ a4.toInt - a3.toInt < ((d + 1 : Nat) : Int))) (r_a1 : rg a1 (0) (5)) (r_a2 : rg a2 (0) (5)) (r_a3 : rg a3 (0) (5)) (r_a4 : rg a4 (0) (5)) (hB : BF g m σ) : ok (F_X12_gameFor_B R a1 a2 a3 a4 σ ρ) (fun q => rg q.1 (-2147483648) (2147483647) ∧ BF g m q.2) := by
  unfold F_X12_gameFor_B
  refine ok_if (fun c_4043 => ?_) (fun c_4043 => ?_)
  · exact ok_some ⟨(rg_w (show rg (0 : Int32) (0) (0) from ⟨by decide, by decide⟩) (by decide) (by decide)), hB⟩
  · have hlt := rk_p c_4043 hmR
    have hk := rk_rg r_a3 hlt.1 r_a4.2
    refine ok_bn (s_X12_stands (rg_w hk (by decide) (by decide)) hB) (fun σ2_4044 qσ2_4044 => ?_)
    exact (s_X12_gameFor_B_24 hR r_a1 r_a2 hk r_a4 1024 _ _ _ _ _ _ _ _ r_a1 r_a2 hk r_a4 (rg_w (show rg (0 : Int32) (0) (0) from ⟨by decide, by decide⟩) (by decide) (by decide)) (ms_0 (show rg (0 : Int32) (0) (0) from ⟨by decide, by decide⟩) (by decide)) hlt qσ2_4044)

theorem s_X12_gameFor_R {g : Nat → Int32} {m : Int} {ρ : RG} : ∀ (d : Nat), ∀ (a1 : Int32) (a2 : Int32) (a3 : Int32) (a4 : Int32) (σ : SG), rg a1 (0) (5) → rg a2 (0) (5) → rg a3 (0) (5) → rg a4 (0) (5) → (a3.toInt ≤ a4.toInt ∧ a4.toInt - a3.toInt < (d : Int)) → BF g m σ → ok (F_X12_gameFor_R d a1 a2 a3 a4 σ ρ) (fun q => rg q.1 (-2147483648) (2147483647) ∧ BF g m q.2) := by
  intro d
  induction d with
  | zero => intro a1 a2 a3 a4 σ r_a1 r_a2 r_a3 r_a4 hm hB; exact absurd hm.2 (by have := hm.1; omega)
  | succ d ih =>
    intro a1 a2 a3 a4 σ r_a1 r_a2 r_a3 r_a4 hm hB
    exact s_X12_gameFor_B ih hm r_a1 r_a2 r_a3 r_a4 hB

theorem s_X12_gameFor {g : Nat → Int32} {m : Int} {a1 : Int32} {a2 : Int32} {a3 : Int32} {a4 : Int32} {σ : SG} {ρ : RG} (r_a1 : rg a1 (0) (5)) (r_a2 : rg a2 (0) (5)) (r_a3 : rg a3 (0) (0)) (r_a4 : rg a4 (0) (5)) (hB : BF g m σ) : ok (F_X12_gameFor a1 a2 a3 a4 σ ρ) (fun q => rg q.1 (-2147483648) (2147483647) ∧ BF g m q.2) :=
  s_X12_gameFor_R 7 _ _ _ _ _ r_a1 r_a2 (rg_w r_a3 (by decide) (by decide)) r_a4 (rk_0 r_a3 r_a4.1 r_a4.2 (by decide)) hB

set_option maxHeartbeats 4000000 in
set_option maxRecDepth 100000 in
theorem s_X12_goodRows_B_17 {g : Nat → Int32} {m : Int} {R : Int32 → Int32 → SG → RG → Option (Int64 × SG)} {a1 : Int32} {a2 : Int32} {ρ : RG} {d : Nat} (hR : ∀ (a1 : Int32) (a2 : Int32) (σ : SG), rg a1 (0) (3) → rg a2 (0) (3) → (a1.toInt ≤ a2.toInt ∧ a2.toInt - a1.toInt < (d : Int)) → BF g m σ → ok (R a1 a2 σ ρ) (fun q => BF g m q.2)) (r_a1 : rg a1 (0) (2)) (r_a2 : rg a2 (0) (3)) : ∀ (n : Nat) (σ : SG) (v1 : Int32) (v2 : Int32) (v3 : Int64) (v5 : Int32), rg v1 (0) (2) → rg v2 (0) (3) → rg v5 (0) (6) → (6 : Int) - v5.toInt < (n : Int) → (v1.toInt < v2.toInt ∧ v2.toInt - v1.toInt < ((d + 1 : Nat) : Int)) → BF g m σ → ok (F_X12_goodRows_B_17 R a1 a2 n σ ρ v1 v2 v3 v5) (fun q => BF g m q.2) := by
  intro n
  induction n with
  | zero => intro σ v1 v2 v3 v5 r_v1 r_v2 r_v5 hm hmR hB; exact (ms_z r_v5 (by decide) hm).elim
  | succ n ih =>
    intro σ v1 v2 v3 v5 r_v1 r_v2 r_v5 hm hmR hB
    unfold F_X12_goodRows_B_17
    refine ok_if (fun c_4064 => ?_) (fun c_4064 => ?_)
    · exact ok_some hB
    · refine ok_nm (fun x4_4065 hx4_4065 => ?_)
      refine ok_gd (rg_inb (rg_eq hx4_4065 (rg_add (l := 44) (h := 49) (show rg (44 : Int32) (44) (44) from ⟨by decide, by decide⟩) (rg_lt (nle c_4064) r_v5 (rg_gt (nle c_4064) r_v5 (bx_get hB.1 (r := 55) (a := 11) (b := 11) (k := 11) (l := 0) (h := 6) (by decide) (by decide) (by decide)))) (by decide) (by decide) (by decide) (by decide))) (by decide) (by decide)) ?_
      refine ok_bn2 (s_X12_cuts (rg_lt (nle c_4064) r_v5 (rg_gt (nle c_4064) r_v5 (bx_get hB.1 (r := 55) (a := 11) (b := 11) (k := 11) (l := 0) (h := 6) (by decide) (by decide) (by decide)))) hB) (fun r6_4066 σ6_4067 qr6_4066 => ?_)
      obtain ⟨hr6_4066, bσ6_4067⟩ := qr6_4066
      refine ok_if (fun c_4068 => ?_) (fun c_4068 => ?_)
      · unfold F_X12_goodRows_B_66
        refine ok_bn (s_X12_standsBack (rg_w r_v1 (by decide) (by decide)) bσ6_4067) (fun σ8_4069 qσ8_4069 => ?_)
        refine ok_nm (fun x9_4070 hx9_4070 => ?_)
        exact ih _ _ _ _ _ r_v1 r_v2 (rg_w (rg_eq hx9_4070 (rg_add (l := 1) (h := 6) (rg_lt (nle c_4064) r_v5 (rg_gt (nle c_4064) r_v5 (bx_get hB.1 (r := 55) (a := 11) (b := 11) (k := 11) (l := 0) (h := 6) (by decide) (by decide) (by decide)))) (show rg (1 : Int32) (1) (1) from ⟨by decide, by decide⟩) (by decide) (by decide) (by decide) (by decide))) (by decide) (by decide)) (ms_s hx9_4070 (rg_lt (nle c_4064) r_v5 (rg_gt (nle c_4064) r_v5 (bx_get hB.1 (r := 55) (a := 11) (b := 11) (k := 11) (l := 0) (h := 6) (by decide) (by decide) (by decide)))) (by decide) (by decide) hm) hmR qσ8_4069
      · refine ok_bn (s_X12_isGood bσ6_4067) (fun r10_4071 qr10_4071 => ?_)
        refine ok_if (fun c_4072 => ?_) (fun c_4072 => ?_)
        · unfold F_X12_goodRows_B_66
          refine ok_bn (s_X12_standsBack (rg_w r_v1 (by decide) (by decide)) bσ6_4067) (fun σ8_4073 qσ8_4073 => ?_)
          refine ok_nm (fun x9_4074 hx9_4074 => ?_)
          exact ih _ _ _ _ _ r_v1 r_v2 (rg_w (rg_eq hx9_4074 (rg_add (l := 1) (h := 6) (rg_lt (nle c_4064) r_v5 (rg_gt (nle c_4064) r_v5 (bx_get hB.1 (r := 55) (a := 11) (b := 11) (k := 11) (l := 0) (h := 6) (by decide) (by decide) (by decide)))) (show rg (1 : Int32) (1) (1) from ⟨by decide, by decide⟩) (by decide) (by decide) (by decide) (by decide))) (by decide) (by decide)) (ms_s hx9_4074 (rg_lt (nle c_4064) r_v5 (rg_gt (nle c_4064) r_v5 (bx_get hB.1 (r := 55) (a := 11) (b := 11) (k := 11) (l := 0) (h := 6) (by decide) (by decide) (by decide)))) (by decide) (by decide) hm) hmR qσ8_4073
        · refine ok_nm (fun x12_4075 hx12_4075 => ?_)
          refine ok_bn2 (hR _ _ _ (rg_w (rg_eq hx12_4075 (rg_add (l := 1) (h := 3) r_v1 (show rg (1 : Int32) (1) (1) from ⟨by decide, by decide⟩) (by decide) (by decide) (by decide) (by decide))) (by decide) (by decide)) r_v2 (rs_s hx12_4075 r_v1 (by decide) (by decide) hmR) bσ6_4067) (fun r13_4076 σ13_4077 qr13_4076 => ?_)
          refine ok_nm (fun x14_4078 hx14_4078 => ?_)
          unfold F_X12_goodRows_B_66
          refine ok_bn (s_X12_standsBack (rg_w r_v1 (by decide) (by decide)) qr13_4076) (fun σ8_4079 qσ8_4079 => ?_)
          refine ok_nm (fun x9_4080 hx9_4080 => ?_)
          exact ih _ _ _ _ _ r_v1 r_v2 (rg_w (rg_eq hx9_4080 (rg_add (l := 1) (h := 6) (rg_lt (nle c_4064) r_v5 (rg_gt (nle c_4064) r_v5 (bx_get hB.1 (r := 55) (a := 11) (b := 11) (k := 11) (l := 0) (h := 6) (by decide) (by decide) (by decide)))) (show rg (1 : Int32) (1) (1) from ⟨by decide, by decide⟩) (by decide) (by decide) (by decide) (by decide))) (by decide) (by decide)) (ms_s hx9_4080 (rg_lt (nle c_4064) r_v5 (rg_gt (nle c_4064) r_v5 (bx_get hB.1 (r := 55) (a := 11) (b := 11) (k := 11) (l := 0) (h := 6) (by decide) (by decide) (by decide)))) (by decide) (by decide) hm) hmR qσ8_4079

set_option maxHeartbeats 4000000 in
set_option maxRecDepth 100000 in
theorem s_X12_goodRows_B {g : Nat → Int32} {m : Int} {R : Int32 → Int32 → SG → RG → Option (Int64 × SG)} {a1 : Int32} {a2 : Int32} {σ : SG} {ρ : RG} {d : Nat} (hR : ∀ (a1 : Int32) (a2 : Int32) (σ : SG), rg a1 (0) (3) → rg a2 (0) (3) → (a1.toInt ≤ a2.toInt ∧ a2.toInt - a1.toInt < (d : Int)) → BF g m σ → ok (R a1 a2 σ ρ) (fun q => BF g m q.2)) (hmR : (a1.toInt ≤ a2.toInt ∧ a2.toInt - a1.toInt < ((d + 1 : Nat) : Int))) (r_a1 : rg a1 (0) (3)) (r_a2 : rg a2 (0) (3)) (hB : BF g m σ) : ok (F_X12_goodRows_B R a1 a2 σ ρ) (fun q => BF g m q.2) := by
  unfold F_X12_goodRows_B
  refine ok_if (fun c_4081 => ?_) (fun c_4081 => ?_)
  · exact ok_some hB
  · have hlt := rk_p c_4081 hmR
    have hk := rk_rg r_a1 hlt.1 r_a2.2
    refine ok_bn (s_X12_stands (rg_w hk (by decide) (by decide)) hB) (fun σ2_4082 qσ2_4082 => ?_)
    exact (s_X12_goodRows_B_17 hR hk r_a2 1024 _ _ _ _ _ hk r_a2 (rg_w (show rg (0 : Int32) (0) (0) from ⟨by decide, by decide⟩) (by decide) (by decide)) (ms_0 (show rg (0 : Int32) (0) (0) from ⟨by decide, by decide⟩) (by decide)) hlt qσ2_4082)

theorem s_X12_goodRows_R {g : Nat → Int32} {m : Int} {ρ : RG} : ∀ (d : Nat), ∀ (a1 : Int32) (a2 : Int32) (σ : SG), rg a1 (0) (3) → rg a2 (0) (3) → (a1.toInt ≤ a2.toInt ∧ a2.toInt - a1.toInt < (d : Int)) → BF g m σ → ok (F_X12_goodRows_R d a1 a2 σ ρ) (fun q => BF g m q.2) := by
  intro d
  induction d with
  | zero => intro a1 a2 σ r_a1 r_a2 hm hB; exact absurd hm.2 (by have := hm.1; omega)
  | succ d ih =>
    intro a1 a2 σ r_a1 r_a2 hm hB
    exact s_X12_goodRows_B ih hm r_a1 r_a2 hB

theorem s_X12_goodRows {g : Nat → Int32} {m : Int} {a1 : Int32} {a2 : Int32} {σ : SG} {ρ : RG} (r_a1 : rg a1 (0) (0)) (r_a2 : rg a2 (0) (3)) (hB : BF g m σ) : ok (F_X12_goodRows a1 a2 σ ρ) (fun q => BF g m q.2) :=
  s_X12_goodRows_R 5 _ _ _ (rg_w r_a1 (by decide) (by decide)) r_a2 (rk_0 r_a1 r_a2.1 r_a2.2 (by decide)) hB

set_option maxHeartbeats 4000000 in
set_option maxRecDepth 100000 in
theorem s_X12_ordersFrom_B_27 {g : Nat → Int32} {m : Int} {R : Int32 → Int32 → Int32 → SG → RG → Option (SG)} {a1 : Int32} {a2 : Int32} {a3 : Int32} {ρ : RG} (r_a1 : rg a1 (0) (5)) (r_a3 : rg a3 (-2147483648) (2147483646)) : ∀ (n : Nat) (σ : SG) (v1 : Int32) (v4 : Int32), rg v1 (0) (5) → rg v4 (0) (5) → (5 : Int) - v4.toInt < (n : Int) → BF g m σ → ok (F_X12_ordersFrom_B_27 R a1 a2 a3 n σ ρ v1 v4) (fun q => BF g m q) := by
  intro n
  induction n with
  | zero => intro σ v1 v4 r_v1 r_v4 hm hB; exact (ms_z r_v4 (by decide) hm).elim
  | succ n ih =>
    intro σ v1 v4 r_v1 r_v4 hm hB
    unfold F_X12_ordersFrom_B_27
    refine ok_if (fun c_4089 => ?_) (fun c_4089 => ?_)
    · exact ok_some hB
    · refine ok_gd (rg_inb (rg_lt (nle c_4089) r_v4 (rg_gt (nle c_4089) r_v4 r_v1)) (by decide) (by decide)) ?_
      refine ok_gd (rg_inb (rg_lt (nle c_4089) r_v4 (rg_gt (nle c_4089) r_v4 r_v1)) (by decide) (by decide)) ?_
      refine ok_nm (fun σ29_4090 hσ29_4090 => ?_)
      have bσ29_4090 : BF g m σ29_4090 := by rw [hσ29_4090]; exact bf_far hB (by decide) (by decide) (by decide) (by decide)
      refine ok_nm (fun x30_4091 hx30_4091 => ?_)
      exact ih _ _ _ (rg_w (rg_gt (nle c_4089) (rg_lt (nle c_4089) r_v4 r_v1) r_v1) (by decide) (by decide)) (rg_w (rg_eq hx30_4091 (rg_add (l := 1) (h := 5) (rg_lt (nle c_4089) r_v4 (rg_gt (nle c_4089) r_v4 r_v1)) (show rg (1 : Int32) (1) (1) from ⟨by decide, by decide⟩) (by decide) (by decide) (by decide) (by decide))) (by decide) (by decide)) (ms_s hx30_4091 (rg_lt (nle c_4089) r_v4 (rg_gt (nle c_4089) r_v4 r_v1)) (by decide) (by decide) hm) bσ29_4090

set_option maxHeartbeats 4000000 in
set_option maxRecDepth 100000 in
theorem s_X12_ordersFrom_B_62 {g : Nat → Int32} {m : Int} {R : Int32 → Int32 → Int32 → SG → RG → Option (SG)} {a1 : Int32} {a2 : Int32} {a3 : Int32} {ρ : RG} {d : Nat} (hR : ∀ (a1 : Int32) (a2 : Int32) (a3 : Int32) (σ : SG), rg a1 (0) (5) → (a1.toInt ≤ (g 11).toInt ∧ (g 11).toInt - a1.toInt < (d : Int)) → BF g m σ → ok (R a1 a2 a3 σ ρ) (fun q => BF g m q)) (hT : (g 11).toInt ≤ 5) (r_a1 : rg a1 (0) (4)) : ∀ (n : Nat) (σ : SG) (v1 : Int32) (v2 : Int32) (v3 : Int32) (v4 : Int32), rg v1 (0) (4) → rg v4 (0) (6) → (6 : Int) - v4.toInt < (n : Int) → (v1.toInt < (g 11).toInt ∧ (g 11).toInt - v1.toInt < ((d + 1 : Nat) : Int)) → BF g m σ → ok (F_X12_ordersFrom_B_62 R a1 a2 a3 n σ ρ v1 v2 v3 v4) (fun q => BF g m q) := by
  intro n
  induction n with
  | zero => intro σ v1 v2 v3 v4 r_v1 r_v4 hm hmR hB; exact (ms_z r_v4 (by decide) hm).elim
  | succ n ih =>
    intro σ v1 v2 v3 v4 r_v1 r_v4 hm hmR hB
    unfold F_X12_ordersFrom_B_62
    refine ok_if (fun c_4114 => ?_) (fun c_4114 => ?_)
    · exact ok_some hB
    · refine ok_nm (fun x4_4115 hx4_4115 => ?_)
      refine ok_nm (fun x5_4116 hx5_4116 => ?_)
      refine ok_if (fun c_4117 => ?_) (fun c_4117 => ?_)
      · refine ok_nm (fun x9_4118 hx9_4118 => ?_)
        refine ok_gd (rg_inb (rg_eq hx9_4118 (rg_add (l := 44) (h := 49) (show rg (44 : Int32) (44) (44) from ⟨by decide, by decide⟩) (rg_lt (nle c_4114) r_v4 (rg_gt (nle c_4114) r_v4 (bx_get hB.1 (r := 55) (a := 11) (b := 11) (k := 11) (l := 0) (h := 6) (by decide) (by decide) (by decide)))) (by decide) (by decide) (by decide) (by decide))) (by decide) (by decide)) ?_
        refine ok_bn2 (s_X12_cuts (rg_lt (nle c_4114) r_v4 (rg_gt (nle c_4114) r_v4 (bx_get hB.1 (r := 55) (a := 11) (b := 11) (k := 11) (l := 0) (h := 6) (by decide) (by decide) (by decide)))) hB) (fun r11_4119 σ11_4120 qr11_4119 => ?_)
        obtain ⟨hr11_4119, bσ11_4120⟩ := qr11_4119
        refine ok_if (fun c_4121 => ?_) (fun c_4121 => ?_)
        · unfold F_X12_ordersFrom_B_134
          refine ok_bn (s_X12_standsBack (rg_w r_v1 (by decide) (by decide)) bσ11_4120) (fun σ7_4122 qσ7_4122 => ?_)
          refine ok_nm (fun x8_4123 hx8_4123 => ?_)
          exact ih _ _ _ _ _ r_v1 (rg_w (rg_eq hx8_4123 (rg_add (l := 1) (h := 6) (rg_lt (nle c_4114) r_v4 (rg_gt (nle c_4114) r_v4 (bx_get hB.1 (r := 55) (a := 11) (b := 11) (k := 11) (l := 0) (h := 6) (by decide) (by decide) (by decide)))) (show rg (1 : Int32) (1) (1) from ⟨by decide, by decide⟩) (by decide) (by decide) (by decide) (by decide))) (by decide) (by decide)) (ms_s hx8_4123 (rg_lt (nle c_4114) r_v4 (rg_gt (nle c_4114) r_v4 (bx_get hB.1 (r := 55) (a := 11) (b := 11) (k := 11) (l := 0) (h := 6) (by decide) (by decide) (by decide)))) (by decide) (by decide) hm) hmR qσ7_4122
        · refine ok_gd (rg_inb r_v1 (by decide) (by decide)) ?_
          refine ok_nm (fun σ15_4124 hσ15_4124 => ?_)
          have bσ15_4124 : BF g m σ15_4124 := by rw [hσ15_4124]; exact bf_far bσ11_4120 (by decide) (by decide) (by decide) (by decide)
          refine ok_nm (fun x16_4125 hx16_4125 => ?_)
          refine ok_nm (fun x17_4126 hx17_4126 => ?_)
          refine ok_nm (fun x18_4127 hx18_4127 => ?_)
          refine ok_nm (fun x19_4128 hx19_4128 => ?_)
          refine ok_nm (fun x20_4129 hx20_4129 => ?_)
          refine ok_bn (hR _ _ _ _ (rg_w (rg_eq hx16_4125 (rg_add (l := 1) (h := 5) r_v1 (show rg (1 : Int32) (1) (1) from ⟨by decide, by decide⟩) (by decide) (by decide) (by decide) (by decide))) (by decide) (by decide)) (rs_s hx16_4125 r_v1 (by decide) (by decide) hmR) bσ15_4124) (fun σ21_4130 qσ21_4130 => ?_)
          unfold F_X12_ordersFrom_B_134
          refine ok_bn (s_X12_standsBack (rg_w r_v1 (by decide) (by decide)) qσ21_4130) (fun σ7_4131 qσ7_4131 => ?_)
          refine ok_nm (fun x8_4132 hx8_4132 => ?_)
          exact ih _ _ _ _ _ r_v1 (rg_w (rg_eq hx8_4132 (rg_add (l := 1) (h := 6) (rg_lt (nle c_4114) r_v4 (rg_gt (nle c_4114) r_v4 (bx_get hB.1 (r := 55) (a := 11) (b := 11) (k := 11) (l := 0) (h := 6) (by decide) (by decide) (by decide)))) (show rg (1 : Int32) (1) (1) from ⟨by decide, by decide⟩) (by decide) (by decide) (by decide) (by decide))) (by decide) (by decide)) (ms_s hx8_4132 (rg_lt (nle c_4114) r_v4 (rg_gt (nle c_4114) r_v4 (bx_get hB.1 (r := 55) (a := 11) (b := 11) (k := 11) (l := 0) (h := 6) (by decide) (by decide) (by decide)))) (by decide) (by decide) hm) hmR qσ7_4131
      · unfold F_X12_ordersFrom_B_134
        refine ok_bn (s_X12_standsBack (rg_w r_v1 (by decide) (by decide)) hB) (fun σ7_4133 qσ7_4133 => ?_)
        refine ok_nm (fun x8_4134 hx8_4134 => ?_)
        exact ih _ _ _ _ _ r_v1 (rg_w (rg_eq hx8_4134 (rg_add (l := 1) (h := 6) (rg_lt (nle c_4114) r_v4 (rg_gt (nle c_4114) r_v4 (bx_get hB.1 (r := 55) (a := 11) (b := 11) (k := 11) (l := 0) (h := 6) (by decide) (by decide) (by decide)))) (show rg (1 : Int32) (1) (1) from ⟨by decide, by decide⟩) (by decide) (by decide) (by decide) (by decide))) (by decide) (by decide)) (ms_s hx8_4134 (rg_lt (nle c_4114) r_v4 (rg_gt (nle c_4114) r_v4 (bx_get hB.1 (r := 55) (a := 11) (b := 11) (k := 11) (l := 0) (h := 6) (by decide) (by decide) (by decide)))) (by decide) (by decide) hm) hmR qσ7_4133

set_option maxHeartbeats 4000000 in
set_option maxRecDepth 100000 in
theorem s_X12_ordersFrom_B {g : Nat → Int32} {m : Int} {R : Int32 → Int32 → Int32 → SG → RG → Option (SG)} {a1 : Int32} {a2 : Int32} {a3 : Int32} {σ : SG} {ρ : RG} {d : Nat} (hR : ∀ (a1 : Int32) (a2 : Int32) (a3 : Int32) (σ : SG), rg a1 (0) (5) → (a1.toInt ≤ (g 11).toInt ∧ (g 11).toInt - a1.toInt < (d : Int)) → BF g m σ → ok (R a1 a2 a3 σ ρ) (fun q => BF g m q)) (hT : (g 11).toInt ≤ 5) (hmR : (a1.toInt ≤ (g 11).toInt ∧ (g 11).toInt - a1.toInt < ((d + 1 : Nat) : Int))) (r_a1 : rg a1 (0) (5)) (hB : BF g m σ) : ok (F_X12_ordersFrom_B R a1 a2 a3 σ ρ) (fun q => BF g m q) := by
  unfold F_X12_ordersFrom_B
  refine ok_if (fun c_4135 => ?_) (fun c_4135 => ?_)
  · refine ok_if (fun c_4136 => ?_) (fun c_4136 => ?_)
    · exact ok_some hB
    · refine ok_nm (fun σ24_4137 hσ24_4137 => ?_)
      have bσ24_4137 : BF g m σ24_4137 := by rw [hσ24_4137]; exact bf_set hB (rg_any _) (by decide)
      exact (s_X12_ordersFrom_B_27 r_a1 (rg_lt (nle c_4136) (rg_any _) (rg_gt (nle c_4136) (rg_any _) (rg_any _))) 1024 _ _ _ r_a1 (rg_w (show rg (0 : Int32) (0) (0) from ⟨by decide, by decide⟩) (by decide) (by decide)) (ms_0 (show rg (0 : Int32) (0) (0) from ⟨by decide, by decide⟩) (by decide)) bσ24_4137)
  · have hlt := rk_g hB (by decide) c_4135 hmR
    have hk := rk_rg r_a1 hlt.1 hT
    refine ok_bn (s_X12_stands (rg_w hk (by decide) (by decide)) hB) (fun σ2_4138 qσ2_4138 => ?_)
    exact (s_X12_ordersFrom_B_62 hR hT hk 1024 _ _ _ _ _ hk (rg_w (show rg (0 : Int32) (0) (0) from ⟨by decide, by decide⟩) (by decide) (by decide)) (ms_0 (show rg (0 : Int32) (0) (0) from ⟨by decide, by decide⟩) (by decide)) hlt qσ2_4138)

theorem s_X12_ordersFrom_R {g : Nat → Int32} {m : Int} {ρ : RG} (hT : (g 11).toInt ≤ 5) : ∀ (d : Nat), ∀ (a1 : Int32) (a2 : Int32) (a3 : Int32) (σ : SG), rg a1 (0) (5) → (a1.toInt ≤ (g 11).toInt ∧ (g 11).toInt - a1.toInt < (d : Int)) → BF g m σ → ok (F_X12_ordersFrom_R d a1 a2 a3 σ ρ) (fun q => BF g m q) := by
  intro d
  induction d with
  | zero => intro a1 a2 a3 σ r_a1 hm hB; exact absurd hm.2 (by have := hm.1; omega)
  | succ d ih =>
    intro a1 a2 a3 σ r_a1 hm hB
    exact s_X12_ordersFrom_B ih hT hm r_a1 hB

theorem s_X12_ordersFrom {g : Nat → Int32} {m : Int} {a1 : Int32} {a2 : Int32} {a3 : Int32} {σ : SG} {ρ : RG} (hT : (g 11).toInt ≤ 5) (r_a1 : rg a1 (0) (0)) (hB : BF g m σ) : ok (F_X12_ordersFrom a1 a2 a3 σ ρ) (fun q => BF g m q) :=
  s_X12_ordersFrom_R hT 7 _ _ _ _ (rg_w r_a1 (by decide) (by decide)) (rk_0 r_a1 (bf_g11 hB) hT (by decide)) hB

set_option maxHeartbeats 4000000 in
set_option maxRecDepth 100000 in
theorem s_X12_rowsFrom_B_13 {g : Nat → Int32} {m : Int} {R : Int32 → SG → RG → Option (SG)} {a1 : Int32} {ρ : RG} (r_a1 : rg a1 (0) (4)) : ∀ (n : Nat) (σ : SG) (v1 : Int32) (v2 : Int32), rg v1 (0) (4) → rg v2 (0) (4) → (4 : Int) - v2.toInt < (n : Int) → BF g m σ → ok (F_X12_rowsFrom_B_13 R a1 n σ ρ v1 v2) (fun q => BF g m q) := by
  intro n
  induction n with
  | zero => intro σ v1 v2 r_v1 r_v2 hm hB; exact (ms_z r_v2 (by decide) hm).elim
  | succ n ih =>
    intro σ v1 v2 r_v1 r_v2 hm hB
    unfold F_X12_rowsFrom_B_13
    refine ok_if (fun c_4148 => ?_) (fun c_4148 => ?_)
    · unfold F_X12_rowsFrom_B_43
      refine ok_nm (fun x19_4149 hx19_4149 => ?_)
      refine ok_nm (fun σ21_4150 hσ21_4150 => ?_)
      have bσ21_4150 : BF g m σ21_4150 := by rw [hσ21_4150]; exact bf_set hB (rg_any _) (by decide)
      exact ok_some bσ21_4150
    · refine ok_if (fun c_4151 => ?_) (fun c_4151 => ?_)
      · refine ok_gd (rg_inb (rg_lt (nle c_4148) r_v2 (rg_gt (nle c_4148) r_v2 r_v1)) (by decide) (by decide)) ?_
        refine ok_gd (rg_inb (rg_lt (nle c_4148) r_v2 (rg_gt (nle c_4148) r_v2 r_v1)) (by decide) (by decide)) ?_
        refine ok_nm (fun σ26_4152 hσ26_4152 => ?_)
        have bσ26_4152 : BF g m σ26_4152 := by rw [hσ26_4152]; exact bf_far hB (by decide) (by decide) (by decide) (by decide)
        refine ok_nm (fun x27_4153 hx27_4153 => ?_)
        exact ih _ _ _ (rg_w (rg_gt (nle c_4148) (rg_lt (nle c_4148) r_v2 r_v1) r_v1) (by decide) (by decide)) (rg_w (rg_eq hx27_4153 (rg_add (l := 1) (h := 4) (rg_lt (nle c_4148) r_v2 (rg_gt (nle c_4148) r_v2 r_v1)) (show rg (1 : Int32) (1) (1) from ⟨by decide, by decide⟩) (by decide) (by decide) (by decide) (by decide))) (by decide) (by decide)) (ms_s hx27_4153 (rg_lt (nle c_4148) r_v2 (rg_gt (nle c_4148) r_v2 r_v1)) (by decide) (by decide) hm) bσ26_4152
      · unfold F_X12_rowsFrom_B_43
        refine ok_nm (fun x19_4154 hx19_4154 => ?_)
        refine ok_nm (fun σ21_4155 hσ21_4155 => ?_)
        have bσ21_4155 : BF g m σ21_4155 := by rw [hσ21_4155]; exact bf_set hB (rg_any _) (by decide)
        exact ok_some bσ21_4155

set_option maxHeartbeats 4000000 in
set_option maxRecDepth 100000 in
theorem s_X12_rowsFrom_B_61 {g : Nat → Int32} {m : Int} {R : Int32 → SG → RG → Option (SG)} {a1 : Int32} {ρ : RG} {d : Nat} (hR : ∀ (a1 : Int32) (σ : SG), rg a1 (0) (4) → (a1.toInt ≤ (g 13).toInt ∧ (g 13).toInt - a1.toInt < (d : Int)) → BF g m σ → ok (R a1 σ ρ) (fun q => BF g m q)) (hT : (g 13).toInt ≤ 4) (r_a1 : rg a1 (0) (3)) : ∀ (n : Nat) (σ : SG) (v1 : Int32) (v2 : Int32), rg v1 (0) (3) → rg v2 (0) (6) → (6 : Int) - v2.toInt < (n : Int) → (v1.toInt < (g 13).toInt ∧ (g 13).toInt - v1.toInt < ((d + 1 : Nat) : Int)) → BF g m σ → ok (F_X12_rowsFrom_B_61 R a1 n σ ρ v1 v2) (fun q => BF g m q) := by
  intro n
  induction n with
  | zero => intro σ v1 v2 r_v1 r_v2 hm hmR hB; exact (ms_z r_v2 (by decide) hm).elim
  | succ n ih =>
    intro σ v1 v2 r_v1 r_v2 hm hmR hB
    unfold F_X12_rowsFrom_B_61
    refine ok_if (fun c_4173 => ?_) (fun c_4173 => ?_)
    · exact ok_some hB
    · refine ok_nm (fun x4_4174 hx4_4174 => ?_)
      refine ok_gd (rg_inb (rg_eq hx4_4174 (rg_add (l := 44) (h := 49) (show rg (44 : Int32) (44) (44) from ⟨by decide, by decide⟩) (rg_lt (nle c_4173) r_v2 (rg_gt (nle c_4173) r_v2 (bx_get hB.1 (r := 55) (a := 11) (b := 11) (k := 11) (l := 0) (h := 6) (by decide) (by decide) (by decide)))) (by decide) (by decide) (by decide) (by decide))) (by decide) (by decide)) ?_
      refine ok_bn2 (s_X12_cuts (rg_lt (nle c_4173) r_v2 (rg_gt (nle c_4173) r_v2 (bx_get hB.1 (r := 55) (a := 11) (b := 11) (k := 11) (l := 0) (h := 6) (by decide) (by decide) (by decide)))) hB) (fun r6_4175 σ6_4176 qr6_4175 => ?_)
      obtain ⟨hr6_4175, bσ6_4176⟩ := qr6_4175
      refine ok_if (fun c_4177 => ?_) (fun c_4177 => ?_)
      · unfold F_X12_rowsFrom_B_121
        refine ok_bn (s_X12_standsBack (rg_w r_v1 (by decide) (by decide)) bσ6_4176) (fun σ8_4178 qσ8_4178 => ?_)
        refine ok_nm (fun x9_4179 hx9_4179 => ?_)
        exact ih _ _ _ r_v1 (rg_w (rg_eq hx9_4179 (rg_add (l := 1) (h := 6) (rg_lt (nle c_4173) r_v2 (rg_gt (nle c_4173) r_v2 (bx_get hB.1 (r := 55) (a := 11) (b := 11) (k := 11) (l := 0) (h := 6) (by decide) (by decide) (by decide)))) (show rg (1 : Int32) (1) (1) from ⟨by decide, by decide⟩) (by decide) (by decide) (by decide) (by decide))) (by decide) (by decide)) (ms_s hx9_4179 (rg_lt (nle c_4173) r_v2 (rg_gt (nle c_4173) r_v2 (bx_get hB.1 (r := 55) (a := 11) (b := 11) (k := 11) (l := 0) (h := 6) (by decide) (by decide) (by decide)))) (by decide) (by decide) hm) hmR qσ8_4178
      · refine ok_nm (fun x10_4180 hx10_4180 => ?_)
        refine ok_gd (rg_inb (rg_eq hx10_4180 (rg_add (l := 74) (h := 77) (show rg (74 : Int32) (74) (74) from ⟨by decide, by decide⟩) r_v1 (by decide) (by decide) (by decide) (by decide))) (by decide) (by decide)) ?_
        refine ok_if (fun c_4181 => ?_) (fun c_4181 => ?_)
        · refine ok_gd (rg_inb r_v1 (by decide) (by decide)) ?_
          refine ok_nm (fun σ15_4182 hσ15_4182 => ?_)
          have bσ15_4182 : BF g m σ15_4182 := by rw [hσ15_4182]; exact bf_far bσ6_4176 (by decide) (by decide) (by decide) (by decide)
          refine ok_nm (fun x16_4183 hx16_4183 => ?_)
          refine ok_bn (hR _ _ (rg_w (rg_eq hx16_4183 (rg_add (l := 1) (h := 4) r_v1 (show rg (1 : Int32) (1) (1) from ⟨by decide, by decide⟩) (by decide) (by decide) (by decide) (by decide))) (by decide) (by decide)) (rs_s hx16_4183 r_v1 (by decide) (by decide) hmR) bσ15_4182) (fun σ17_4184 qσ17_4184 => ?_)
          unfold F_X12_rowsFrom_B_121
          refine ok_bn (s_X12_standsBack (rg_w r_v1 (by decide) (by decide)) qσ17_4184) (fun σ8_4185 qσ8_4185 => ?_)
          refine ok_nm (fun x9_4186 hx9_4186 => ?_)
          exact ih _ _ _ r_v1 (rg_w (rg_eq hx9_4186 (rg_add (l := 1) (h := 6) (rg_lt (nle c_4173) r_v2 (rg_gt (nle c_4173) r_v2 (bx_get hB.1 (r := 55) (a := 11) (b := 11) (k := 11) (l := 0) (h := 6) (by decide) (by decide) (by decide)))) (show rg (1 : Int32) (1) (1) from ⟨by decide, by decide⟩) (by decide) (by decide) (by decide) (by decide))) (by decide) (by decide)) (ms_s hx9_4186 (rg_lt (nle c_4173) r_v2 (rg_gt (nle c_4173) r_v2 (bx_get hB.1 (r := 55) (a := 11) (b := 11) (k := 11) (l := 0) (h := 6) (by decide) (by decide) (by decide)))) (by decide) (by decide) hm) hmR qσ8_4185
        · unfold F_X12_rowsFrom_B_121
          refine ok_bn (s_X12_standsBack (rg_w r_v1 (by decide) (by decide)) bσ6_4176) (fun σ8_4187 qσ8_4187 => ?_)
          refine ok_nm (fun x9_4188 hx9_4188 => ?_)
          exact ih _ _ _ r_v1 (rg_w (rg_eq hx9_4188 (rg_add (l := 1) (h := 6) (rg_lt (nle c_4173) r_v2 (rg_gt (nle c_4173) r_v2 (bx_get hB.1 (r := 55) (a := 11) (b := 11) (k := 11) (l := 0) (h := 6) (by decide) (by decide) (by decide)))) (show rg (1 : Int32) (1) (1) from ⟨by decide, by decide⟩) (by decide) (by decide) (by decide) (by decide))) (by decide) (by decide)) (ms_s hx9_4188 (rg_lt (nle c_4173) r_v2 (rg_gt (nle c_4173) r_v2 (bx_get hB.1 (r := 55) (a := 11) (b := 11) (k := 11) (l := 0) (h := 6) (by decide) (by decide) (by decide)))) (by decide) (by decide) hm) hmR qσ8_4187

set_option maxHeartbeats 4000000 in
set_option maxRecDepth 100000 in
theorem s_X12_rowsFrom_B {g : Nat → Int32} {m : Int} {R : Int32 → SG → RG → Option (SG)} {a1 : Int32} {σ : SG} {ρ : RG} {d : Nat} (hR : ∀ (a1 : Int32) (σ : SG), rg a1 (0) (4) → (a1.toInt ≤ (g 13).toInt ∧ (g 13).toInt - a1.toInt < (d : Int)) → BF g m σ → ok (R a1 σ ρ) (fun q => BF g m q)) (hT : (g 13).toInt ≤ 4) (hmR : (a1.toInt ≤ (g 13).toInt ∧ (g 13).toInt - a1.toInt < ((d + 1 : Nat) : Int))) (r_a1 : rg a1 (0) (4)) (hB : BF g m σ) : ok (F_X12_rowsFrom_B R a1 σ ρ) (fun q => BF g m q) := by
  unfold F_X12_rowsFrom_B
  refine ok_if (fun c_4189 => ?_) (fun c_4189 => ?_)
  · exact (s_X12_rowsFrom_B_13 r_a1 1024 _ _ _ r_a1 (rg_w (show rg (0 : Int32) (0) (0) from ⟨by decide, by decide⟩) (by decide) (by decide)) (ms_0 (show rg (0 : Int32) (0) (0) from ⟨by decide, by decide⟩) (by decide)) hB)
  · have hlt := rk_g hB (by decide) c_4189 hmR
    have hk := rk_rg r_a1 hlt.1 hT
    refine ok_bn (s_X12_stands (rg_w hk (by decide) (by decide)) hB) (fun σ2_4190 qσ2_4190 => ?_)
    exact (s_X12_rowsFrom_B_61 hR hT hk 1024 _ _ _ hk (rg_w (show rg (0 : Int32) (0) (0) from ⟨by decide, by decide⟩) (by decide) (by decide)) (ms_0 (show rg (0 : Int32) (0) (0) from ⟨by decide, by decide⟩) (by decide)) hlt qσ2_4190)

theorem s_X12_rowsFrom_R {g : Nat → Int32} {m : Int} {ρ : RG} (hT : (g 13).toInt ≤ 4) : ∀ (d : Nat), ∀ (a1 : Int32) (σ : SG), rg a1 (0) (4) → (a1.toInt ≤ (g 13).toInt ∧ (g 13).toInt - a1.toInt < (d : Int)) → BF g m σ → ok (F_X12_rowsFrom_R d a1 σ ρ) (fun q => BF g m q) := by
  intro d
  induction d with
  | zero => intro a1 σ r_a1 hm hB; exact absurd hm.2 (by have := hm.1; omega)
  | succ d ih =>
    intro a1 σ r_a1 hm hB
    exact s_X12_rowsFrom_B ih hT hm r_a1 hB

theorem s_X12_rowsFrom {g : Nat → Int32} {m : Int} {a1 : Int32} {σ : SG} {ρ : RG} (hT : (g 13).toInt ≤ 4) (r_a1 : rg a1 (0) (0)) (hB : BF g m σ) : ok (F_X12_rowsFrom a1 σ ρ) (fun q => BF g m q) :=
  s_X12_rowsFrom_R hT 6 _ _ (rg_w r_a1 (by decide) (by decide)) (rk_0 r_a1 (bf_g13 hB) hT (by decide)) hB

set_option maxHeartbeats 4000000 in
set_option maxRecDepth 100000 in
theorem s_X12_game {g : Nat → Int32} {m : Int} {a1 : Int32} {a2 : Int32} {a3 : Int32} {a4 : Int32} {σ : SG} {ρ : RG} (hB : BF g m σ) : ok (F_X12_game a1 a2 a3 a4 σ ρ) (fun q => rg q.1 (-2147483648) (2147483647) ∧ BF g m q.2) := by
  unfold F_X12_game
  refine ok_bn (s_X12_isCutter hB.1) (fun r1_4211 qr1_4211 => ?_)
  refine ok_if (fun c_4212 => ?_) (fun c_4212 => ?_)
  · exact ok_some ⟨(rg_w (show rg (-10001 : Int32) (-10001) (-10001) from ⟨by decide, by decide⟩) (by decide) (by decide)), hB⟩
  · obtain ⟨w_4213, w_4214⟩ := qr1_4211.2 c_4212
    refine ok_bn (s_X12_isCutter hB.1) (fun r3_4215 qr3_4215 => ?_)
    refine ok_if (fun c_4216 => ?_) (fun c_4216 => ?_)
    · exact ok_some ⟨(rg_w (show rg (-10001 : Int32) (-10001) (-10001) from ⟨by decide, by decide⟩) (by decide) (by decide)), hB⟩
    · obtain ⟨w_4217, w_4218⟩ := qr3_4215.2 c_4216
      refine ok_bn (s_X12_in) (fun r5_4219 qr5_4219 => ?_)
      refine ok_if (fun c_4220 => ?_) (fun c_4220 => ?_)
      · exact ok_some ⟨(rg_w (show rg (-10001 : Int32) (-10001) (-10001) from ⟨by decide, by decide⟩) (by decide) (by decide)), hB⟩
      · obtain ⟨w_4221, w_4222⟩ := qr5_4219.2 c_4220
        refine ok_if (fun c_4223 => ?_) (fun c_4223 => ?_)
        · exact ok_some ⟨(rg_w (show rg (-10002 : Int32) (-10002) (-10002) from ⟨by decide, by decide⟩) (by decide) (by decide)), hB⟩
        · refine ok_bn (s_X12_in) (fun r8_4224 qr8_4224 => ?_)
          refine ok_if (fun c_4225 => ?_) (fun c_4225 => ?_)
          · exact ok_some ⟨(rg_w (show rg (-10002 : Int32) (-10002) (-10002) from ⟨by decide, by decide⟩) (by decide) (by decide)), hB⟩
          · obtain ⟨w_4226, w_4227⟩ := qr8_4224.2 c_4225
            refine ok_bn2 (s_X12_gameFor (rg_le w_4214 (rg_ge w_4213 (show rg (0 : Int32) (0) (0) from ⟨by decide, by decide⟩) (rg_any _)) (show rg (5 : Int32) (5) (5) from ⟨by decide, by decide⟩)) (rg_le w_4218 (rg_ge w_4217 (show rg (0 : Int32) (0) (0) from ⟨by decide, by decide⟩) (rg_any _)) (show rg (5 : Int32) (5) (5) from ⟨by decide, by decide⟩)) (show rg (0 : Int32) (0) (0) from ⟨by decide, by decide⟩) (rg_w (rg_le w_4227 (rg_ge w_4226 (show rg (1 : Int32) (1) (1) from ⟨by decide, by decide⟩) (rg_any _)) (show rg (5 : Int32) (5) (5) from ⟨by decide, by decide⟩)) (by decide) (by decide)) hB) (fun r10_4228 σ10_4229 qr10_4228 => ?_)
            obtain ⟨hr10_4228, bσ10_4229⟩ := qr10_4228
            refine ok_if (fun c_4230 => ?_) (fun c_4230 => ?_)
            · exact ok_some ⟨hr10_4228, bσ10_4229⟩
            · exact ok_some ⟨(rg_any _), bσ10_4229⟩

set_option maxHeartbeats 4000000 in
set_option maxRecDepth 100000 in
theorem s_X12_isUnder {m : Int} {a1 : Int32} {a2 : Int32} {σ : SG} {ρ : RG} (hB : BX m σ) : ok (F_X12_isUnder a1 a2 σ ρ) (fun q => rg q (0) (1)) := by
  unfold F_X12_isUnder
  refine ok_if (fun c_4237 => ?_) (fun c_4237 => ?_)
  · exact ok_some (rg_w (show rg (1 : Int32) (1) (1) from ⟨by decide, by decide⟩) (by decide) (by decide))
  · refine ok_if (fun c_4238 => ?_) (fun c_4238 => ?_)
    · exact ok_some (rg_w (show rg (1 : Int32) (1) (1) from ⟨by decide, by decide⟩) (by decide) (by decide))
    · refine ok_if (fun c_4239 => ?_) (fun c_4239 => ?_)
      · exact ok_some (rg_w (show rg (0 : Int32) (0) (0) from ⟨by decide, by decide⟩) (by decide) (by decide))
      · refine ok_if (fun c_4240 => ?_) (fun c_4240 => ?_)
        · exact ok_some (rg_w (show rg (0 : Int32) (0) (0) from ⟨by decide, by decide⟩) (by decide) (by decide))
        · refine ok_nm (fun x5_4241 hx5_4241 => ?_)
          refine ok_if (fun c_4242 => ?_) (fun c_4242 => ?_)
          · exact ok_some (rg_w (show rg (1 : Int32) (1) (1) from ⟨by decide, by decide⟩) (by decide) (by decide))
          · exact ok_some (rg_w (show rg (0 : Int32) (0) (0) from ⟨by decide, by decide⟩) (by decide) (by decide))

set_option maxHeartbeats 4000000 in
set_option maxRecDepth 100000 in
theorem s_X12_feed {m : Int} {a1 : Int32} {σ : SG} {ρ : RG} (hB : BX m σ) : ok (F_X12_feed a1 σ ρ) (fun q => rg q.1 (-4) (100) ∧ BX m q.2) := by
  unfold F_X12_feed
  refine ok_bn (s_X12_in) (fun r1_4252 qr1_4252 => ?_)
  refine ok_if (fun c_4253 => ?_) (fun c_4253 => ?_)
  · exact ok_some ⟨(rg_w (show rg (-2 : Int32) (-2) (-2) from ⟨by decide, by decide⟩) (by decide) (by decide)), hB⟩
  · obtain ⟨w_4254, w_4255⟩ := qr1_4252.2 c_4253
    refine ok_if (fun c_4256 => ?_) (fun c_4256 => ?_)
    · exact ok_some ⟨(rg_w (show rg (-4 : Int32) (-4) (-4) from ⟨by decide, by decide⟩) (by decide) (by decide)), hB⟩
    · refine ok_nm (fun x4_4257 hx4_4257 => ?_)
      refine ok_gd (rg_inb (rg_eq hx4_4257 (rg_add (l := 94) (h := 193) (show rg (94 : Int32) (94) (94) from ⟨by decide, by decide⟩) (rg_neh c_4256 (bx_get hB (r := 55) (a := 15) (b := 15) (k := 15) (l := 0) (h := 100) (by decide) (by decide) (by decide)) (show rg (100 : Int32) (100) (100) from ⟨by decide, by decide⟩) rfl) (by decide) (by decide) (by decide) (by decide))) (by decide) (by decide)) ?_
      refine ok_nm (fun σ7_4258 hσ7_4258 => ?_)
      have bσ7_4258 : BX m σ7_4258 := by rw [hσ7_4258]; exact bx_setx hB (a := 94) (b := 193) (rg_eq hx4_4257 (rg_add (l := 94) (h := 193) (show rg (94 : Int32) (94) (94) from ⟨by decide, by decide⟩) (rg_neh c_4256 (bx_get hB (r := 55) (a := 15) (b := 15) (k := 15) (l := 0) (h := 100) (by decide) (by decide) (by decide)) (show rg (100 : Int32) (100) (100) from ⟨by decide, by decide⟩) rfl) (by decide) (by decide) (by decide) (by decide))) (rg_any _) (by decide)
      refine ok_nm (fun x8_4259 hx8_4259 => ?_)
      refine ok_nm (fun σ10_4260 hσ10_4260 => ?_)
      have bσ10_4260 : BX m σ10_4260 := by rw [hσ10_4260]; exact bx_set bσ7_4258 (rg_eq hx8_4259 (rg_add (l := 1) (h := 100) (rg_eq (s2_kx hσ7_4258 (rg_eq hx4_4257 (rg_add (l := 94) (h := 193) (show rg (94 : Int32) (94) (94) from ⟨by decide, by decide⟩) (rg_neh c_4256 (bx_get hB (r := 55) (a := 15) (b := 15) (k := 15) (l := 0) (h := 100) (by decide) (by decide) (by decide)) (show rg (100 : Int32) (100) (100) from ⟨by decide, by decide⟩) rfl) (by decide) (by decide) (by decide) (by decide))) (by decide) (by decide)) (rg_neh c_4256 (bx_get hB (r := 55) (a := 15) (b := 15) (k := 15) (l := 0) (h := 100) (by decide) (by decide) (by decide)) (show rg (100 : Int32) (100) (100) from ⟨by decide, by decide⟩) rfl)) (show rg (1 : Int32) (1) (1) from ⟨by decide, by decide⟩) (by decide) (by decide) (by decide) (by decide))) (by decide)
      exact ok_some ⟨(rg_w (rg_eq (s2_v hσ10_4260) (rg_eq hx8_4259 (rg_add (l := 1) (h := 100) (rg_eq (s2_kx hσ7_4258 (rg_eq hx4_4257 (rg_add (l := 94) (h := 193) (show rg (94 : Int32) (94) (94) from ⟨by decide, by decide⟩) (rg_neh c_4256 (bx_get hB (r := 55) (a := 15) (b := 15) (k := 15) (l := 0) (h := 100) (by decide) (by decide) (by decide)) (show rg (100 : Int32) (100) (100) from ⟨by decide, by decide⟩) rfl) (by decide) (by decide) (by decide) (by decide))) (by decide) (by decide)) (rg_neh c_4256 (bx_get hB (r := 55) (a := 15) (b := 15) (k := 15) (l := 0) (h := 100) (by decide) (by decide) (by decide)) (show rg (100 : Int32) (100) (100) from ⟨by decide, by decide⟩) rfl)) (show rg (1 : Int32) (1) (1) from ⟨by decide, by decide⟩) (by decide) (by decide) (by decide) (by decide)))) (by decide) (by decide)), bσ10_4260⟩

set_option maxHeartbeats 4000000 in
set_option maxRecDepth 100000 in
theorem s_X12_cutter {m : Int} {a1 : Int32} {a2 : Int32} {a3 : Int32} {a4 : Int32} {a5 : Int32} {σ : SG} {ρ : RG} (hB : BX m σ) : ok (F_X12_cutter a1 a2 a3 a4 a5 σ ρ) (fun q => rg q.1 (-4) (5) ∧ BX m q.2) := by
  unfold F_X12_cutter
  refine ok_bn (s_X12_in) (fun r1_4294 qr1_4294 => ?_)
  refine ok_if (fun c_4295 => ?_) (fun c_4295 => ?_)
  · exact ok_some ⟨(rg_w (show rg (-1 : Int32) (-1) (-1) from ⟨by decide, by decide⟩) (by decide) (by decide)), hB⟩
  · obtain ⟨w_4296, w_4297⟩ := qr1_4294.2 c_4295
    refine ok_bn (s_X12_in) (fun r3_4298 qr3_4298 => ?_)
    refine ok_if (fun c_4299 => ?_) (fun c_4299 => ?_)
    · exact ok_some ⟨(rg_w (show rg (-2 : Int32) (-2) (-2) from ⟨by decide, by decide⟩) (by decide) (by decide)), hB⟩
    · obtain ⟨w_4300, w_4301⟩ := qr3_4298.2 c_4299
      refine ok_bn (s_X12_in) (fun r5_4302 qr5_4302 => ?_)
      refine ok_if (fun c_4303 => ?_) (fun c_4303 => ?_)
      · exact ok_some ⟨(rg_w (show rg (-2 : Int32) (-2) (-2) from ⟨by decide, by decide⟩) (by decide) (by decide)), hB⟩
      · obtain ⟨w_4304, w_4305⟩ := qr5_4302.2 c_4303
        refine ok_bn (s_X12_in) (fun r7_4306 qr7_4306 => ?_)
        refine ok_if (fun c_4307 => ?_) (fun c_4307 => ?_)
        · exact ok_some ⟨(rg_w (show rg (-2 : Int32) (-2) (-2) from ⟨by decide, by decide⟩) (by decide) (by decide)), hB⟩
        · obtain ⟨w_4308, w_4309⟩ := qr7_4306.2 c_4307
          refine ok_bn (s_X12_in) (fun r9_4310 qr9_4310 => ?_)
          refine ok_if (fun c_4311 => ?_) (fun c_4311 => ?_)
          · exact ok_some ⟨(rg_w (show rg (-2 : Int32) (-2) (-2) from ⟨by decide, by decide⟩) (by decide) (by decide)), hB⟩
          · obtain ⟨w_4312, w_4313⟩ := qr9_4310.2 c_4311
            refine ok_if (fun c_4314 => ?_) (fun c_4314 => ?_)
            · exact ok_some ⟨(rg_w (show rg (-4 : Int32) (-4) (-4) from ⟨by decide, by decide⟩) (by decide) (by decide)), hB⟩
            · refine ok_nm (fun x12_4315 hx12_4315 => ?_)
              refine ok_gd (rg_inb (rg_eq hx12_4315 (rg_add (l := 20) (h := 25) (show rg (20 : Int32) (20) (20) from ⟨by decide, by decide⟩) (rg_neh c_4314 (bx_get hB (r := 55) (a := 11) (b := 11) (k := 11) (l := 0) (h := 6) (by decide) (by decide) (by decide)) (show rg (6 : Int32) (6) (6) from ⟨by decide, by decide⟩) rfl) (by decide) (by decide) (by decide) (by decide))) (by decide) (by decide)) ?_
              refine ok_nm (fun σ15_4316 hσ15_4316 => ?_)
              have bσ15_4316 : BX m σ15_4316 := by rw [hσ15_4316]; exact bx_setx hB (a := 20) (b := 25) (rg_eq hx12_4315 (rg_add (l := 20) (h := 25) (show rg (20 : Int32) (20) (20) from ⟨by decide, by decide⟩) (rg_neh c_4314 (bx_get hB (r := 55) (a := 11) (b := 11) (k := 11) (l := 0) (h := 6) (by decide) (by decide) (by decide)) (show rg (6 : Int32) (6) (6) from ⟨by decide, by decide⟩) rfl) (by decide) (by decide) (by decide) (by decide))) (rg_any _) (by decide)
              refine ok_nm (fun x16_4317 hx16_4317 => ?_)
              refine ok_gd (rg_inb (rg_eq hx16_4317 (rg_add (l := 26) (h := 31) (show rg (26 : Int32) (26) (26) from ⟨by decide, by decide⟩) (rg_neh c_4314 (bx_get hB (r := 55) (a := 11) (b := 11) (k := 11) (l := 0) (h := 6) (by decide) (by decide) (by decide)) (show rg (6 : Int32) (6) (6) from ⟨by decide, by decide⟩) rfl) (by decide) (by decide) (by decide) (by decide))) (by decide) (by decide)) ?_
              refine ok_nm (fun σ19_4318 hσ19_4318 => ?_)
              have bσ19_4318 : BX m σ19_4318 := by rw [hσ19_4318]; exact bx_setx bσ15_4316 (a := 26) (b := 31) (rg_eq hx16_4317 (rg_add (l := 26) (h := 31) (show rg (26 : Int32) (26) (26) from ⟨by decide, by decide⟩) (rg_neh c_4314 (bx_get hB (r := 55) (a := 11) (b := 11) (k := 11) (l := 0) (h := 6) (by decide) (by decide) (by decide)) (show rg (6 : Int32) (6) (6) from ⟨by decide, by decide⟩) rfl) (by decide) (by decide) (by decide) (by decide))) (rg_any _) (by decide)
              refine ok_nm (fun x20_4319 hx20_4319 => ?_)
              refine ok_gd (rg_inb (rg_eq hx20_4319 (rg_add (l := 32) (h := 37) (show rg (32 : Int32) (32) (32) from ⟨by decide, by decide⟩) (rg_neh c_4314 (bx_get hB (r := 55) (a := 11) (b := 11) (k := 11) (l := 0) (h := 6) (by decide) (by decide) (by decide)) (show rg (6 : Int32) (6) (6) from ⟨by decide, by decide⟩) rfl) (by decide) (by decide) (by decide) (by decide))) (by decide) (by decide)) ?_
              refine ok_nm (fun σ23_4320 hσ23_4320 => ?_)
              have bσ23_4320 : BX m σ23_4320 := by rw [hσ23_4320]; exact bx_setx bσ19_4318 (a := 32) (b := 37) (rg_eq hx20_4319 (rg_add (l := 32) (h := 37) (show rg (32 : Int32) (32) (32) from ⟨by decide, by decide⟩) (rg_neh c_4314 (bx_get hB (r := 55) (a := 11) (b := 11) (k := 11) (l := 0) (h := 6) (by decide) (by decide) (by decide)) (show rg (6 : Int32) (6) (6) from ⟨by decide, by decide⟩) rfl) (by decide) (by decide) (by decide) (by decide))) (rg_any _) (by decide)
              refine ok_nm (fun x24_4321 hx24_4321 => ?_)
              refine ok_gd (rg_inb (rg_eq hx24_4321 (rg_add (l := 38) (h := 43) (show rg (38 : Int32) (38) (38) from ⟨by decide, by decide⟩) (rg_neh c_4314 (bx_get hB (r := 55) (a := 11) (b := 11) (k := 11) (l := 0) (h := 6) (by decide) (by decide) (by decide)) (show rg (6 : Int32) (6) (6) from ⟨by decide, by decide⟩) rfl) (by decide) (by decide) (by decide) (by decide))) (by decide) (by decide)) ?_
              refine ok_nm (fun σ27_4322 hσ27_4322 => ?_)
              have bσ27_4322 : BX m σ27_4322 := by rw [hσ27_4322]; exact bx_setx bσ23_4320 (a := 38) (b := 43) (rg_eq hx24_4321 (rg_add (l := 38) (h := 43) (show rg (38 : Int32) (38) (38) from ⟨by decide, by decide⟩) (rg_neh c_4314 (bx_get hB (r := 55) (a := 11) (b := 11) (k := 11) (l := 0) (h := 6) (by decide) (by decide) (by decide)) (show rg (6 : Int32) (6) (6) from ⟨by decide, by decide⟩) rfl) (by decide) (by decide) (by decide) (by decide))) (rg_any _) (by decide)
              refine ok_nm (fun x28_4323 hx28_4323 => ?_)
              refine ok_gd (rg_inb (rg_eq hx28_4323 (rg_add (l := 44) (h := 49) (show rg (44 : Int32) (44) (44) from ⟨by decide, by decide⟩) (rg_neh c_4314 (bx_get hB (r := 55) (a := 11) (b := 11) (k := 11) (l := 0) (h := 6) (by decide) (by decide) (by decide)) (show rg (6 : Int32) (6) (6) from ⟨by decide, by decide⟩) rfl) (by decide) (by decide) (by decide) (by decide))) (by decide) (by decide)) ?_
              refine ok_nm (fun σ31_4324 hσ31_4324 => ?_)
              have bσ31_4324 : BX m σ31_4324 := by rw [hσ31_4324]; exact bx_thick bσ27_4322 (rg_w (rg_eq hx28_4323 (rg_add (l := 44) (h := 49) (show rg (44 : Int32) (44) (44) from ⟨by decide, by decide⟩) (rg_neh c_4314 (bx_get hB (r := 55) (a := 11) (b := 11) (k := 11) (l := 0) (h := 6) (by decide) (by decide) (by decide)) (show rg (6 : Int32) (6) (6) from ⟨by decide, by decide⟩) rfl) (by decide) (by decide) (by decide) (by decide))) (by decide) (by decide)) (rg_w (rg_le w_4313 (rg_ge w_4312 (show rg (1 : Int32) (1) (1) from ⟨by decide, by decide⟩) (rg_any _)) (show rg (40 : Int32) (40) (40) from ⟨by decide, by decide⟩)) (by decide) (by decide))
              refine ok_nm (fun x32_4325 hx32_4325 => ?_)
              refine ok_gd (rg_inb (rg_eq hx32_4325 (rg_add (l := 5) (h := 10) (show rg (5 : Int32) (5) (5) from ⟨by decide, by decide⟩) (rg_neh c_4314 (bx_get hB (r := 55) (a := 11) (b := 11) (k := 11) (l := 0) (h := 6) (by decide) (by decide) (by decide)) (show rg (6 : Int32) (6) (6) from ⟨by decide, by decide⟩) rfl) (by decide) (by decide) (by decide) (by decide))) (by decide) (by decide)) ?_
              refine ok_nm (fun σ35_4326 hσ35_4326 => ?_)
              have bσ35_4326 : BX m σ35_4326 := by rw [hσ35_4326]; exact bx_setx bσ31_4324 (a := 5) (b := 10) (rg_eq hx32_4325 (rg_add (l := 5) (h := 10) (show rg (5 : Int32) (5) (5) from ⟨by decide, by decide⟩) (rg_neh c_4314 (bx_get hB (r := 55) (a := 11) (b := 11) (k := 11) (l := 0) (h := 6) (by decide) (by decide) (by decide)) (show rg (6 : Int32) (6) (6) from ⟨by decide, by decide⟩) rfl) (by decide) (by decide) (by decide) (by decide))) (rg_any _) (by decide)
              exact (s_X12_cutter_153 (rg_neh c_4314 (bx_get hB (r := 55) (a := 11) (b := 11) (k := 11) (l := 0) (h := 6) (by decide) (by decide) (by decide)) (show rg (6 : Int32) (6) (6) from ⟨by decide, by decide⟩) rfl) 1024 _ _ ⟨by decide, by decide⟩ (by decide) bσ35_4326 ((((((s2_kx hσ35_4326 (rg_eq hx32_4325 (rg_add (l := 5) (h := 10) (show rg (5 : Int32) (5) (5) from ⟨by decide, by decide⟩) (rg_neh c_4314 (bx_get hB (r := 55) (a := 11) (b := 11) (k := 11) (l := 0) (h := 6) (by decide) (by decide) (by decide)) (show rg (6 : Int32) (6) (6) from ⟨by decide, by decide⟩) rfl) (by decide) (by decide) (by decide) (by decide))) (by decide) (by decide)).trans (s2_kx hσ31_4324 (rg_eq hx28_4323 (rg_add (l := 44) (h := 49) (show rg (44 : Int32) (44) (44) from ⟨by decide, by decide⟩) (rg_neh c_4314 (bx_get hB (r := 55) (a := 11) (b := 11) (k := 11) (l := 0) (h := 6) (by decide) (by decide) (by decide)) (show rg (6 : Int32) (6) (6) from ⟨by decide, by decide⟩) rfl) (by decide) (by decide) (by decide) (by decide))) (by decide) (by decide))).trans (s2_kx hσ27_4322 (rg_eq hx24_4321 (rg_add (l := 38) (h := 43) (show rg (38 : Int32) (38) (38) from ⟨by decide, by decide⟩) (rg_neh c_4314 (bx_get hB (r := 55) (a := 11) (b := 11) (k := 11) (l := 0) (h := 6) (by decide) (by decide) (by decide)) (show rg (6 : Int32) (6) (6) from ⟨by decide, by decide⟩) rfl) (by decide) (by decide) (by decide) (by decide))) (by decide) (by decide))).trans (s2_kx hσ23_4320 (rg_eq hx20_4319 (rg_add (l := 32) (h := 37) (show rg (32 : Int32) (32) (32) from ⟨by decide, by decide⟩) (rg_neh c_4314 (bx_get hB (r := 55) (a := 11) (b := 11) (k := 11) (l := 0) (h := 6) (by decide) (by decide) (by decide)) (show rg (6 : Int32) (6) (6) from ⟨by decide, by decide⟩) rfl) (by decide) (by decide) (by decide) (by decide))) (by decide) (by decide))).trans (s2_kx hσ19_4318 (rg_eq hx16_4317 (rg_add (l := 26) (h := 31) (show rg (26 : Int32) (26) (26) from ⟨by decide, by decide⟩) (rg_neh c_4314 (bx_get hB (r := 55) (a := 11) (b := 11) (k := 11) (l := 0) (h := 6) (by decide) (by decide) (by decide)) (show rg (6 : Int32) (6) (6) from ⟨by decide, by decide⟩) rfl) (by decide) (by decide) (by decide) (by decide))) (by decide) (by decide))).trans (s2_kx hσ15_4316 (rg_eq hx12_4315 (rg_add (l := 20) (h := 25) (show rg (20 : Int32) (20) (20) from ⟨by decide, by decide⟩) (rg_neh c_4314 (bx_get hB (r := 55) (a := 11) (b := 11) (k := 11) (l := 0) (h := 6) (by decide) (by decide) (by decide)) (show rg (6 : Int32) (6) (6) from ⟨by decide, by decide⟩) rfl) (by decide) (by decide) (by decide) (by decide))) (by decide) (by decide))) (cut_thick (rg_neh c_4314 (bx_get hB (r := 55) (a := 11) (b := 11) (k := 11) (l := 0) (h := 6) (by decide) (by decide) (by decide)) (show rg (6 : Int32) (6) (6) from ⟨by decide, by decide⟩) rfl) hx28_4323 hσ31_4324 (rg_eq hx32_4325 (rg_add (l := 5) (h := 10) (show rg (5 : Int32) (5) (5) from ⟨by decide, by decide⟩) (rg_neh c_4314 (bx_get hB (r := 55) (a := 11) (b := 11) (k := 11) (l := 0) (h := 6) (by decide) (by decide) (by decide)) (show rg (6 : Int32) (6) (6) from ⟨by decide, by decide⟩) rfl) (by decide) (by decide) (by decide) (by decide))) hσ35_4326 (rg_le w_4313 (rg_ge w_4312 (show rg (1 : Int32) (1) (1) from ⟨by decide, by decide⟩) (rg_any _)) (show rg (40 : Int32) (40) (40) from ⟨by decide, by decide⟩))))

set_option maxHeartbeats 4000000 in
set_option maxRecDepth 100000 in
theorem s_X12_of {m : Int} {a1 : Int32} {a2 : Int32} {σ : SG} {ρ : RG} (hB : BX m σ) : ok (F_X12_of a1 a2 σ ρ) (fun q => rg q (-2147483648) (2147483647)) := by
  unfold F_X12_of
  refine ok_bn (s_X12_isCutter hB) (fun r1_4340 qr1_4340 => ?_)
  refine ok_if (fun c_4341 => ?_) (fun c_4341 => ?_)
  · exact ok_some (rg_w (show rg (-10001 : Int32) (-10001) (-10001) from ⟨by decide, by decide⟩) (by decide) (by decide))
  · obtain ⟨w_4342, w_4343⟩ := qr1_4340.2 c_4341
    refine ok_bn (s_X12_in) (fun r3_4344 qr3_4344 => ?_)
    refine ok_if (fun c_4345 => ?_) (fun c_4345 => ?_)
    · exact ok_some (rg_w (show rg (-10001 : Int32) (-10001) (-10001) from ⟨by decide, by decide⟩) (by decide) (by decide))
    · obtain ⟨w_4346, w_4347⟩ := qr3_4344.2 c_4345
      refine ok_if (fun c_4348 => ?_) (fun c_4348 => ?_)
      · refine ok_nm (fun x10_4349 hx10_4349 => ?_)
        refine ok_gd (rg_inb (rg_eq hx10_4349 (rg_add (l := 5) (h := 10) (show rg (5 : Int32) (5) (5) from ⟨by decide, by decide⟩) (rg_le w_4343 (rg_ge w_4342 (show rg (0 : Int32) (0) (0) from ⟨by decide, by decide⟩) (rg_any _)) (show rg (5 : Int32) (5) (5) from ⟨by decide, by decide⟩)) (by decide) (by decide) (by decide) (by decide))) (by decide) (by decide)) ?_
        exact ok_some (rg_any _)
      · refine ok_nm (fun x6_4350 hx6_4350 => ?_)
        refine ok_nm (fun x7_4351 hx7_4351 => ?_)
        refine ok_nm (fun x8_4352 hx8_4352 => ?_)
        refine ok_gd (rg_inb (rg_eq hx8_4352 (rg_add (l := 20) (h := 49) (rg_eq hx7_4351 (rg_add (l := 20) (h := 44) (show rg (20 : Int32) (20) (20) from ⟨by decide, by decide⟩) (rg_eq hx6_4350 (rg_mul (h := 24) (show rg (6 : Int32) (6) (6) from ⟨by decide, by decide⟩) (rg_neh c_4348 (rg_le w_4347 (rg_ge w_4346 (show rg (0 : Int32) (0) (0) from ⟨by decide, by decide⟩) (rg_any _)) (show rg (5 : Int32) (5) (5) from ⟨by decide, by decide⟩)) (show rg (5 : Int32) (5) (5) from ⟨by decide, by decide⟩) rfl) (by decide) (by decide) (by decide) (by decide))) (by decide) (by decide) (by decide) (by decide))) (rg_le w_4343 (rg_ge w_4342 (show rg (0 : Int32) (0) (0) from ⟨by decide, by decide⟩) (rg_any _)) (show rg (5 : Int32) (5) (5) from ⟨by decide, by decide⟩)) (by decide) (by decide) (by decide) (by decide))) (by decide) (by decide)) ?_
        exact ok_some (rg_any _)

set_option maxHeartbeats 4000000 in
set_option maxRecDepth 100000 in
theorem s_X12_thick {m : Int} {a1 : Int32} {a2 : Int32} {σ : SG} {ρ : RG} (hB : BX m σ) : ok (F_X12_thick a1 a2 σ ρ) (fun q => rg q.1 (-2147483648) (2147483647) ∧ BX m q.2) := by
  unfold F_X12_thick
  refine ok_bn (s_X12_isCutter hB) (fun r1_4364 qr1_4364 => ?_)
  refine ok_if (fun c_4365 => ?_) (fun c_4365 => ?_)
  · exact ok_some ⟨(rg_w (show rg (-1 : Int32) (-1) (-1) from ⟨by decide, by decide⟩) (by decide) (by decide)), hB⟩
  · obtain ⟨w_4366, w_4367⟩ := qr1_4364.2 c_4365
    refine ok_bn (s_X12_in) (fun r3_4368 qr3_4368 => ?_)
    refine ok_if (fun c_4369 => ?_) (fun c_4369 => ?_)
    · exact ok_some ⟨(rg_w (show rg (-2 : Int32) (-2) (-2) from ⟨by decide, by decide⟩) (by decide) (by decide)), hB⟩
    · obtain ⟨w_4370, w_4371⟩ := qr3_4368.2 c_4369
      refine ok_nm (fun x5_4372 hx5_4372 => ?_)
      refine ok_gd (rg_inb (rg_eq hx5_4372 (rg_add (l := 44) (h := 49) (show rg (44 : Int32) (44) (44) from ⟨by decide, by decide⟩) (rg_le w_4367 (rg_ge w_4366 (show rg (0 : Int32) (0) (0) from ⟨by decide, by decide⟩) (rg_any _)) (show rg (5 : Int32) (5) (5) from ⟨by decide, by decide⟩)) (by decide) (by decide) (by decide) (by decide))) (by decide) (by decide)) ?_
      refine ok_nm (fun x7_4373 hx7_4373 => ?_)
      refine ok_gd (rg_inb (rg_eq (hx7_4373.trans hx5_4372.symm) (rg_eq hx5_4372 (rg_add (l := 44) (h := 49) (show rg (44 : Int32) (44) (44) from ⟨by decide, by decide⟩) (rg_le w_4367 (rg_ge w_4366 (show rg (0 : Int32) (0) (0) from ⟨by decide, by decide⟩) (rg_any _)) (show rg (5 : Int32) (5) (5) from ⟨by decide, by decide⟩)) (by decide) (by decide) (by decide) (by decide)))) (by decide) (by decide)) ?_
      refine ok_nm (fun σ10_4374 hσ10_4374 => ?_)
      have bσ10_4374 : BX m σ10_4374 := by rw [hσ10_4374]; exact bx_thick hB (rg_w (rg_eq (hx7_4373.trans hx5_4372.symm) (rg_eq hx5_4372 (rg_add (l := 44) (h := 49) (show rg (44 : Int32) (44) (44) from ⟨by decide, by decide⟩) (rg_le w_4367 (rg_ge w_4366 (show rg (0 : Int32) (0) (0) from ⟨by decide, by decide⟩) (rg_any _)) (show rg (5 : Int32) (5) (5) from ⟨by decide, by decide⟩)) (by decide) (by decide) (by decide) (by decide)))) (by decide) (by decide)) (rg_w (rg_le w_4371 (rg_ge w_4370 (show rg (1 : Int32) (1) (1) from ⟨by decide, by decide⟩) (rg_any _)) (show rg (40 : Int32) (40) (40) from ⟨by decide, by decide⟩)) (by decide) (by decide))
      exact ok_some ⟨(rg_any _), bσ10_4374⟩

set_option maxHeartbeats 4000000 in
set_option maxRecDepth 100000 in
theorem s_X12_row {m : Int} {a1 : Int32} {a2 : Int32} {a3 : Int32} {σ : SG} {ρ : RG} (hB : BX m σ) : ok (F_X12_row a1 a2 a3 σ ρ) (fun q => rg q.1 (-2147483648) (2147483647) ∧ BX m q.2) := by
  unfold F_X12_row
  refine ok_bn (s_X12_isCutter hB) (fun r1_4396 qr1_4396 => ?_)
  refine ok_if (fun c_4397 => ?_) (fun c_4397 => ?_)
  · exact ok_some ⟨(rg_w (show rg (-1 : Int32) (-1) (-1) from ⟨by decide, by decide⟩) (by decide) (by decide)), hB⟩
  · obtain ⟨w_4398, w_4399⟩ := qr1_4396.2 c_4397
    refine ok_bn (s_X12_in) (fun r3_4400 qr3_4400 => ?_)
    refine ok_if (fun c_4401 => ?_) (fun c_4401 => ?_)
    · exact ok_some ⟨(rg_w (show rg (-1 : Int32) (-1) (-1) from ⟨by decide, by decide⟩) (by decide) (by decide)), hB⟩
    · obtain ⟨w_4402, w_4403⟩ := qr3_4400.2 c_4401
      refine ok_bn (s_X12_in) (fun r5_4404 qr5_4404 => ?_)
      refine ok_if (fun c_4405 => ?_) (fun c_4405 => ?_)
      · exact ok_some ⟨(rg_w (show rg (-2 : Int32) (-2) (-2) from ⟨by decide, by decide⟩) (by decide) (by decide)), hB⟩
      · obtain ⟨w_4406, w_4407⟩ := qr5_4404.2 c_4405
        refine ok_nm (fun x7_4408 hx7_4408 => ?_)
        refine ok_gd (rg_inb (rg_eq hx7_4408 (rg_add (l := 20) (h := 25) (show rg (20 : Int32) (20) (20) from ⟨by decide, by decide⟩) (rg_le w_4399 (rg_ge w_4398 (show rg (0 : Int32) (0) (0) from ⟨by decide, by decide⟩) (rg_any _)) (show rg (5 : Int32) (5) (5) from ⟨by decide, by decide⟩)) (by decide) (by decide) (by decide) (by decide))) (by decide) (by decide)) ?_
        refine ok_if (fun c_4409 => ?_) (fun c_4409 => ?_)
        · refine ok_nm (fun x10_4410 hx10_4410 => ?_)
          refine ok_nm (fun x11_4411 hx11_4411 => ?_)
          refine ok_nm (fun x12_4412 hx12_4412 => ?_)
          refine ok_gd (rg_inb (rg_eq hx12_4412 (rg_add (l := 50) (h := 73) (rg_eq hx11_4411 (rg_add (l := 50) (h := 70) (show rg (50 : Int32) (50) (50) from ⟨by decide, by decide⟩) (rg_eq hx10_4410 (rg_mul (h := 20) (show rg (4 : Int32) (4) (4) from ⟨by decide, by decide⟩) (rg_le w_4399 (rg_ge w_4398 (show rg (0 : Int32) (0) (0) from ⟨by decide, by decide⟩) (rg_any _)) (show rg (5 : Int32) (5) (5) from ⟨by decide, by decide⟩)) (by decide) (by decide) (by decide) (by decide))) (by decide) (by decide) (by decide) (by decide))) (rg_le w_4403 (rg_ge w_4402 (show rg (0 : Int32) (0) (0) from ⟨by decide, by decide⟩) (rg_any _)) (show rg (3 : Int32) (3) (3) from ⟨by decide, by decide⟩)) (by decide) (by decide) (by decide) (by decide))) (by decide) (by decide)) ?_
          refine ok_nm (fun x14_4413 hx14_4413 => ?_)
          refine ok_nm (fun x15_4414 hx15_4414 => ?_)
          refine ok_nm (fun x16_4415 hx16_4415 => ?_)
          refine ok_gd (rg_inb (rg_eq hx16_4415 (rg_add (l := 50) (h := 73) (rg_eq hx15_4414 (rg_add (l := 50) (h := 70) (show rg (50 : Int32) (50) (50) from ⟨by decide, by decide⟩) (rg_eq (hx14_4413.trans hx10_4410.symm) (rg_eq hx10_4410 (rg_mul (h := 20) (show rg (4 : Int32) (4) (4) from ⟨by decide, by decide⟩) (rg_le w_4399 (rg_ge w_4398 (show rg (0 : Int32) (0) (0) from ⟨by decide, by decide⟩) (rg_any _)) (show rg (5 : Int32) (5) (5) from ⟨by decide, by decide⟩)) (by decide) (by decide) (by decide) (by decide)))) (by decide) (by decide) (by decide) (by decide))) (rg_le w_4403 (rg_ge w_4402 (show rg (0 : Int32) (0) (0) from ⟨by decide, by decide⟩) (rg_any _)) (show rg (3 : Int32) (3) (3) from ⟨by decide, by decide⟩)) (by decide) (by decide) (by decide) (by decide))) (by decide) (by decide)) ?_
          refine ok_nm (fun σ19_4416 hσ19_4416 => ?_)
          have bσ19_4416 : BX m σ19_4416 := by rw [hσ19_4416]; exact bx_setx hB (a := 50) (b := 73) (rg_eq hx16_4415 (rg_add (l := 50) (h := 73) (rg_eq hx15_4414 (rg_add (l := 50) (h := 70) (show rg (50 : Int32) (50) (50) from ⟨by decide, by decide⟩) (rg_eq (hx14_4413.trans hx10_4410.symm) (rg_eq hx10_4410 (rg_mul (h := 20) (show rg (4 : Int32) (4) (4) from ⟨by decide, by decide⟩) (rg_le w_4399 (rg_ge w_4398 (show rg (0 : Int32) (0) (0) from ⟨by decide, by decide⟩) (rg_any _)) (show rg (5 : Int32) (5) (5) from ⟨by decide, by decide⟩)) (by decide) (by decide) (by decide) (by decide)))) (by decide) (by decide) (by decide) (by decide))) (rg_le w_4403 (rg_ge w_4402 (show rg (0 : Int32) (0) (0) from ⟨by decide, by decide⟩) (rg_any _)) (show rg (3 : Int32) (3) (3) from ⟨by decide, by decide⟩)) (by decide) (by decide) (by decide) (by decide))) (rg_any _) (by decide)
          exact ok_some ⟨(rg_any _), bσ19_4416⟩
        · exact ok_some ⟨(rg_w (show rg (-3 : Int32) (-3) (-3) from ⟨by decide, by decide⟩) (by decide) (by decide)), hB⟩

set_option maxHeartbeats 4000000 in
set_option maxRecDepth 100000 in
theorem s_X12_loaf {m : Int} {a1 : Int32} {σ : SG} {ρ : RG} (hB : BX m σ) : ok (F_X12_loaf a1 σ ρ) (fun q => rg q.1 (-2147483648) (2147483647) ∧ BX m q.2) := by
  unfold F_X12_loaf
  refine ok_bn (s_X12_in) (fun r1_4427 qr1_4427 => ?_)
  refine ok_if (fun c_4428 => ?_) (fun c_4428 => ?_)
  · exact ok_some ⟨(rg_w (show rg (-2 : Int32) (-2) (-2) from ⟨by decide, by decide⟩) (by decide) (by decide)), hB⟩
  · obtain ⟨w_4429, w_4430⟩ := qr1_4427.2 c_4428
    refine ok_nm (fun σ4_4431 hσ4_4431 => ?_)
    have bσ4_4431 : BX m σ4_4431 := by rw [hσ4_4431]; exact bx_set hB (rg_any _) (by decide)
    refine ok_nm (fun σ6_4432 hσ6_4432 => ?_)
    have bσ6_4432 : BX m σ6_4432 := by rw [hσ6_4432]; exact bx_set bσ4_4431 (rg_any _) (by decide)
    refine ok_nm (fun σ8_4433 hσ8_4433 => ?_)
    have bσ8_4433 : BX m σ8_4433 := by rw [hσ8_4433]; exact bx_set bσ6_4432 (rg_any _) (by decide)
    refine ok_nm (fun σ10_4434 hσ10_4434 => ?_)
    have bσ10_4434 : BX m σ10_4434 := by rw [hσ10_4434]; exact bx_set bσ8_4433 (rg_any _) (by decide)
    refine ok_nm (fun σ12_4435 hσ12_4435 => ?_)
    have bσ12_4435 : BX m σ12_4435 := by rw [hσ12_4435]; exact bx_set bσ10_4434 (rg_any _) (by decide)
    refine ok_nm (fun σ14_4436 hσ14_4436 => ?_)
    have bσ14_4436 : BX m σ14_4436 := by rw [hσ14_4436]; exact bx_set bσ12_4435 (rg_any _) (by decide)
    exact ok_some ⟨(rg_any _), bσ14_4436⟩

set_option maxHeartbeats 4000000 in
set_option maxRecDepth 100000 in
theorem s_X12_see {m : Int} {a1 : Int32} {a2 : Int32} {σ : SG} {ρ : RG} (hB : BX m σ) : ok (F_X12_see a1 a2 σ ρ) (fun q => rg q.1 (-2) (1) ∧ BX m q.2) := by
  unfold F_X12_see
  refine ok_bn (s_X12_in) (fun r1_4447 qr1_4447 => ?_)
  refine ok_if (fun c_4448 => ?_) (fun c_4448 => ?_)
  · exact ok_some ⟨(rg_w (show rg (-2 : Int32) (-2) (-2) from ⟨by decide, by decide⟩) (by decide) (by decide)), hB⟩
  · obtain ⟨w_4449, w_4450⟩ := qr1_4447.2 c_4448
    refine ok_bn (s_X12_in) (fun r3_4451 qr3_4451 => ?_)
    refine ok_if (fun c_4452 => ?_) (fun c_4452 => ?_)
    · exact ok_some ⟨(rg_w (show rg (-2 : Int32) (-2) (-2) from ⟨by decide, by decide⟩) (by decide) (by decide)), hB⟩
    · obtain ⟨w_4453, w_4454⟩ := qr3_4451.2 c_4452
      refine ok_nm (fun σ6_4455 hσ6_4455 => ?_)
      have bσ6_4455 : BX m σ6_4455 := by rw [hσ6_4455]; exact bx_set hB (rg_any _) (by decide)
      refine ok_nm (fun σ8_4456 hσ8_4456 => ?_)
      have bσ8_4456 : BX m σ8_4456 := by rw [hσ8_4456]; exact bx_set bσ6_4455 (rg_any _) (by decide)
      exact ok_some ⟨(rg_w (show rg (1 : Int32) (1) (1) from ⟨by decide, by decide⟩) (by decide) (by decide)), bσ8_4456⟩

set_option maxHeartbeats 4000000 in
set_option maxRecDepth 100000 in
theorem s_X12_week {m : Int} {a1 : Int32} {σ : SG} {ρ : RG} (hB : BX m σ) : ok (F_X12_week a1 σ ρ) (fun q => rg q.1 (-4) (4) ∧ BX m q.2) := by
  unfold F_X12_week
  refine ok_bn (s_X12_in) (fun r1_4466 qr1_4466 => ?_)
  refine ok_if (fun c_4467 => ?_) (fun c_4467 => ?_)
  · exact ok_some ⟨(rg_w (show rg (-2 : Int32) (-2) (-2) from ⟨by decide, by decide⟩) (by decide) (by decide)), hB⟩
  · obtain ⟨w_4468, w_4469⟩ := qr1_4466.2 c_4467
    refine ok_if (fun c_4470 => ?_) (fun c_4470 => ?_)
    · exact ok_some ⟨(rg_w (show rg (-4 : Int32) (-4) (-4) from ⟨by decide, by decide⟩) (by decide) (by decide)), hB⟩
    · refine ok_nm (fun x4_4471 hx4_4471 => ?_)
      refine ok_gd (rg_inb (rg_eq hx4_4471 (rg_add (l := 74) (h := 77) (show rg (74 : Int32) (74) (74) from ⟨by decide, by decide⟩) (rg_neh c_4470 (bx_get hB (r := 55) (a := 13) (b := 13) (k := 13) (l := 0) (h := 4) (by decide) (by decide) (by decide)) (show rg (4 : Int32) (4) (4) from ⟨by decide, by decide⟩) rfl) (by decide) (by decide) (by decide) (by decide))) (by decide) (by decide)) ?_
      refine ok_nm (fun σ7_4472 hσ7_4472 => ?_)
      have bσ7_4472 : BX m σ7_4472 := by rw [hσ7_4472]; exact bx_setx hB (a := 74) (b := 77) (rg_eq hx4_4471 (rg_add (l := 74) (h := 77) (show rg (74 : Int32) (74) (74) from ⟨by decide, by decide⟩) (rg_neh c_4470 (bx_get hB (r := 55) (a := 13) (b := 13) (k := 13) (l := 0) (h := 4) (by decide) (by decide) (by decide)) (show rg (4 : Int32) (4) (4) from ⟨by decide, by decide⟩) rfl) (by decide) (by decide) (by decide) (by decide))) (rg_any _) (by decide)
      refine ok_nm (fun x8_4473 hx8_4473 => ?_)
      refine ok_nm (fun σ10_4474 hσ10_4474 => ?_)
      have bσ10_4474 : BX m σ10_4474 := by rw [hσ10_4474]; exact bx_set bσ7_4472 (rg_eq hx8_4473 (rg_add (l := 1) (h := 4) (rg_eq (s2_kx hσ7_4472 (rg_eq hx4_4471 (rg_add (l := 74) (h := 77) (show rg (74 : Int32) (74) (74) from ⟨by decide, by decide⟩) (rg_neh c_4470 (bx_get hB (r := 55) (a := 13) (b := 13) (k := 13) (l := 0) (h := 4) (by decide) (by decide) (by decide)) (show rg (4 : Int32) (4) (4) from ⟨by decide, by decide⟩) rfl) (by decide) (by decide) (by decide) (by decide))) (by decide) (by decide)) (rg_neh c_4470 (bx_get hB (r := 55) (a := 13) (b := 13) (k := 13) (l := 0) (h := 4) (by decide) (by decide) (by decide)) (show rg (4 : Int32) (4) (4) from ⟨by decide, by decide⟩) rfl)) (show rg (1 : Int32) (1) (1) from ⟨by decide, by decide⟩) (by decide) (by decide) (by decide) (by decide))) (by decide)
      exact ok_some ⟨(rg_w (rg_eq (s2_v hσ10_4474) (rg_eq hx8_4473 (rg_add (l := 1) (h := 4) (rg_eq (s2_kx hσ7_4472 (rg_eq hx4_4471 (rg_add (l := 74) (h := 77) (show rg (74 : Int32) (74) (74) from ⟨by decide, by decide⟩) (rg_neh c_4470 (bx_get hB (r := 55) (a := 13) (b := 13) (k := 13) (l := 0) (h := 4) (by decide) (by decide) (by decide)) (show rg (4 : Int32) (4) (4) from ⟨by decide, by decide⟩) rfl) (by decide) (by decide) (by decide) (by decide))) (by decide) (by decide)) (rg_neh c_4470 (bx_get hB (r := 55) (a := 13) (b := 13) (k := 13) (l := 0) (h := 4) (by decide) (by decide) (by decide)) (show rg (4 : Int32) (4) (4) from ⟨by decide, by decide⟩) rfl)) (show rg (1 : Int32) (1) (1) from ⟨by decide, by decide⟩) (by decide) (by decide) (by decide) (by decide)))) (by decide) (by decide)), bσ10_4474⟩

set_option maxHeartbeats 4000000 in
set_option maxRecDepth 100000 in
theorem s_X12_clear {m : Int} {σ : SG} {ρ : RG} (hB : BX m σ) : ok (F_X12_clear σ ρ) (fun q => rg q.1 (0) (4) ∧ BX m q.2) := by
  unfold F_X12_clear
  refine ok_nm (fun σ2_4476 hσ2_4476 => ?_)
  have bσ2_4476 : BX m σ2_4476 := by rw [hσ2_4476]; exact bx_set hB (show rg (0 : Int32) (0) (0) from ⟨by decide, by decide⟩) (by decide)
  exact ok_some ⟨(bx_get hB (r := 55) (a := 13) (b := 13) (k := 13) (l := 0) (h := 4) (by decide) (by decide) (by decide)), bσ2_4476⟩

set_option maxHeartbeats 4000000 in
set_option maxRecDepth 100000 in
theorem s_X12_book {m : Int} {a1 : Int32} {a2 : Int32} {σ : SG} {ρ : RG} (hB : BX m σ) : ok (F_X12_book a1 a2 σ ρ) (fun q => rg q.1 (-4) (8) ∧ BX m q.2) := by
  unfold F_X12_book
  refine ok_if (fun c_4494 => ?_) (fun c_4494 => ?_)
  · refine ok_nm (fun σ19_4495 hσ19_4495 => ?_)
    have bσ19_4495 : BX m σ19_4495 := by rw [hσ19_4495]; exact bx_set hB (show rg (0 : Int32) (0) (0) from ⟨by decide, by decide⟩) (by decide)
    exact ok_some ⟨(rg_w (show rg (0 : Int32) (0) (0) from ⟨by decide, by decide⟩) (by decide) (by decide)), bσ19_4495⟩
  · refine ok_bn (s_X12_isCutter hB) (fun r2_4496 qr2_4496 => ?_)
    refine ok_if (fun c_4497 => ?_) (fun c_4497 => ?_)
    · exact ok_some ⟨(rg_w (show rg (-1 : Int32) (-1) (-1) from ⟨by decide, by decide⟩) (by decide) (by decide)), hB⟩
    · obtain ⟨w_4498, w_4499⟩ := qr2_4496.2 c_4497
      refine ok_bn (s_X12_in) (fun r4_4500 qr4_4500 => ?_)
      refine ok_if (fun c_4501 => ?_) (fun c_4501 => ?_)
      · exact ok_some ⟨(rg_w (show rg (-2 : Int32) (-2) (-2) from ⟨by decide, by decide⟩) (by decide) (by decide)), hB⟩
      · obtain ⟨w_4502, w_4503⟩ := qr4_4500.2 c_4501
        refine ok_if (fun c_4504 => ?_) (fun c_4504 => ?_)
        · exact ok_some ⟨(rg_w (show rg (-4 : Int32) (-4) (-4) from ⟨by decide, by decide⟩) (by decide) (by decide)), hB⟩
        · refine ok_nm (fun x7_4505 hx7_4505 => ?_)
          refine ok_gd (rg_inb (rg_eq hx7_4505 (rg_add (l := 78) (h := 85) (show rg (78 : Int32) (78) (78) from ⟨by decide, by decide⟩) (rg_neh c_4504 (bx_get hB (r := 55) (a := 14) (b := 14) (k := 14) (l := 0) (h := 8) (by decide) (by decide) (by decide)) (show rg (8 : Int32) (8) (8) from ⟨by decide, by decide⟩) rfl) (by decide) (by decide) (by decide) (by decide))) (by decide) (by decide)) ?_
          refine ok_nm (fun σ10_4506 hσ10_4506 => ?_)
          have bσ10_4506 : BX m σ10_4506 := by rw [hσ10_4506]; exact bx_setx hB (a := 78) (b := 85) (rg_eq hx7_4505 (rg_add (l := 78) (h := 85) (show rg (78 : Int32) (78) (78) from ⟨by decide, by decide⟩) (rg_neh c_4504 (bx_get hB (r := 55) (a := 14) (b := 14) (k := 14) (l := 0) (h := 8) (by decide) (by decide) (by decide)) (show rg (8 : Int32) (8) (8) from ⟨by decide, by decide⟩) rfl) (by decide) (by decide) (by decide) (by decide))) (rg_le w_4499 (rg_ge w_4498 (show rg (0 : Int32) (0) (0) from ⟨by decide, by decide⟩) (rg_any _)) (show rg (5 : Int32) (5) (5) from ⟨by decide, by decide⟩)) (by decide)
          refine ok_nm (fun x11_4507 hx11_4507 => ?_)
          refine ok_gd (rg_inb (rg_eq hx11_4507 (rg_add (l := 86) (h := 93) (show rg (86 : Int32) (86) (86) from ⟨by decide, by decide⟩) (rg_eq (s2_kx hσ10_4506 (rg_eq hx7_4505 (rg_add (l := 78) (h := 85) (show rg (78 : Int32) (78) (78) from ⟨by decide, by decide⟩) (rg_neh c_4504 (bx_get hB (r := 55) (a := 14) (b := 14) (k := 14) (l := 0) (h := 8) (by decide) (by decide) (by decide)) (show rg (8 : Int32) (8) (8) from ⟨by decide, by decide⟩) rfl) (by decide) (by decide) (by decide) (by decide))) (by decide) (by decide)) (rg_neh c_4504 (bx_get hB (r := 55) (a := 14) (b := 14) (k := 14) (l := 0) (h := 8) (by decide) (by decide) (by decide)) (show rg (8 : Int32) (8) (8) from ⟨by decide, by decide⟩) rfl)) (by decide) (by decide) (by decide) (by decide))) (by decide) (by decide)) ?_
          refine ok_nm (fun σ14_4508 hσ14_4508 => ?_)
          have bσ14_4508 : BX m σ14_4508 := by rw [hσ14_4508]; exact bx_setx bσ10_4506 (a := 86) (b := 93) (rg_eq hx11_4507 (rg_add (l := 86) (h := 93) (show rg (86 : Int32) (86) (86) from ⟨by decide, by decide⟩) (rg_eq (s2_kx hσ10_4506 (rg_eq hx7_4505 (rg_add (l := 78) (h := 85) (show rg (78 : Int32) (78) (78) from ⟨by decide, by decide⟩) (rg_neh c_4504 (bx_get hB (r := 55) (a := 14) (b := 14) (k := 14) (l := 0) (h := 8) (by decide) (by decide) (by decide)) (show rg (8 : Int32) (8) (8) from ⟨by decide, by decide⟩) rfl) (by decide) (by decide) (by decide) (by decide))) (by decide) (by decide)) (rg_neh c_4504 (bx_get hB (r := 55) (a := 14) (b := 14) (k := 14) (l := 0) (h := 8) (by decide) (by decide) (by decide)) (show rg (8 : Int32) (8) (8) from ⟨by decide, by decide⟩) rfl)) (by decide) (by decide) (by decide) (by decide))) (rg_any _) (by decide)
          refine ok_nm (fun x15_4509 hx15_4509 => ?_)
          refine ok_nm (fun σ17_4510 hσ17_4510 => ?_)
          have bσ17_4510 : BX m σ17_4510 := by rw [hσ17_4510]; exact bx_set bσ14_4508 (rg_eq hx15_4509 (rg_add (l := 1) (h := 8) (rg_eq (s2_kx hσ14_4508 (rg_eq hx11_4507 (rg_add (l := 86) (h := 93) (show rg (86 : Int32) (86) (86) from ⟨by decide, by decide⟩) (rg_eq (s2_kx hσ10_4506 (rg_eq hx7_4505 (rg_add (l := 78) (h := 85) (show rg (78 : Int32) (78) (78) from ⟨by decide, by decide⟩) (rg_neh c_4504 (bx_get hB (r := 55) (a := 14) (b := 14) (k := 14) (l := 0) (h := 8) (by decide) (by decide) (by decide)) (show rg (8 : Int32) (8) (8) from ⟨by decide, by decide⟩) rfl) (by decide) (by decide) (by decide) (by decide))) (by decide) (by decide)) (rg_neh c_4504 (bx_get hB (r := 55) (a := 14) (b := 14) (k := 14) (l := 0) (h := 8) (by decide) (by decide) (by decide)) (show rg (8 : Int32) (8) (8) from ⟨by decide, by decide⟩) rfl)) (by decide) (by decide) (by decide) (by decide))) (by decide) (by decide)) (rg_eq (s2_kx hσ10_4506 (rg_eq hx7_4505 (rg_add (l := 78) (h := 85) (show rg (78 : Int32) (78) (78) from ⟨by decide, by decide⟩) (rg_neh c_4504 (bx_get hB (r := 55) (a := 14) (b := 14) (k := 14) (l := 0) (h := 8) (by decide) (by decide) (by decide)) (show rg (8 : Int32) (8) (8) from ⟨by decide, by decide⟩) rfl) (by decide) (by decide) (by decide) (by decide))) (by decide) (by decide)) (rg_neh c_4504 (bx_get hB (r := 55) (a := 14) (b := 14) (k := 14) (l := 0) (h := 8) (by decide) (by decide) (by decide)) (show rg (8 : Int32) (8) (8) from ⟨by decide, by decide⟩) rfl))) (show rg (1 : Int32) (1) (1) from ⟨by decide, by decide⟩) (by decide) (by decide) (by decide) (by decide))) (by decide)
          exact ok_some ⟨(rg_w (rg_eq (s2_v hσ17_4510) (rg_eq hx15_4509 (rg_add (l := 1) (h := 8) (rg_eq (s2_kx hσ14_4508 (rg_eq hx11_4507 (rg_add (l := 86) (h := 93) (show rg (86 : Int32) (86) (86) from ⟨by decide, by decide⟩) (rg_eq (s2_kx hσ10_4506 (rg_eq hx7_4505 (rg_add (l := 78) (h := 85) (show rg (78 : Int32) (78) (78) from ⟨by decide, by decide⟩) (rg_neh c_4504 (bx_get hB (r := 55) (a := 14) (b := 14) (k := 14) (l := 0) (h := 8) (by decide) (by decide) (by decide)) (show rg (8 : Int32) (8) (8) from ⟨by decide, by decide⟩) rfl) (by decide) (by decide) (by decide) (by decide))) (by decide) (by decide)) (rg_neh c_4504 (bx_get hB (r := 55) (a := 14) (b := 14) (k := 14) (l := 0) (h := 8) (by decide) (by decide) (by decide)) (show rg (8 : Int32) (8) (8) from ⟨by decide, by decide⟩) rfl)) (by decide) (by decide) (by decide) (by decide))) (by decide) (by decide)) (rg_eq (s2_kx hσ10_4506 (rg_eq hx7_4505 (rg_add (l := 78) (h := 85) (show rg (78 : Int32) (78) (78) from ⟨by decide, by decide⟩) (rg_neh c_4504 (bx_get hB (r := 55) (a := 14) (b := 14) (k := 14) (l := 0) (h := 8) (by decide) (by decide) (by decide)) (show rg (8 : Int32) (8) (8) from ⟨by decide, by decide⟩) rfl) (by decide) (by decide) (by decide) (by decide))) (by decide) (by decide)) (rg_neh c_4504 (bx_get hB (r := 55) (a := 14) (b := 14) (k := 14) (l := 0) (h := 8) (by decide) (by decide) (by decide)) (show rg (8 : Int32) (8) (8) from ⟨by decide, by decide⟩) rfl))) (show rg (1 : Int32) (1) (1) from ⟨by decide, by decide⟩) (by decide) (by decide) (by decide) (by decide)))) (by decide) (by decide)), bσ17_4510⟩

set_option maxHeartbeats 4000000 in
set_option maxRecDepth 100000 in
theorem s_X12_count {m : Int} {a1 : Int32} {σ : SG} {ρ : RG} (hB : BX m σ) : ok (F_X12_count a1 σ ρ) (fun q => rg q (-2147483648) (2147483647)) := by
  unfold F_X12_count
  refine ok_if (fun c_4517 => ?_) (fun c_4517 => ?_)
  · exact ok_some (rg_w (rg_lo hB.2.1) (by decide) (by decide))
  · refine ok_bn (s_X12_in) (fun r2_4518 qr2_4518 => ?_)
    refine ok_if (fun c_4519 => ?_) (fun c_4519 => ?_)
    · exact ok_some (rg_w (show rg (-1 : Int32) (-1) (-1) from ⟨by decide, by decide⟩) (by decide) (by decide))
    · obtain ⟨w_4520, w_4521⟩ := qr2_4518.2 c_4519
      refine ok_nm (fun x4_4522 hx4_4522 => ?_)
      refine ok_gd (rg_inb (rg_eq hx4_4522 (rg_add (l := 11) (h := 15) (show rg (11 : Int32) (11) (11) from ⟨by decide, by decide⟩) (rg_le w_4521 (rg_ge w_4520 (show rg (0 : Int32) (0) (0) from ⟨by decide, by decide⟩) (rg_any _)) (show rg (4 : Int32) (4) (4) from ⟨by decide, by decide⟩)) (by decide) (by decide) (by decide) (by decide))) (by decide) (by decide)) ?_
      exact ok_some (rg_any _)

set_option maxHeartbeats 4000000 in
set_option maxRecDepth 100000 in
theorem s_X12_trace {m : Int} {a1 : Int32} {σ : SG} {ρ : RG} (hB : BX m σ) : ok (F_X12_trace a1 σ ρ) (fun q => rg q (-2147483648) (2147483647)) := by
  unfold F_X12_trace
  refine ok_if (fun c_4534 => ?_) (fun c_4534 => ?_)
  · unfold F_X12_trace_20
    refine ok_nm (fun x2_4535 hx2_4535 => ?_)
    refine ok_bn (s_X12_in) (fun r3_4536 qr3_4536 => ?_)
    refine ok_if (fun c_4537 => ?_) (fun c_4537 => ?_)
    · exact ok_some (rg_w (show rg (-1 : Int32) (-1) (-1) from ⟨by decide, by decide⟩) (by decide) (by decide))
    · obtain ⟨w_4538, w_4539⟩ := qr3_4536.2 c_4537
      refine ok_gd (rg_inb (rg_le w_4539 (rg_ge w_4538 (show rg (0 : Int32) (0) (0) from ⟨by decide, by decide⟩) (rg_any _)) (rg_eq hx2_4535 (rg_sub (l := 19) (h := 19) (show rg (20 : Int32) (20) (20) from ⟨by decide, by decide⟩) (show rg (1 : Int32) (1) (1) from ⟨by decide, by decide⟩) (by decide) (by decide) (by decide) (by decide)))) (by decide) (by decide)) ?_
      exact ok_some (rg_any _)
  · unfold F_X12_trace_20
    refine ok_nm (fun x2_4540 hx2_4540 => ?_)
    refine ok_bn (s_X12_in) (fun r3_4541 qr3_4541 => ?_)
    refine ok_if (fun c_4542 => ?_) (fun c_4542 => ?_)
    · exact ok_some (rg_w (show rg (-1 : Int32) (-1) (-1) from ⟨by decide, by decide⟩) (by decide) (by decide))
    · obtain ⟨w_4543, w_4544⟩ := qr3_4541.2 c_4542
      refine ok_gd (rg_inb (rg_le w_4544 (rg_ge w_4543 (show rg (0 : Int32) (0) (0) from ⟨by decide, by decide⟩) (rg_any _)) (rg_eq hx2_4540 (rg_sub (l := -1) (h := 18) (rg_lt (nle c_4534) (rg_lo hB.2.1) (show rg (20 : Int32) (20) (20) from ⟨by decide, by decide⟩)) (show rg (1 : Int32) (1) (1) from ⟨by decide, by decide⟩) (by decide) (by decide) (by decide) (by decide)))) (by decide) (by decide)) ?_
      exact ok_some (rg_any _)

set_option maxHeartbeats 4000000 in
set_option maxRecDepth 100000 in
theorem s_X12_as {m : Int} {a1 : Int32} {a2 : Int32} {σ : SG} {ρ : RG} (hB : BX m σ) : ok (F_X12_as a1 a2 σ ρ) (fun q => rg q (-2147483648) (2147483647)) := by
  unfold F_X12_as
  refine ok_bn (s_X12_isCutter hB) (fun r1_4557 qr1_4557 => ?_)
  refine ok_if (fun c_4558 => ?_) (fun c_4558 => ?_)
  · exact ok_some (rg_w (show rg (-1 : Int32) (-1) (-1) from ⟨by decide, by decide⟩) (by decide) (by decide))
  · obtain ⟨w_4559, w_4560⟩ := qr1_4557.2 c_4558
    refine ok_bn (s_X12_in) (fun r3_4561 qr3_4561 => ?_)
    refine ok_if (fun c_4562 => ?_) (fun c_4562 => ?_)
    · exact ok_some (rg_w (show rg (-1 : Int32) (-1) (-1) from ⟨by decide, by decide⟩) (by decide) (by decide))
    · obtain ⟨w_4563, w_4564⟩ := qr3_4561.2 c_4562
      refine ok_nm (fun x5_4565 hx5_4565 => ?_)
      refine ok_gd (rg_inb (rg_eq hx5_4565 (rg_add (l := 20) (h := 25) (show rg (20 : Int32) (20) (20) from ⟨by decide, by decide⟩) (rg_le w_4560 (rg_ge w_4559 (show rg (0 : Int32) (0) (0) from ⟨by decide, by decide⟩) (rg_any _)) (show rg (5 : Int32) (5) (5) from ⟨by decide, by decide⟩)) (by decide) (by decide) (by decide) (by decide))) (by decide) (by decide)) ?_
      refine ok_bn (s_X12_isUnder hB) (fun r7_4566 qr7_4566 => ?_)
      refine ok_if (fun c_4567 => ?_) (fun c_4567 => ?_)
      · exact ok_some (rg_w (show rg (-6 : Int32) (-6) (-6) from ⟨by decide, by decide⟩) (by decide) (by decide))
      · refine ok_nm (fun x9_4568 hx9_4568 => ?_)
        refine ok_gd (rg_inb (rg_eq hx9_4568 (rg_add (l := 26) (h := 31) (show rg (26 : Int32) (26) (26) from ⟨by decide, by decide⟩) (rg_le w_4560 (rg_ge w_4559 (show rg (0 : Int32) (0) (0) from ⟨by decide, by decide⟩) (rg_any _)) (show rg (5 : Int32) (5) (5) from ⟨by decide, by decide⟩)) (by decide) (by decide) (by decide) (by decide))) (by decide) (by decide)) ?_
        exact ok_some (rg_any _)
