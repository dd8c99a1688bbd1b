/-! PART 76.lp: printed by wip/gen/lpr.py: the law's loop answers on every script, the two tables side by side -/
theorem lx {L k : Nat} {v3 x : Int32} (hL : L ≤ 3072) (h0 : 0 ≤ v3.toInt) (h6 : v3.toInt + 6 ≤ (L : Int)) (hx : x = v3 + Int32.ofNat k) (hk : k < 6) : inb x L = true := by
  have e : (Int32.ofNat k).toInt = (k : Int) := Int32.toInt_ofNat_of_lt (by omega)
  have ex : x.toInt = v3.toInt + k := by rw [hx, ti_add (by omega) (by omega), e]
  exact decide_eq_true ⟨by omega, by omega⟩
def LR (rec : Nat → (Nat → Nat) → (Nat → Nat) → SG → RG → Int32 → Option Unit) (v3 : Int32) : Prop := ∀ (N : Nat) (K len : Nat → Nat) (σ : SG) (ρ : RG) (x : Int32), x = v3 + (6 : Int32) → BX 8 σ → PR N K len ρ → RA K σ ρ → ok (rec N K len σ ρ x) (fun _ => True)
theorem l_L_204 {xs : Nat → Int32} {L : Nat} {rec : Nat → (Nat → Nat) → (Nat → Nat) → SG → RG → Int32 → Option Unit} {N : Nat} {K len : Nat → Nat} {σ : SG} {ρ : RG} {v3 : Int32} (hL : L ≤ 3072) (h0 : 0 ≤ v3.toInt) (h6 : v3.toInt + 6 ≤ (L : Int)) (hrec : LR rec v3) (hB : BX 8 σ) (hQ : PR N K len ρ) (hR : RA K σ ρ) : ok (F_L_204 xs L rec N K len σ ρ v3) (fun _ => True) := by
  unfold F_L_204
  refine ok_nm (fun x1 hx1 => ?_)
  refine ok_gd (lx (k := 1) hL h0 h6 hx1 (by decide)) ?_
  refine ok_bn2 (ok_kp (s_X11_feed hB hQ) (kk_X11_feed hQ.1)) (fun r3 σ3 qr3 => ?_)
  have bσ3 : BX 8 σ3 := qr3.1.2
  have Rσ3 : RA K σ3 ρ := ra_c hQ qr3.2 hR
  refine ok_nm (fun x4 hx4 => ?_)
  refine ok_gd (lx (k := 1) hL h0 h6 hx4 (by decide)) ?_
  refine ok_bn2 (ok_kp (ok_kp (s_X12_feed bσ3) (kr_X12_feed hQ.1)) (feed_12k bσ3)) (fun r6 σ6 qr6 => ?_)
  have bσ6 : BX 8 σ6 := qr6.1.1.2
  have Rσ6 : RA K σ6 ρ := ra_r hQ qr6.1.2 qr6.2 Rσ3
  refine ok_nm (fun x7 hx7 => ?_)
  exact hrec _ _ _ _ _ _ hx7 bσ6 hQ Rσ6
theorem l_L_227 {xs : Nat → Int32} {L : Nat} {rec : Nat → (Nat → Nat) → (Nat → Nat) → SG → RG → Int32 → Option Unit} {N : Nat} {K len : Nat → Nat} {σ : SG} {ρ : RG} {v3 : Int32} (hL : L ≤ 3072) (h0 : 0 ≤ v3.toInt) (h6 : v3.toInt + 6 ≤ (L : Int)) (hrec : LR rec v3) (hB : BX 8 σ) (hQ : PR N K len ρ) (hR : RA K σ ρ) : ok (F_L_227 xs L rec N K len σ ρ v3) (fun _ => True) := by
  unfold F_L_227
  refine ok_bn3 (ok_kp (ok_kp (s_X11_board hB hQ) (kk_X11_board hB hQ)) bd_rho) (fun r1 σ1 ρ1 qr1 => ?_)
  have bσ1 : BX 8 σ1 := qr1.1.1.1
  have hρ1 : PR N K len ρ1 := qr1.1.1.2
  have Rσ1 : RA K σ1 ρ1 := ra_bd hQ qr1.2 (ra_c hQ qr1.1.2 hR)
  refine ok_bn2 (ok_kp (s_X12_board bσ1) (kr_X12_board hρ1.1)) (fun r2 σ2 qr2 => ?_)
  have bσ2 : BX 8 σ2 := qr2.1.1
  have Rσ2 : RA K σ2 ρ1 := ra_r hρ1 qr2.2 (fun k z => qr2.1.2 k (by have := raK_11 z; omega) (raK_11 z).2.2.2.1 (raK_11 z).2.2.1 (raK_11 z).2.2.2.2.1) Rσ1
  refine ok_nm (fun x3 hx3 => ?_)
  exact hrec _ _ _ _ _ _ hx3 bσ2 hρ1 Rσ2
theorem l_L_240 {xs : Nat → Int32} {L : Nat} {rec : Nat → (Nat → Nat) → (Nat → Nat) → SG → RG → Int32 → Option Unit} {N : Nat} {K len : Nat → Nat} {σ : SG} {ρ : RG} {v3 : Int32} (hL : L ≤ 3072) (h0 : 0 ≤ v3.toInt) (h6 : v3.toInt + 6 ≤ (L : Int)) (hrec : LR rec v3) (hB : BX 8 σ) (hQ : PR N K len ρ) (hR : RA K σ ρ) : ok (F_L_240 xs L rec N K len σ ρ v3) (fun _ => True) := by
  unfold F_L_240
  refine ok_nm (fun x1 hx1 => ?_)
  refine ok_gd (lx (k := 1) hL h0 h6 hx1 (by decide)) ?_
  refine ok_nm (fun x3 hx3 => ?_)
  refine ok_gd (lx (k := 2) hL h0 h6 hx3 (by decide)) ?_
  refine ok_nm (fun x5 hx5 => ?_)
  refine ok_gd (lx (k := 3) hL h0 h6 hx5 (by decide)) ?_
  refine ok_nm (fun x7 hx7 => ?_)
  refine ok_gd (lx (k := 4) hL h0 h6 hx7 (by decide)) ?_
  refine ok_nm (fun x9 hx9 => ?_)
  refine ok_gd (lx (k := 5) hL h0 h6 hx9 (by decide)) ?_
  refine ok_bnT (ok_kp (s_X11_cutter hB hQ) (cutter_11r (c11 hB) hQ)) (fun r11 N11 K11 L11 σ11 ρ11 qr11 => ?_)
  have bσ11 : BX 8 σ11 := qr11.1.1
  have hρ11 : PR N11 K11 L11 ρ11 := qr11.1.2
  refine ok_nm (fun x12 hx12 => ?_)
  refine ok_gd (lx (k := 1) hL h0 h6 hx12 (by decide)) ?_
  refine ok_nm (fun x14 hx14 => ?_)
  refine ok_gd (lx (k := 2) hL h0 h6 hx14 (by decide)) ?_
  refine ok_nm (fun x16 hx16 => ?_)
  refine ok_gd (lx (k := 3) hL h0 h6 hx16 (by decide)) ?_
  refine ok_nm (fun x18 hx18 => ?_)
  refine ok_gd (lx (k := 4) hL h0 h6 hx18 (by decide)) ?_
  refine ok_nm (fun x20 hx20 => ?_)
  refine ok_gd (lx (k := 5) hL h0 h6 hx20 (by decide)) ?_
  refine ok_bn2 (ok_kp (ok_kp (s_X12_cutter bσ11) (kr_X12_cutter hρ11.1)) (cutter_12r (c55 bσ11))) (fun r22 σ22 qr22 => ?_)
  have bσ22 : BX 8 σ22 := qr22.1.1.2
  obtain ⟨hE, Rσ22⟩ := cutter_ra (c11 hB) hQ hR qr11.2 qr22.2 qr22.1.2 (by rw [hx12, hx1]) (by rw [hx14, hx3]) (by rw [hx16, hx5]) (by rw [hx18, hx7]) (by rw [hx20, hx9])
  refine ok_nm (fun x23 hx23 => ?_)
  exact hrec _ _ _ _ _ _ hx23 bσ22 hρ11 Rσ22
theorem l_L_303 {xs : Nat → Int32} {L : Nat} {rec : Nat → (Nat → Nat) → (Nat → Nat) → SG → RG → Int32 → Option Unit} {N : Nat} {K len : Nat → Nat} {σ : SG} {ρ : RG} {v3 : Int32} (hL : L ≤ 3072) (h0 : 0 ≤ v3.toInt) (h6 : v3.toInt + 6 ≤ (L : Int)) (hrec : LR rec v3) (hB : BX 8 σ) (hQ : PR N K len ρ) (hR : RA K σ ρ) : ok (F_L_303 xs L rec N K len σ ρ v3) (fun _ => True) := by
  unfold F_L_303
  refine ok_nm (fun x1 hx1 => ?_)
  refine ok_gd (lx (k := 1) hL h0 h6 hx1 (by decide)) ?_
  refine ok_nm (fun x3 hx3 => ?_)
  refine ok_gd (lx (k := 2) hL h0 h6 hx3 (by decide)) ?_
  refine ok_bn (s_X11_of hB hQ) (fun r5 qr5 => ?_)
  refine ok_nm (fun x6 hx6 => ?_)
  refine ok_gd (lx (k := 1) hL h0 h6 hx6 (by decide)) ?_
  refine ok_nm (fun x8 hx8 => ?_)
  refine ok_gd (lx (k := 2) hL h0 h6 hx8 (by decide)) ?_
  refine ok_bn (s_X12_of hB) (fun r10 qr10 => ?_)
  refine ok_nm (fun x11 hx11 => ?_)
  exact hrec _ _ _ _ _ _ hx11 hB hQ hR
theorem l_L_336 {xs : Nat → Int32} {L : Nat} {rec : Nat → (Nat → Nat) → (Nat → Nat) → SG → RG → Int32 → Option Unit} {N : Nat} {K len : Nat → Nat} {σ : SG} {ρ : RG} {v3 : Int32} (hL : L ≤ 3072) (h0 : 0 ≤ v3.toInt) (h6 : v3.toInt + 6 ≤ (L : Int)) (hrec : LR rec v3) (hB : BX 8 σ) (hQ : PR N K len ρ) (hR : RA K σ ρ) : ok (F_L_336 xs L rec N K len σ ρ v3) (fun _ => True) := by
  unfold F_L_336
  refine ok_nm (fun x1 hx1 => ?_)
  refine ok_gd (lx (k := 1) hL h0 h6 hx1 (by decide)) ?_
  refine ok_nm (fun x3 hx3 => ?_)
  refine ok_gd (lx (k := 2) hL h0 h6 hx3 (by decide)) ?_
  refine ok_bn2 (ok_kp (s_X11_thick hB hQ) (thick_11 (c11 hB) hR)) (fun r5 σ5 qr5 => ?_)
  have bσ5 : BX 8 σ5 := qr5.1.2
  refine ok_nm (fun x6 hx6 => ?_)
  refine ok_gd (lx (k := 1) hL h0 h6 hx6 (by decide)) ?_
  refine ok_nm (fun x8 hx8 => ?_)
  refine ok_gd (lx (k := 2) hL h0 h6 hx8 (by decide)) ?_
  refine ok_bn2 (ok_kp (ok_kp (s_X12_thick bσ5) (kr_X12_thick hQ.1)) (thick_12 (c55 bσ5))) (fun r10 σ10 qr10 => ?_)
  have bσ10 : BX 8 σ10 := qr10.1.1.2
  obtain ⟨hE, Rσ10⟩ := thick_ra hQ hR qr5.2 qr10.2 (by rw [hx6, hx1]) (by rw [hx8, hx3])
  refine ok_nm (fun x11 hx11 => ?_)
  exact hrec _ _ _ _ _ _ hx11 bσ10 hQ Rσ10
theorem l_L_369 {xs : Nat → Int32} {L : Nat} {rec : Nat → (Nat → Nat) → (Nat → Nat) → SG → RG → Int32 → Option Unit} {N : Nat} {K len : Nat → Nat} {σ : SG} {ρ : RG} {v3 : Int32} (hL : L ≤ 3072) (h0 : 0 ≤ v3.toInt) (h6 : v3.toInt + 6 ≤ (L : Int)) (hrec : LR rec v3) (hB : BX 8 σ) (hQ : PR N K len ρ) (hR : RA K σ ρ) : ok (F_L_369 xs L rec N K len σ ρ v3) (fun _ => True) := by
  unfold F_L_369
  refine ok_nm (fun x1 hx1 => ?_)
  refine ok_gd (lx (k := 1) hL h0 h6 hx1 (by decide)) ?_
  refine ok_nm (fun x3 hx3 => ?_)
  refine ok_gd (lx (k := 2) hL h0 h6 hx3 (by decide)) ?_
  refine ok_nm (fun x5 hx5 => ?_)
  refine ok_gd (lx (k := 3) hL h0 h6 hx5 (by decide)) ?_
  refine ok_bn2 (ok_kp (s_X11_row hB hQ) (row_11 hQ (c11 hB) hR)) (fun r7 σ7 qr7 => ?_)
  have bσ7 : BX 8 σ7 := qr7.1.2
  refine ok_nm (fun x8 hx8 => ?_)
  refine ok_gd (lx (k := 1) hL h0 h6 hx8 (by decide)) ?_
  refine ok_nm (fun x10 hx10 => ?_)
  refine ok_gd (lx (k := 2) hL h0 h6 hx10 (by decide)) ?_
  refine ok_nm (fun x12 hx12 => ?_)
  refine ok_gd (lx (k := 3) hL h0 h6 hx12 (by decide)) ?_
  refine ok_bn2 (ok_kp (ok_kp (s_X12_row bσ7) (kr_X12_row hQ.1)) (row_12 (c55 bσ7))) (fun r14 σ14 qr14 => ?_)
  have bσ14 : BX 8 σ14 := qr14.1.1.2
  obtain ⟨hE, Rσ14⟩ := row_ra hQ hR qr7.2 qr14.2 (by rw [hx8, hx1]) (by rw [hx10, hx3]) (by rw [hx12, hx5])
  refine ok_nm (fun x15 hx15 => ?_)
  exact hrec _ _ _ _ _ _ hx15 bσ14 hQ Rσ14
theorem l_L_412 {xs : Nat → Int32} {L : Nat} {rec : Nat → (Nat → Nat) → (Nat → Nat) → SG → RG → Int32 → Option Unit} {N : Nat} {K len : Nat → Nat} {σ : SG} {ρ : RG} {v3 : Int32} (hL : L ≤ 3072) (h0 : 0 ≤ v3.toInt) (h6 : v3.toInt + 6 ≤ (L : Int)) (hrec : LR rec v3) (hB : BX 8 σ) (hQ : PR N K len ρ) (hR : RA K σ ρ) : ok (F_L_412 xs L rec N K len σ ρ v3) (fun _ => True) := by
  unfold F_L_412
  refine ok_nm (fun x1 hx1 => ?_)
  refine ok_gd (lx (k := 1) hL h0 h6 hx1 (by decide)) ?_
  refine ok_bn2 (ok_kp (s_X11_loaf hB hQ) loaf_11) (fun r3 σ3 qr3 => ?_)
  have bσ3 : BX 8 σ3 := qr3.1.2
  refine ok_nm (fun x4 hx4 => ?_)
  refine ok_gd (lx (k := 1) hL h0 h6 hx4 (by decide)) ?_
  refine ok_bn2 (ok_kp (ok_kp (s_X12_loaf bσ3) (kr_X12_loaf hQ.1)) loaf_12) (fun r6 σ6 qr6 => ?_)
  have bσ6 : BX 8 σ6 := qr6.1.1.2
  obtain ⟨hE, Rσ6⟩ := loaf_ra hQ hR qr3.2 qr6.2 qr6.1.2 (by rw [hx4, hx1])
  refine ok_nm (fun x7 hx7 => ?_)
  exact hrec _ _ _ _ _ _ hx7 bσ6 hQ Rσ6
theorem l_L_435 {xs : Nat → Int32} {L : Nat} {rec : Nat → (Nat → Nat) → (Nat → Nat) → SG → RG → Int32 → Option Unit} {N : Nat} {K len : Nat → Nat} {σ : SG} {ρ : RG} {v3 : Int32} (hL : L ≤ 3072) (h0 : 0 ≤ v3.toInt) (h6 : v3.toInt + 6 ≤ (L : Int)) (hrec : LR rec v3) (hB : BX 8 σ) (hQ : PR N K len ρ) (hR : RA K σ ρ) : ok (F_L_435 xs L rec N K len σ ρ v3) (fun _ => True) := by
  unfold F_L_435
  refine ok_nm (fun x1 hx1 => ?_)
  refine ok_gd (lx (k := 1) hL h0 h6 hx1 (by decide)) ?_
  refine ok_bn (s_X11_told hB hQ) (fun r3 qr3 => ?_)
  refine ok_nm (fun x4 hx4 => ?_)
  refine ok_gd (lx (k := 1) hL h0 h6 hx4 (by decide)) ?_
  refine ok_bn (s_X12_told (bf_x hB)) (fun r6 qr6 => ?_)
  refine ok_nm (fun x7 hx7 => ?_)
  exact hrec _ _ _ _ _ _ hx7 hB hQ hR
theorem l_L_458 {xs : Nat → Int32} {L : Nat} {rec : Nat → (Nat → Nat) → (Nat → Nat) → SG → RG → Int32 → Option Unit} {N : Nat} {K len : Nat → Nat} {σ : SG} {ρ : RG} {v3 : Int32} (hL : L ≤ 3072) (h0 : 0 ≤ v3.toInt) (h6 : v3.toInt + 6 ≤ (L : Int)) (hrec : LR rec v3) (hB : BX 8 σ) (hQ : PR N K len ρ) (hR : RA K σ ρ) : ok (F_L_458 xs L rec N K len σ ρ v3) (fun _ => True) := by
  unfold F_L_458
  refine ok_nm (fun x1 hx1 => ?_)
  refine ok_gd (lx (k := 1) hL h0 h6 hx1 (by decide)) ?_
  refine ok_bn2 (ok_kp (s_X11_cut hB hQ) (kk_X11_cut hQ.1)) (fun r3 σ3 qr3 => ?_)
  have bσ3 : BX 8 σ3 := qr3.1.2
  have Rσ3 : RA K σ3 ρ := ra_c hQ qr3.2 hR
  refine ok_nm (fun x4 hx4 => ?_)
  refine ok_gd (lx (k := 1) hL h0 h6 hx4 (by decide)) ?_
  refine ok_bn2 (ok_kp (s_X12_cut (bf_x bσ3)) (kr_X12_cut hQ.1)) (fun r6 σ6 qr6 => ?_)
  have bσ6 : BX 8 σ6 := qr6.1.2.1
  have Rσ6 : RA K σ6 ρ := ra_bf hQ qr6.2 qr6.1.2 Rσ3
  refine ok_nm (fun x7 hx7 => ?_)
  exact hrec _ _ _ _ _ _ hx7 bσ6 hQ Rσ6
theorem l_L_481 {xs : Nat → Int32} {L : Nat} {rec : Nat → (Nat → Nat) → (Nat → Nat) → SG → RG → Int32 → Option Unit} {N : Nat} {K len : Nat → Nat} {σ : SG} {ρ : RG} {v3 : Int32} (hL : L ≤ 3072) (h0 : 0 ≤ v3.toInt) (h6 : v3.toInt + 6 ≤ (L : Int)) (hrec : LR rec v3) (hB : BX 8 σ) (hQ : PR N K len ρ) (hR : RA K σ ρ) : ok (F_L_481 xs L rec N K len σ ρ v3) (fun _ => True) := by
  unfold F_L_481
  refine ok_bn2 (ok_kp (s_X11_right hB hQ) (kk_X11_right hQ.1)) (fun r1 σ1 qr1 => ?_)
  have bσ1 : BX 8 σ1 := qr1.1.2
  have Rσ1 : RA K σ1 ρ := ra_c hQ qr1.2 hR
  refine ok_bn2 (ok_kp (s_X12_right (bf_x bσ1)) (kr_X12_right hQ.1)) (fun r2 σ2 qr2 => ?_)
  have bσ2 : BX 8 σ2 := qr2.1.2.1
  have Rσ2 : RA K σ2 ρ := ra_bf hQ qr2.2 qr2.1.2 Rσ1
  refine ok_nm (fun x3 hx3 => ?_)
  exact hrec _ _ _ _ _ _ hx3 bσ2 hQ Rσ2
theorem l_L_494 {xs : Nat → Int32} {L : Nat} {rec : Nat → (Nat → Nat) → (Nat → Nat) → SG → RG → Int32 → Option Unit} {N : Nat} {K len : Nat → Nat} {σ : SG} {ρ : RG} {v3 : Int32} (hL : L ≤ 3072) (h0 : 0 ≤ v3.toInt) (h6 : v3.toInt + 6 ≤ (L : Int)) (hrec : LR rec v3) (hB : BX 8 σ) (hQ : PR N K len ρ) (hR : RA K σ ρ) : ok (F_L_494 xs L rec N K len σ ρ v3) (fun _ => True) := by
  unfold F_L_494
  refine ok_nm (fun x1 hx1 => ?_)
  refine ok_gd (lx (k := 1) hL h0 h6 hx1 (by decide)) ?_
  refine ok_if (fun _ => ?_) (fun _ => ?_)
  · refine ok_bn2 (ok_kp (s_X11_turn hB hQ) (kk_X11_turn hQ.1)) (fun r4 σ4 qr4 => ?_)
    have bσ4 : BX 8 σ4 := qr4.1.2
    have Rσ4 : RA K σ4 ρ := ra_c hQ qr4.2 hR
    refine ok_nm (fun x5 hx5 => ?_)
    refine ok_gd (lx (k := 1) hL h0 h6 hx5 (by decide)) ?_
    refine ok_if (fun _ => ?_) (fun _ => ?_)
    · refine ok_bn2 (ok_kp (s_X12_turn (bf_x bσ4)) (kr_X12_turn hQ.1)) (fun r8 σ8 qr8 => ?_)
      have bσ8 : BX 8 σ8 := qr8.1.2.1
      have Rσ8 : RA K σ8 ρ := ra_bf hQ qr8.2 qr8.1.2 Rσ4
      refine ok_nm (fun x9 hx9 => ?_)
      exact hrec _ _ _ _ _ _ hx9 bσ8 hQ Rσ8
    · refine ok_bn2 (ok_kp (s_X12_turn (bf_x bσ4)) (kr_X12_turn hQ.1)) (fun r10 σ10 qr10 => ?_)
      have bσ10 : BX 8 σ10 := qr10.1.2.1
      have Rσ10 : RA K σ10 ρ := ra_bf hQ qr10.2 qr10.1.2 Rσ4
      refine ok_nm (fun x11 hx11 => ?_)
      exact hrec _ _ _ _ _ _ hx11 bσ10 hQ Rσ10
  · refine ok_bn2 (ok_kp (s_X11_turn hB hQ) (kk_X11_turn hQ.1)) (fun r12 σ12 qr12 => ?_)
    have bσ12 : BX 8 σ12 := qr12.1.2
    have Rσ12 : RA K σ12 ρ := ra_c hQ qr12.2 hR
    refine ok_nm (fun x13 hx13 => ?_)
    refine ok_gd (lx (k := 1) hL h0 h6 hx13 (by decide)) ?_
    refine ok_if (fun _ => ?_) (fun _ => ?_)
    · refine ok_bn2 (ok_kp (s_X12_turn (bf_x bσ12)) (kr_X12_turn hQ.1)) (fun r16 σ16 qr16 => ?_)
      have bσ16 : BX 8 σ16 := qr16.1.2.1
      have Rσ16 : RA K σ16 ρ := ra_bf hQ qr16.2 qr16.1.2 Rσ12
      refine ok_nm (fun x17 hx17 => ?_)
      exact hrec _ _ _ _ _ _ hx17 bσ16 hQ Rσ16
    · refine ok_bn2 (ok_kp (s_X12_turn (bf_x bσ12)) (kr_X12_turn hQ.1)) (fun r18 σ18 qr18 => ?_)
      have bσ18 : BX 8 σ18 := qr18.1.2.1
      have Rσ18 : RA K σ18 ρ := ra_bf hQ qr18.2 qr18.1.2 Rσ12
      refine ok_nm (fun x19 hx19 => ?_)
      exact hrec _ _ _ _ _ _ hx19 bσ18 hQ Rσ18
theorem l_L_533 {xs : Nat → Int32} {L : Nat} {rec : Nat → (Nat → Nat) → (Nat → Nat) → SG → RG → Int32 → Option Unit} {N : Nat} {K len : Nat → Nat} {σ : SG} {ρ : RG} {v3 : Int32} (hL : L ≤ 3072) (h0 : 0 ≤ v3.toInt) (h6 : v3.toInt + 6 ≤ (L : Int)) (hrec : LR rec v3) (hB : BX 8 σ) (hQ : PR N K len ρ) (hR : RA K σ ρ) : ok (F_L_533 xs L rec N K len σ ρ v3) (fun _ => True) := by
  unfold F_L_533
  refine ok_nm (fun x1 hx1 => ?_)
  refine ok_gd (lx (k := 1) hL h0 h6 hx1 (by decide)) ?_
  refine ok_nm (fun x3 hx3 => ?_)
  refine ok_gd (lx (k := 2) hL h0 h6 hx3 (by decide)) ?_
  refine ok_bn2 (ok_kp (s_X11_would hB hQ) (kk_X11_would hQ.1)) (fun r5 σ5 qr5 => ?_)
  have bσ5 : BX 8 σ5 := qr5.1.2
  have Rσ5 : RA K σ5 ρ := ra_c hQ qr5.2 hR
  refine ok_nm (fun x6 hx6 => ?_)
  refine ok_gd (lx (k := 1) hL h0 h6 hx6 (by decide)) ?_
  refine ok_nm (fun x8 hx8 => ?_)
  refine ok_gd (lx (k := 2) hL h0 h6 hx8 (by decide)) ?_
  refine ok_bn2 (ok_kp (s_X12_would (bf_x bσ5)) (kr_X12_would hQ.1)) (fun r10 σ10 qr10 => ?_)
  have bσ10 : BX 8 σ10 := qr10.1.2.1
  have Rσ10 : RA K σ10 ρ := ra_bf hQ qr10.2 qr10.1.2 Rσ5
  refine ok_nm (fun x11 hx11 => ?_)
  exact hrec _ _ _ _ _ _ hx11 bσ10 hQ Rσ10
theorem l_L_566 {xs : Nat → Int32} {L : Nat} {rec : Nat → (Nat → Nat) → (Nat → Nat) → SG → RG → Int32 → Option Unit} {N : Nat} {K len : Nat → Nat} {σ : SG} {ρ : RG} {v3 : Int32} (hL : L ≤ 3072) (h0 : 0 ≤ v3.toInt) (h6 : v3.toInt + 6 ≤ (L : Int)) (hrec : LR rec v3) (hB : BX 8 σ) (hQ : PR N K len ρ) (hR : RA K σ ρ) : ok (F_L_566 xs L rec N K len σ ρ v3) (fun _ => True) := by
  unfold F_L_566
  refine ok_nm (fun x1 hx1 => ?_)
  refine ok_gd (lx (k := 1) hL h0 h6 hx1 (by decide)) ?_
  refine ok_nm (fun x3 hx3 => ?_)
  refine ok_gd (lx (k := 2) hL h0 h6 hx3 (by decide)) ?_
  refine ok_bn2 (ok_kp (s_X11_on hB hQ) (kk_X11_on hQ.1)) (fun r5 σ5 qr5 => ?_)
  have bσ5 : BX 8 σ5 := qr5.1.2
  have Rσ5 : RA K σ5 ρ := ra_c hQ qr5.2 hR
  refine ok_nm (fun x6 hx6 => ?_)
  refine ok_gd (lx (k := 1) hL h0 h6 hx6 (by decide)) ?_
  refine ok_nm (fun x8 hx8 => ?_)
  refine ok_gd (lx (k := 2) hL h0 h6 hx8 (by decide)) ?_
  refine ok_bn2 (ok_kp (s_X12_on (bf_x bσ5)) (kr_X12_on hQ.1)) (fun r10 σ10 qr10 => ?_)
  have bσ10 : BX 8 σ10 := qr10.1.2.1
  have Rσ10 : RA K σ10 ρ := ra_bf hQ qr10.2 qr10.1.2 Rσ5
  refine ok_nm (fun x11 hx11 => ?_)
  exact hrec _ _ _ _ _ _ hx11 bσ10 hQ Rσ10
theorem l_L_599 {xs : Nat → Int32} {L : Nat} {rec : Nat → (Nat → Nat) → (Nat → Nat) → SG → RG → Int32 → Option Unit} {N : Nat} {K len : Nat → Nat} {σ : SG} {ρ : RG} {v3 : Int32} (hL : L ≤ 3072) (h0 : 0 ≤ v3.toInt) (h6 : v3.toInt + 6 ≤ (L : Int)) (hrec : LR rec v3) (hB : BX 8 σ) (hQ : PR N K len ρ) (hR : RA K σ ρ) : ok (F_L_599 xs L rec N K len σ ρ v3) (fun _ => True) := by
  unfold F_L_599
  refine ok_nm (fun x1 hx1 => ?_)
  refine ok_gd (lx (k := 1) hL h0 h6 hx1 (by decide)) ?_
  refine ok_nm (fun x3 hx3 => ?_)
  refine ok_gd (lx (k := 2) hL h0 h6 hx3 (by decide)) ?_
  refine ok_bn2 (ok_kp (s_X11_toasted hB hQ) (kk_X11_toasted hQ.1)) (fun r5 σ5 qr5 => ?_)
  have bσ5 : BX 8 σ5 := qr5.1.2
  have Rσ5 : RA K σ5 ρ := ra_c hQ qr5.2 hR
  refine ok_nm (fun x6 hx6 => ?_)
  refine ok_gd (lx (k := 1) hL h0 h6 hx6 (by decide)) ?_
  refine ok_nm (fun x8 hx8 => ?_)
  refine ok_gd (lx (k := 2) hL h0 h6 hx8 (by decide)) ?_
  refine ok_bn2 (ok_kp (s_X12_toasted (bf_x bσ5)) (kr_X12_toasted hQ.1)) (fun r10 σ10 qr10 => ?_)
  have bσ10 : BX 8 σ10 := qr10.1.2.1
  have Rσ10 : RA K σ10 ρ := ra_bf hQ qr10.2 qr10.1.2 Rσ5
  refine ok_nm (fun x11 hx11 => ?_)
  exact hrec _ _ _ _ _ _ hx11 bσ10 hQ Rσ10
theorem l_L_632 {xs : Nat → Int32} {L : Nat} {rec : Nat → (Nat → Nat) → (Nat → Nat) → SG → RG → Int32 → Option Unit} {N : Nat} {K len : Nat → Nat} {σ : SG} {ρ : RG} {v3 : Int32} (hL : L ≤ 3072) (h0 : 0 ≤ v3.toInt) (h6 : v3.toInt + 6 ≤ (L : Int)) (hrec : LR rec v3) (hB : BX 8 σ) (hQ : PR N K len ρ) (hR : RA K σ ρ) : ok (F_L_632 xs L rec N K len σ ρ v3) (fun _ => True) := by
  unfold F_L_632
  refine ok_bn2 (ok_kp (s_X11_lasts hB hQ) (kk_X11_lasts hQ.1)) (fun r1 σ1 qr1 => ?_)
  have bσ1 : BX 8 σ1 := qr1.1.2
  have Rσ1 : RA K σ1 ρ := ra_c hQ qr1.2 hR
  refine ok_bn2 (ok_kp (s_X12_lasts (bf_x bσ1)) (kr_X12_lasts hQ.1)) (fun r2 σ2 qr2 => ?_)
  have bσ2 : BX 8 σ2 := qr2.1.2.1
  have Rσ2 : RA K σ2 ρ := ra_bf hQ qr2.2 qr2.1.2 Rσ1
  refine ok_nm (fun x3 hx3 => ?_)
  exact hrec _ _ _ _ _ _ hx3 bσ2 hQ Rσ2
theorem l_L_645 {xs : Nat → Int32} {L : Nat} {rec : Nat → (Nat → Nat) → (Nat → Nat) → SG → RG → Int32 → Option Unit} {N : Nat} {K len : Nat → Nat} {σ : SG} {ρ : RG} {v3 : Int32} (hL : L ≤ 3072) (h0 : 0 ≤ v3.toInt) (h6 : v3.toInt + 6 ≤ (L : Int)) (hrec : LR rec v3) (hB : BX 8 σ) (hQ : PR N K len ρ) (hR : RA K σ ρ) : ok (F_L_645 xs L rec N K len σ ρ v3) (fun _ => True) := by
  unfold F_L_645
  refine ok_nm (fun x1 hx1 => ?_)
  refine ok_gd (lx (k := 1) hL h0 h6 hx1 (by decide)) ?_
  refine ok_bn2 (ok_kp (s_X11_order hB hQ) (kk_X11_order hQ.1)) (fun r3 σ3 qr3 => ?_)
  have bσ3 : BX 8 σ3 := qr3.1.2
  have Rσ3 : RA K σ3 ρ := ra_c hQ qr3.2 hR
  refine ok_nm (fun x4 hx4 => ?_)
  refine ok_gd (lx (k := 1) hL h0 h6 hx4 (by decide)) ?_
  refine ok_bn2 (ok_kp (s_X12_order (bf_x bσ3)) (kr_X12_order hQ.1)) (fun r6 σ6 qr6 => ?_)
  have bσ6 : BX 8 σ6 := qr6.1.1
  have Rσ6 : RA K σ6 ρ := ra_bf hQ qr6.2 qr6.1 Rσ3
  refine ok_nm (fun x7 hx7 => ?_)
  exact hrec _ _ _ _ _ _ hx7 bσ6 hQ Rσ6
theorem l_L_668 {xs : Nat → Int32} {L : Nat} {rec : Nat → (Nat → Nat) → (Nat → Nat) → SG → RG → Int32 → Option Unit} {N : Nat} {K len : Nat → Nat} {σ : SG} {ρ : RG} {v3 : Int32} (hL : L ≤ 3072) (h0 : 0 ≤ v3.toInt) (h6 : v3.toInt + 6 ≤ (L : Int)) (hrec : LR rec v3) (hB : BX 8 σ) (hQ : PR N K len ρ) (hR : RA K σ ρ) : ok (F_L_668 xs L rec N K len σ ρ v3) (fun _ => True) := by
  unfold F_L_668
  refine ok_bn2 (ok_kp (s_X11_cancel hB hQ) (kk_X11_cancel hQ.1)) (fun r1 σ1 qr1 => ?_)
  have bσ1 : BX 8 σ1 := qr1.1.2
  have Rσ1 : RA K σ1 ρ := ra_c hQ qr1.2 hR
  refine ok_bn2 (ok_kp (s_X12_cancel (bf_x bσ1)) (kr_X12_cancel hQ.1)) (fun r2 σ2 qr2 => ?_)
  have bσ2 : BX 8 σ2 := qr2.1.2.1
  have Rσ2 : RA K σ2 ρ := ra_bf hQ qr2.2 qr2.1.2 Rσ1
  refine ok_nm (fun x3 hx3 => ?_)
  exact hrec _ _ _ _ _ _ hx3 bσ2 hQ Rσ2
theorem l_L_681 {xs : Nat → Int32} {L : Nat} {rec : Nat → (Nat → Nat) → (Nat → Nat) → SG → RG → Int32 → Option Unit} {N : Nat} {K len : Nat → Nat} {σ : SG} {ρ : RG} {v3 : Int32} (hL : L ≤ 3072) (h0 : 0 ≤ v3.toInt) (h6 : v3.toInt + 6 ≤ (L : Int)) (hrec : LR rec v3) (hB : BX 8 σ) (hQ : PR N K len ρ) (hR : RA K σ ρ) : ok (F_L_681 xs L rec N K len σ ρ v3) (fun _ => True) := by
  unfold F_L_681
  refine ok_nm (fun x1 hx1 => ?_)
  refine ok_gd (lx (k := 1) hL h0 h6 hx1 (by decide)) ?_
  refine ok_bn2 (ok_kp (s_X11_enough hB hQ) (kk_X11_enough hQ.1)) (fun r3 σ3 qr3 => ?_)
  have bσ3 : BX 8 σ3 := qr3.1.2
  have Rσ3 : RA K σ3 ρ := ra_c hQ qr3.2 hR
  refine ok_nm (fun x4 hx4 => ?_)
  refine ok_gd (lx (k := 1) hL h0 h6 hx4 (by decide)) ?_
  refine ok_bn2 (ok_kp (s_X12_enough (bf_x bσ3)) (kr_X12_enough hQ.1)) (fun r6 σ6 qr6 => ?_)
  have bσ6 : BX 8 σ6 := qr6.1.2.1
  have Rσ6 : RA K σ6 ρ := ra_bf hQ qr6.2 qr6.1.2 Rσ3
  refine ok_nm (fun x7 hx7 => ?_)
  exact hrec _ _ _ _ _ _ hx7 bσ6 hQ Rσ6
theorem l_L_704 {xs : Nat → Int32} {L : Nat} {rec : Nat → (Nat → Nat) → (Nat → Nat) → SG → RG → Int32 → Option Unit} {N : Nat} {K len : Nat → Nat} {σ : SG} {ρ : RG} {v3 : Int32} (hL : L ≤ 3072) (h0 : 0 ≤ v3.toInt) (h6 : v3.toInt + 6 ≤ (L : Int)) (hrec : LR rec v3) (hB : BX 8 σ) (hQ : PR N K len ρ) (hR : RA K σ ρ) : ok (F_L_704 xs L rec N K len σ ρ v3) (fun _ => True) := by
  unfold F_L_704
  refine ok_nm (fun x1 hx1 => ?_)
  refine ok_gd (lx (k := 1) hL h0 h6 hx1 (by decide)) ?_
  refine ok_nm (fun x3 hx3 => ?_)
  refine ok_gd (lx (k := 2) hL h0 h6 hx3 (by decide)) ?_
  refine ok_bn2 (ok_kp (s_X11_when hB hQ) (kk_X11_when hQ.1)) (fun r5 σ5 qr5 => ?_)
  have bσ5 : BX 8 σ5 := qr5.1.2
  have Rσ5 : RA K σ5 ρ := ra_c hQ qr5.2 hR
  refine ok_nm (fun x6 hx6 => ?_)
  refine ok_gd (lx (k := 1) hL h0 h6 hx6 (by decide)) ?_
  refine ok_nm (fun x8 hx8 => ?_)
  refine ok_gd (lx (k := 2) hL h0 h6 hx8 (by decide)) ?_
  refine ok_bn2 (ok_kp (s_X12_when (bf_x bσ5)) (kr_X12_when hQ.1)) (fun r10 σ10 qr10 => ?_)
  have bσ10 : BX 8 σ10 := qr10.1.2.1
  have Rσ10 : RA K σ10 ρ := ra_bf hQ qr10.2 qr10.1.2 Rσ5
  refine ok_nm (fun x11 hx11 => ?_)
  exact hrec _ _ _ _ _ _ hx11 bσ10 hQ Rσ10
theorem l_L_737 {xs : Nat → Int32} {L : Nat} {rec : Nat → (Nat → Nat) → (Nat → Nat) → SG → RG → Int32 → Option Unit} {N : Nat} {K len : Nat → Nat} {σ : SG} {ρ : RG} {v3 : Int32} (hL : L ≤ 3072) (h0 : 0 ≤ v3.toInt) (h6 : v3.toInt + 6 ≤ (L : Int)) (hrec : LR rec v3) (hB : BX 8 σ) (hQ : PR N K len ρ) (hR : RA K σ ρ) : ok (F_L_737 xs L rec N K len σ ρ v3) (fun _ => True) := by
  unfold F_L_737
  refine ok_nm (fun x1 hx1 => ?_)
  refine ok_gd (lx (k := 1) hL h0 h6 hx1 (by decide)) ?_
  refine ok_bn2 (ok_kp (s_X11_guide hB hQ) (kk_X11_guide hQ.1)) (fun r3 σ3 qr3 => ?_)
  have bσ3 : BX 8 σ3 := qr3.1.2
  have Rσ3 : RA K σ3 ρ := ra_c hQ qr3.2 hR
  refine ok_nm (fun x4 hx4 => ?_)
  refine ok_gd (lx (k := 1) hL h0 h6 hx4 (by decide)) ?_
  refine ok_bn2 (ok_kp (s_X12_guide (bf_x bσ3)) (kr_X12_guide hQ.1)) (fun r6 σ6 qr6 => ?_)
  have bσ6 : BX 8 σ6 := qr6.1.2.1
  have Rσ6 : RA K σ6 ρ := ra_bf hQ qr6.2 qr6.1.2 Rσ3
  refine ok_nm (fun x7 hx7 => ?_)
  exact hrec _ _ _ _ _ _ hx7 bσ6 hQ Rσ6
theorem l_L_760 {xs : Nat → Int32} {L : Nat} {rec : Nat → (Nat → Nat) → (Nat → Nat) → SG → RG → Int32 → Option Unit} {N : Nat} {K len : Nat → Nat} {σ : SG} {ρ : RG} {v3 : Int32} (hL : L ≤ 3072) (h0 : 0 ≤ v3.toInt) (h6 : v3.toInt + 6 ≤ (L : Int)) (hrec : LR rec v3) (hB : BX 8 σ) (hQ : PR N K len ρ) (hR : RA K σ ρ) : ok (F_L_760 xs L rec N K len σ ρ v3) (fun _ => True) := by
  unfold F_L_760
  refine ok_nm (fun x1 hx1 => ?_)
  refine ok_gd (lx (k := 1) hL h0 h6 hx1 (by decide)) ?_
  refine ok_bn2 (ok_kp (s_X11_again hB hQ) (kk_X11_again hQ.1)) (fun r3 σ3 qr3 => ?_)
  have bσ3 : BX 8 σ3 := qr3.1.2
  have Rσ3 : RA K σ3 ρ := ra_c hQ qr3.2 hR
  refine ok_nm (fun x4 hx4 => ?_)
  refine ok_gd (lx (k := 1) hL h0 h6 hx4 (by decide)) ?_
  refine ok_bn2 (ok_kp (s_X12_again (bf_x bσ3)) (kr_X12_again hQ.1)) (fun r6 σ6 qr6 => ?_)
  have bσ6 : BX 8 σ6 := qr6.1.2.1
  have Rσ6 : RA K σ6 ρ := ra_bf hQ qr6.2 qr6.1.2 Rσ3
  refine ok_nm (fun x7 hx7 => ?_)
  exact hrec _ _ _ _ _ _ hx7 bσ6 hQ Rσ6
theorem l_L_783 {xs : Nat → Int32} {L : Nat} {rec : Nat → (Nat → Nat) → (Nat → Nat) → SG → RG → Int32 → Option Unit} {N : Nat} {K len : Nat → Nat} {σ : SG} {ρ : RG} {v3 : Int32} (hL : L ≤ 3072) (h0 : 0 ≤ v3.toInt) (h6 : v3.toInt + 6 ≤ (L : Int)) (hrec : LR rec v3) (hB : BX 8 σ) (hQ : PR N K len ρ) (hR : RA K σ ρ) : ok (F_L_783 xs L rec N K len σ ρ v3) (fun _ => True) := by
  unfold F_L_783
  refine ok_nm (fun x1 hx1 => ?_)
  refine ok_gd (lx (k := 1) hL h0 h6 hx1 (by decide)) ?_
  refine ok_nm (fun x3 hx3 => ?_)
  refine ok_gd (lx (k := 2) hL h0 h6 hx3 (by decide)) ?_
  refine ok_bn2 (ok_kp (s_X11_evener hB hQ) (kk_X11_evener hQ.1)) (fun r5 σ5 qr5 => ?_)
  have bσ5 : BX 8 σ5 := qr5.1.2
  have Rσ5 : RA K σ5 ρ := ra_c hQ qr5.2 hR
  refine ok_nm (fun x6 hx6 => ?_)
  refine ok_gd (lx (k := 1) hL h0 h6 hx6 (by decide)) ?_
  refine ok_nm (fun x8 hx8 => ?_)
  refine ok_gd (lx (k := 2) hL h0 h6 hx8 (by decide)) ?_
  refine ok_bn2 (ok_kp (s_X12_evener (bf_x bσ5)) (kr_X12_evener hQ.1)) (fun r10 σ10 qr10 => ?_)
  have bσ10 : BX 8 σ10 := qr10.1.2.1
  have Rσ10 : RA K σ10 ρ := ra_bf hQ qr10.2 qr10.1.2 Rσ5
  refine ok_nm (fun x11 hx11 => ?_)
  exact hrec _ _ _ _ _ _ hx11 bσ10 hQ Rσ10
theorem l_L_816 {xs : Nat → Int32} {L : Nat} {rec : Nat → (Nat → Nat) → (Nat → Nat) → SG → RG → Int32 → Option Unit} {N : Nat} {K len : Nat → Nat} {σ : SG} {ρ : RG} {v3 : Int32} (hL : L ≤ 3072) (h0 : 0 ≤ v3.toInt) (h6 : v3.toInt + 6 ≤ (L : Int)) (hrec : LR rec v3) (hB : BX 8 σ) (hQ : PR N K len ρ) (hR : RA K σ ρ) : ok (F_L_816 xs L rec N K len σ ρ v3) (fun _ => True) := by
  unfold F_L_816
  refine ok_nm (fun x1 hx1 => ?_)
  refine ok_gd (lx (k := 1) hL h0 h6 hx1 (by decide)) ?_
  refine ok_nm (fun x3 hx3 => ?_)
  refine ok_gd (lx (k := 2) hL h0 h6 hx3 (by decide)) ?_
  refine ok_nm (fun x5 hx5 => ?_)
  refine ok_gd (lx (k := 3) hL h0 h6 hx5 (by decide)) ?_
  refine ok_nm (fun x7 hx7 => ?_)
  refine ok_gd (lx (k := 4) hL h0 h6 hx7 (by decide)) ?_
  refine ok_bn2 (ok_kp (s_X11_game hB hQ) (kk_X11_game hQ.1)) (fun r9 σ9 qr9 => ?_)
  have bσ9 : BX 8 σ9 := qr9.1.2
  have Rσ9 : RA K σ9 ρ := ra_c hQ qr9.2 hR
  refine ok_nm (fun x10 hx10 => ?_)
  refine ok_gd (lx (k := 1) hL h0 h6 hx10 (by decide)) ?_
  refine ok_nm (fun x12 hx12 => ?_)
  refine ok_gd (lx (k := 2) hL h0 h6 hx12 (by decide)) ?_
  refine ok_nm (fun x14 hx14 => ?_)
  refine ok_gd (lx (k := 3) hL h0 h6 hx14 (by decide)) ?_
  refine ok_nm (fun x16 hx16 => ?_)
  refine ok_gd (lx (k := 4) hL h0 h6 hx16 (by decide)) ?_
  refine ok_bn2 (ok_kp (s_X12_game (bf_x bσ9)) (kr_X12_game hQ.1)) (fun r18 σ18 qr18 => ?_)
  have bσ18 : BX 8 σ18 := qr18.1.2.1
  have Rσ18 : RA K σ18 ρ := ra_bf hQ qr18.2 qr18.1.2 Rσ9
  refine ok_nm (fun x19 hx19 => ?_)
  exact hrec _ _ _ _ _ _ hx19 bσ18 hQ Rσ18
theorem l_L_869 {xs : Nat → Int32} {L : Nat} {rec : Nat → (Nat → Nat) → (Nat → Nat) → SG → RG → Int32 → Option Unit} {N : Nat} {K len : Nat → Nat} {σ : SG} {ρ : RG} {v3 : Int32} (hL : L ≤ 3072) (h0 : 0 ≤ v3.toInt) (h6 : v3.toInt + 6 ≤ (L : Int)) (hrec : LR rec v3) (hB : BX 8 σ) (hQ : PR N K len ρ) (hR : RA K σ ρ) : ok (F_L_869 xs L rec N K len σ ρ v3) (fun _ => True) := by
  unfold F_L_869
  refine ok_nm (fun x1 hx1 => ?_)
  refine ok_gd (lx (k := 1) hL h0 h6 hx1 (by decide)) ?_
  refine ok_nm (fun x3 hx3 => ?_)
  refine ok_gd (lx (k := 2) hL h0 h6 hx3 (by decide)) ?_
  refine ok_bn (s_X11_cheese hB hQ) (fun r5 qr5 => ?_)
  refine ok_nm (fun x6 hx6 => ?_)
  refine ok_gd (lx (k := 1) hL h0 h6 hx6 (by decide)) ?_
  refine ok_nm (fun x8 hx8 => ?_)
  refine ok_gd (lx (k := 2) hL h0 h6 hx8 (by decide)) ?_
  refine ok_bn2 (ok_kp (s_X12_cheese (bf_x hB)) (kr_X12_cheese hQ.1)) (fun r10 σ10 qr10 => ?_)
  have bσ10 : BX 8 σ10 := qr10.1.2.1
  have Rσ10 : RA K σ10 ρ := ra_bf hQ qr10.2 qr10.1.2 hR
  refine ok_nm (fun x11 hx11 => ?_)
  exact hrec _ _ _ _ _ _ hx11 bσ10 hQ Rσ10
theorem l_L_902 {xs : Nat → Int32} {L : Nat} {rec : Nat → (Nat → Nat) → (Nat → Nat) → SG → RG → Int32 → Option Unit} {N : Nat} {K len : Nat → Nat} {σ : SG} {ρ : RG} {v3 : Int32} (hL : L ≤ 3072) (h0 : 0 ≤ v3.toInt) (h6 : v3.toInt + 6 ≤ (L : Int)) (hrec : LR rec v3) (hB : BX 8 σ) (hQ : PR N K len ρ) (hR : RA K σ ρ) : ok (F_L_902 xs L rec N K len σ ρ v3) (fun _ => True) := by
  unfold F_L_902
  refine ok_nm (fun x1 hx1 => ?_)
  refine ok_gd (lx (k := 1) hL h0 h6 hx1 (by decide)) ?_
  refine ok_nm (fun x3 hx3 => ?_)
  refine ok_gd (lx (k := 2) hL h0 h6 hx3 (by decide)) ?_
  refine ok_bn2 (ok_and (ok_kp (s_X11_see hB hQ) (kk_X11_see hQ.1)) see_11) (fun r5 σ5 qr5 => ?_)
  have bσ5 : BX 8 σ5 := qr5.1.1.2
  have Rσ5 : RA K σ5 ρ := ra_c hQ qr5.1.2 hR
  refine ok_nm (fun x6 hx6 => ?_)
  refine ok_gd (lx (k := 1) hL h0 h6 hx6 (by decide)) ?_
  refine ok_nm (fun x8 hx8 => ?_)
  refine ok_gd (lx (k := 2) hL h0 h6 hx8 (by decide)) ?_
  refine ok_bn2 (ok_and (ok_kp (ok_kp (s_X12_see bσ5) (kr_X12_see hQ.1)) see_12k) see_12) (fun r10 σ10 qr10 => ?_)
  have bσ10 : BX 8 σ10 := qr10.1.1.1.2
  have Rσ10 : RA K σ10 ρ := ra_r hQ qr10.1.1.2 qr10.1.2 Rσ5
  have hE : r5 = r10 := qr5.2.trans (Eq.trans (by rw [hx1, hx3, hx6, hx8]) qr10.2.symm)
  refine ok_nm (fun x11 hx11 => ?_)
  exact hrec _ _ _ _ _ _ hx11 bσ10 hQ Rσ10
theorem l_L_935 {xs : Nat → Int32} {L : Nat} {rec : Nat → (Nat → Nat) → (Nat → Nat) → SG → RG → Int32 → Option Unit} {N : Nat} {K len : Nat → Nat} {σ : SG} {ρ : RG} {v3 : Int32} (hL : L ≤ 3072) (h0 : 0 ≤ v3.toInt) (h6 : v3.toInt + 6 ≤ (L : Int)) (hrec : LR rec v3) (hB : BX 8 σ) (hQ : PR N K len ρ) (hR : RA K σ ρ) : ok (F_L_935 xs L rec N K len σ ρ v3) (fun _ => True) := by
  unfold F_L_935
  refine ok_bn2 (ok_kp (s_X11_who hB hQ) (kk_X11_who hQ.1)) (fun r1 σ1 qr1 => ?_)
  have bσ1 : BX 8 σ1 := qr1.1.2
  have Rσ1 : RA K σ1 ρ := ra_c hQ qr1.2 hR
  refine ok_bn2 (ok_kp (s_X12_who (bf_x bσ1)) (kr_X12_who hQ.1)) (fun r2 σ2 qr2 => ?_)
  have bσ2 : BX 8 σ2 := qr2.1.2.1
  have Rσ2 : RA K σ2 ρ := ra_bf hQ qr2.2 qr2.1.2 Rσ1
  refine ok_nm (fun x3 hx3 => ?_)
  exact hrec _ _ _ _ _ _ hx3 bσ2 hQ Rσ2
theorem l_L_948 {xs : Nat → Int32} {L : Nat} {rec : Nat → (Nat → Nat) → (Nat → Nat) → SG → RG → Int32 → Option Unit} {N : Nat} {K len : Nat → Nat} {σ : SG} {ρ : RG} {v3 : Int32} (hL : L ≤ 3072) (h0 : 0 ≤ v3.toInt) (h6 : v3.toInt + 6 ≤ (L : Int)) (hrec : LR rec v3) (hB : BX 8 σ) (hQ : PR N K len ρ) (hR : RA K σ ρ) : ok (F_L_948 xs L rec N K len σ ρ v3) (fun _ => True) := by
  unfold F_L_948
  refine ok_nm (fun x1 hx1 => ?_)
  refine ok_gd (lx (k := 1) hL h0 h6 hx1 (by decide)) ?_
  refine ok_bn2 (ok_kp (s_X11_week hB hQ) week_11) (fun r3 σ3 qr3 => ?_)
  have bσ3 : BX 8 σ3 := qr3.1.2
  refine ok_nm (fun x4 hx4 => ?_)
  refine ok_gd (lx (k := 1) hL h0 h6 hx4 (by decide)) ?_
  refine ok_bn2 (ok_kp (ok_kp (s_X12_week bσ3) (kr_X12_week hQ.1)) (week_12 (c13 bσ3))) (fun r6 σ6 qr6 => ?_)
  have bσ6 : BX 8 σ6 := qr6.1.1.2
  obtain ⟨hE, Rσ6⟩ := week_ra hQ hR qr3.2 qr6.2 qr6.1.2 (by rw [hx4, hx1])
  refine ok_nm (fun x7 hx7 => ?_)
  exact hrec _ _ _ _ _ _ hx7 bσ6 hQ Rσ6
theorem l_L_971 {xs : Nat → Int32} {L : Nat} {rec : Nat → (Nat → Nat) → (Nat → Nat) → SG → RG → Int32 → Option Unit} {N : Nat} {K len : Nat → Nat} {σ : SG} {ρ : RG} {v3 : Int32} (hL : L ≤ 3072) (h0 : 0 ≤ v3.toInt) (h6 : v3.toInt + 6 ≤ (L : Int)) (hrec : LR rec v3) (hB : BX 8 σ) (hQ : PR N K len ρ) (hR : RA K σ ρ) : ok (F_L_971 xs L rec N K len σ ρ v3) (fun _ => True) := by
  unfold F_L_971
  refine ok_bn2 (ok_kp (s_X11_clear hB hQ) clear_11) (fun r1 σ1 qr1 => ?_)
  have bσ1 : BX 8 σ1 := qr1.1.2
  refine ok_bn2 (ok_kp (ok_kp (s_X12_clear bσ1) (kr_X12_clear hQ.1)) clear_12) (fun r2 σ2 qr2 => ?_)
  have bσ2 : BX 8 σ2 := qr2.1.1.2
  obtain ⟨hE, Rσ2⟩ := clear_ra hQ hR qr1.2 qr2.2 qr2.1.2 
  refine ok_nm (fun x3 hx3 => ?_)
  exact hrec _ _ _ _ _ _ hx3 bσ2 hQ Rσ2
theorem l_L_984 {xs : Nat → Int32} {L : Nat} {rec : Nat → (Nat → Nat) → (Nat → Nat) → SG → RG → Int32 → Option Unit} {N : Nat} {K len : Nat → Nat} {σ : SG} {ρ : RG} {v3 : Int32} (hL : L ≤ 3072) (h0 : 0 ≤ v3.toInt) (h6 : v3.toInt + 6 ≤ (L : Int)) (hrec : LR rec v3) (hB : BX 8 σ) (hQ : PR N K len ρ) (hR : RA K σ ρ) : ok (F_L_984 xs L rec N K len σ ρ v3) (fun _ => True) := by
  unfold F_L_984
  refine ok_nm (fun x1 hx1 => ?_)
  refine ok_gd (lx (k := 1) hL h0 h6 hx1 (by decide)) ?_
  refine ok_bn2 (ok_kp (s_X11_rows hB hQ) (kk_X11_rows hQ.1)) (fun r3 σ3 qr3 => ?_)
  have bσ3 : BX 8 σ3 := qr3.1.2
  have Rσ3 : RA K σ3 ρ := ra_c hQ qr3.2 hR
  refine ok_nm (fun x4 hx4 => ?_)
  refine ok_gd (lx (k := 1) hL h0 h6 hx4 (by decide)) ?_
  refine ok_bn2 (ok_kp (s_X12_rows (bf_x bσ3)) (kr_X12_rows hQ.1)) (fun r6 σ6 qr6 => ?_)
  have bσ6 : BX 8 σ6 := qr6.1.1
  have Rσ6 : RA K σ6 ρ := ra_bf hQ qr6.2 qr6.1 Rσ3
  refine ok_nm (fun x7 hx7 => ?_)
  exact hrec _ _ _ _ _ _ hx7 bσ6 hQ Rσ6
theorem l_L_1007 {xs : Nat → Int32} {L : Nat} {rec : Nat → (Nat → Nat) → (Nat → Nat) → SG → RG → Int32 → Option Unit} {N : Nat} {K len : Nat → Nat} {σ : SG} {ρ : RG} {v3 : Int32} (hL : L ≤ 3072) (h0 : 0 ≤ v3.toInt) (h6 : v3.toInt + 6 ≤ (L : Int)) (hrec : LR rec v3) (hB : BX 8 σ) (hQ : PR N K len ρ) (hR : RA K σ ρ) : ok (F_L_1007 xs L rec N K len σ ρ v3) (fun _ => True) := by
  unfold F_L_1007
  refine ok_nm (fun x1 hx1 => ?_)
  refine ok_gd (lx (k := 1) hL h0 h6 hx1 (by decide)) ?_
  refine ok_nm (fun x3 hx3 => ?_)
  refine ok_gd (lx (k := 2) hL h0 h6 hx3 (by decide)) ?_
  refine ok_bn2 (ok_kp (s_X11_odds hB hQ) (kk_X11_odds hQ.1)) (fun r5 σ5 qr5 => ?_)
  have bσ5 : BX 8 σ5 := qr5.1
  have Rσ5 : RA K σ5 ρ := ra_c hQ qr5.2 hR
  refine ok_nm (fun x6 hx6 => ?_)
  refine ok_gd (lx (k := 1) hL h0 h6 hx6 (by decide)) ?_
  refine ok_nm (fun x8 hx8 => ?_)
  refine ok_gd (lx (k := 2) hL h0 h6 hx8 (by decide)) ?_
  refine ok_bn2 (ok_kp (s_X12_odds (bf_x bσ5)) (kr_X12_odds hQ.1)) (fun r10 σ10 qr10 => ?_)
  have bσ10 : BX 8 σ10 := qr10.1.1
  have Rσ10 : RA K σ10 ρ := ra_bf hQ qr10.2 qr10.1 Rσ5
  refine ok_nm (fun x11 hx11 => ?_)
  exact hrec _ _ _ _ _ _ hx11 bσ10 hQ Rσ10
theorem l_L_1040 {xs : Nat → Int32} {L : Nat} {rec : Nat → (Nat → Nat) → (Nat → Nat) → SG → RG → Int32 → Option Unit} {N : Nat} {K len : Nat → Nat} {σ : SG} {ρ : RG} {v3 : Int32} (hL : L ≤ 3072) (h0 : 0 ≤ v3.toInt) (h6 : v3.toInt + 6 ≤ (L : Int)) (hrec : LR rec v3) (hB : BX 8 σ) (hQ : PR N K len ρ) (hR : RA K σ ρ) : ok (F_L_1040 xs L rec N K len σ ρ v3) (fun _ => True) := by
  unfold F_L_1040
  refine ok_nm (fun x1 hx1 => ?_)
  refine ok_gd (lx (k := 1) hL h0 h6 hx1 (by decide)) ?_
  refine ok_bn2 (ok_kp (s_X11_mean hB hQ) (kk_X11_mean hQ.1)) (fun r3 σ3 qr3 => ?_)
  have bσ3 : BX 8 σ3 := qr3.1
  have Rσ3 : RA K σ3 ρ := ra_c hQ qr3.2 hR
  refine ok_nm (fun x4 hx4 => ?_)
  refine ok_gd (lx (k := 1) hL h0 h6 hx4 (by decide)) ?_
  refine ok_bn2 (ok_kp (s_X12_mean (bf_x bσ3)) (kr_X12_mean hQ.1)) (fun r6 σ6 qr6 => ?_)
  have bσ6 : BX 8 σ6 := qr6.1.1
  have Rσ6 : RA K σ6 ρ := ra_bf hQ qr6.2 qr6.1 Rσ3
  refine ok_nm (fun x7 hx7 => ?_)
  exact hrec _ _ _ _ _ _ hx7 bσ6 hQ Rσ6
theorem l_L_1063 {xs : Nat → Int32} {L : Nat} {rec : Nat → (Nat → Nat) → (Nat → Nat) → SG → RG → Int32 → Option Unit} {N : Nat} {K len : Nat → Nat} {σ : SG} {ρ : RG} {v3 : Int32} (hL : L ≤ 3072) (h0 : 0 ≤ v3.toInt) (h6 : v3.toInt + 6 ≤ (L : Int)) (hrec : LR rec v3) (hB : BX 8 σ) (hQ : PR N K len ρ) (hR : RA K σ ρ) : ok (F_L_1063 xs L rec N K len σ ρ v3) (fun _ => True) := by
  unfold F_L_1063
  refine ok_nm (fun x1 hx1 => ?_)
  refine ok_gd (lx (k := 1) hL h0 h6 hx1 (by decide)) ?_
  refine ok_nm (fun x3 hx3 => ?_)
  refine ok_gd (lx (k := 2) hL h0 h6 hx3 (by decide)) ?_
  refine ok_bn2 (ok_kp (s_X11_book hB hQ) (book_11 (c11 hB) hR)) (fun r5 σ5 qr5 => ?_)
  have bσ5 : BX 8 σ5 := qr5.1.2
  refine ok_nm (fun x6 hx6 => ?_)
  refine ok_gd (lx (k := 1) hL h0 h6 hx6 (by decide)) ?_
  refine ok_nm (fun x8 hx8 => ?_)
  refine ok_gd (lx (k := 2) hL h0 h6 hx8 (by decide)) ?_
  refine ok_bn2 (ok_kp (ok_kp (s_X12_book bσ5) (kr_X12_book hQ.1)) (book_12 (c55 bσ5) (c14 bσ5))) (fun r10 σ10 qr10 => ?_)
  have bσ10 : BX 8 σ10 := qr10.1.1.2
  obtain ⟨hE, Rσ10⟩ := book_ra hQ hR qr5.2 qr10.2 qr10.1.2 (by rw [hx6, hx1]) (by rw [hx8, hx3])
  refine ok_nm (fun x11 hx11 => ?_)
  exact hrec _ _ _ _ _ _ hx11 bσ10 hQ Rσ10
theorem l_L_1096 {xs : Nat → Int32} {L : Nat} {rec : Nat → (Nat → Nat) → (Nat → Nat) → SG → RG → Int32 → Option Unit} {N : Nat} {K len : Nat → Nat} {σ : SG} {ρ : RG} {v3 : Int32} (hL : L ≤ 3072) (h0 : 0 ≤ v3.toInt) (h6 : v3.toInt + 6 ≤ (L : Int)) (hrec : LR rec v3) (hB : BX 8 σ) (hQ : PR N K len ρ) (hR : RA K σ ρ) : ok (F_L_1096 xs L rec N K len σ ρ v3) (fun _ => True) := by
  unfold F_L_1096
  refine ok_bn2 (ok_kp (s_X11_looked hB hQ) (kk_X11_looked hQ.1)) (fun r1 σ1 qr1 => ?_)
  have bσ1 : BX 8 σ1 := qr1.1.2
  have Rσ1 : RA K σ1 ρ := ra_c hQ qr1.2 hR
  refine ok_bn2 (ok_kp (s_X12_looked (bf_x bσ1)) (kr_X12_looked hQ.1)) (fun r2 σ2 qr2 => ?_)
  have bσ2 : BX 8 σ2 := qr2.1.2.1
  have Rσ2 : RA K σ2 ρ := ra_bf hQ qr2.2 qr2.1.2 Rσ1
  refine ok_nm (fun x3 hx3 => ?_)
  exact hrec _ _ _ _ _ _ hx3 bσ2 hQ Rσ2
theorem l_L_1109 {xs : Nat → Int32} {L : Nat} {rec : Nat → (Nat → Nat) → (Nat → Nat) → SG → RG → Int32 → Option Unit} {N : Nat} {K len : Nat → Nat} {σ : SG} {ρ : RG} {v3 : Int32} (hL : L ≤ 3072) (h0 : 0 ≤ v3.toInt) (h6 : v3.toInt + 6 ≤ (L : Int)) (hrec : LR rec v3) (hB : BX 8 σ) (hQ : PR N K len ρ) (hR : RA K σ ρ) : ok (F_L_1109 xs L rec N K len σ ρ v3) (fun _ => True) := by
  unfold F_L_1109
  refine ok_nm (fun x1 hx1 => ?_)
  refine ok_gd (lx (k := 1) hL h0 h6 hx1 (by decide)) ?_
  refine ok_nm (fun x3 hx3 => ?_)
  refine ok_gd (lx (k := 2) hL h0 h6 hx3 (by decide)) ?_
  refine ok_nm (fun x5 hx5 => ?_)
  refine ok_gd (lx (k := 3) hL h0 h6 hx5 (by decide)) ?_
  refine ok_bn2 (ok_kp (ok_kp (s_X11_act hB hQ) (kk_X11_act hQ.1)) (act_11 hQ (c11 hB) hR)) (fun r7 σ7 qr7 => ?_)
  have bσ7 : BX 8 σ7 := qr7.1.1.2
  have Rσ7 : RA K σ7 ρ := ra_c hQ qr7.1.2 hR
  refine ok_nm (fun x8 hx8 => ?_)
  refine ok_gd (lx (k := 1) hL h0 h6 hx8 (by decide)) ?_
  refine ok_nm (fun x10 hx10 => ?_)
  refine ok_gd (lx (k := 2) hL h0 h6 hx10 (by decide)) ?_
  refine ok_nm (fun x12 hx12 => ?_)
  refine ok_gd (lx (k := 3) hL h0 h6 hx12 (by decide)) ?_
  refine ok_bn2 (ok_kp (ok_kp (ok_kp (s_X12_act bσ7) (kr_X12_act hQ.1)) (ka_X12_act hQ.1)) (act_12 (c55 bσ7))) (fun r14 σ14 qr14 => ?_)
  have bσ14 : BX 8 σ14 := qr14.1.1.1
  have Rσ14 : RA K σ14 ρ := ra_a hQ qr14.1.1.2 qr14.1.2 Rσ7
  have hE : r7 = r14 := act_eq (fun k => qr7.1.2 55 k (kcP_ref (by decide) (by decide))) qr7.2 qr14.2 (by rw [hx8, hx1]) (by rw [hx10, hx3]) (by rw [hx12, hx5])
  refine ok_nm (fun x15 hx15 => ?_)
  exact hrec _ _ _ _ _ _ hx15 bσ14 hQ Rσ14
theorem l_L_1152 {xs : Nat → Int32} {L : Nat} {rec : Nat → (Nat → Nat) → (Nat → Nat) → SG → RG → Int32 → Option Unit} {N : Nat} {K len : Nat → Nat} {σ : SG} {ρ : RG} {v3 : Int32} (hL : L ≤ 3072) (h0 : 0 ≤ v3.toInt) (h6 : v3.toInt + 6 ≤ (L : Int)) (hrec : LR rec v3) (hB : BX 8 σ) (hQ : PR N K len ρ) (hR : RA K σ ρ) : ok (F_L_1152 xs L rec N K len σ ρ v3) (fun _ => True) := by
  unfold F_L_1152
  refine ok_nm (fun x1 hx1 => ?_)
  refine ok_gd (lx (k := 1) hL h0 h6 hx1 (by decide)) ?_
  refine ok_bn (s_X11_trace hB hQ) (fun r3 qr3 => ?_)
  refine ok_nm (fun x4 hx4 => ?_)
  refine ok_gd (lx (k := 1) hL h0 h6 hx4 (by decide)) ?_
  refine ok_bn (s_X12_trace hB) (fun r6 qr6 => ?_)
  refine ok_nm (fun x7 hx7 => ?_)
  exact hrec _ _ _ _ _ _ hx7 hB hQ hR
theorem l_L_1175 {xs : Nat → Int32} {L : Nat} {rec : Nat → (Nat → Nat) → (Nat → Nat) → SG → RG → Int32 → Option Unit} {N : Nat} {K len : Nat → Nat} {σ : SG} {ρ : RG} {v3 : Int32} (hL : L ≤ 3072) (h0 : 0 ≤ v3.toInt) (h6 : v3.toInt + 6 ≤ (L : Int)) (hrec : LR rec v3) (hB : BX 8 σ) (hQ : PR N K len ρ) (hR : RA K σ ρ) : ok (F_L_1175 xs L rec N K len σ ρ v3) (fun _ => True) := by
  unfold F_L_1175
  refine ok_nm (fun x1 hx1 => ?_)
  refine ok_gd (lx (k := 1) hL h0 h6 hx1 (by decide)) ?_
  refine ok_nm (fun x3 hx3 => ?_)
  refine ok_gd (lx (k := 2) hL h0 h6 hx3 (by decide)) ?_
  refine ok_bn (ok_kp (s_X11_as hB hQ) (as_11 hQ (c11 hB) hR)) (fun r5 qr5 => ?_)
  refine ok_nm (fun x6 hx6 => ?_)
  refine ok_gd (lx (k := 1) hL h0 h6 hx6 (by decide)) ?_
  refine ok_nm (fun x8 hx8 => ?_)
  refine ok_gd (lx (k := 2) hL h0 h6 hx8 (by decide)) ?_
  refine ok_bn (ok_kp (s_X12_as hB) (fun z e => show z = z ∧ F_X12_as _ _ _ _ = some z from ⟨rfl, e⟩)) (fun r10 qr10 => ?_)
  refine ok_nm (fun x11 hx11 => ?_)
  exact hrec _ _ _ _ _ _ hx11 hB hQ hR
theorem l_L_1208 {xs : Nat → Int32} {L : Nat} {rec : Nat → (Nat → Nat) → (Nat → Nat) → SG → RG → Int32 → Option Unit} {N : Nat} {K len : Nat → Nat} {σ : SG} {ρ : RG} {v3 : Int32} (hL : L ≤ 3072) (h0 : 0 ≤ v3.toInt) (h6 : v3.toInt + 6 ≤ (L : Int)) (hrec : LR rec v3) (hB : BX 8 σ) (hQ : PR N K len ρ) (hR : RA K σ ρ) : ok (F_L_1208 xs L rec N K len σ ρ v3) (fun _ => True) := by
  unfold F_L_1208
  refine ok_bnT (ok_kp (s_X11_image hB hQ) (image_11r hB hQ hR)) (fun r1 N1 K1 L1 σ1 ρ1 qr1 => ?_)
  have bσ1 : BX 8 σ1 := qr1.1.1
  have hρ1 : PR N1 K1 L1 ρ1 := qr1.1.2
  refine ok_bn2 (ok_kp (s_X12_image bσ1) im_12r) (fun r2 σ2 qr2 => ?_)
  have bσ2 : BX 8 σ2 := qr2.1.2
  obtain ⟨hE, Rσ2⟩ := image_ra hQ hR qr1.2 qr2.2
  refine ok_nm (fun x3 hx3 => ?_)
  exact hrec _ _ _ _ _ _ hx3 bσ2 hρ1 Rσ2
theorem l_L_1221 {xs : Nat → Int32} {L : Nat} {rec : Nat → (Nat → Nat) → (Nat → Nat) → SG → RG → Int32 → Option Unit} {N : Nat} {K len : Nat → Nat} {σ : SG} {ρ : RG} {v3 : Int32} (hL : L ≤ 3072) (h0 : 0 ≤ v3.toInt) (h6 : v3.toInt + 6 ≤ (L : Int)) (hrec : LR rec v3) (hB : BX 8 σ) (hQ : PR N K len ρ) (hR : RA K σ ρ) : ok (F_L_1221 xs L rec N K len σ ρ v3) (fun _ => True) := by
  unfold F_L_1221
  refine ok_bnT (ok_kp (s_X11_undo hB hQ) (undo_11r hB hQ hR)) (fun r1 N1 K1 L1 σ1 ρ1 qr1 => ?_)
  have bσ1 : BX 8 σ1 := qr1.1.1
  have hρ1 : PR N1 K1 L1 ρ1 := qr1.1.2
  refine ok_bn2 (ok_kp (s_X12_undo bσ1) (undo_ra hQ hR qr1.2)) (fun r2 σ2 qr2 => ?_)
  have bσ2 : BX 8 σ2 := qr2.1.2
  obtain ⟨hE, Rσ2⟩ := qr2.2
  refine ok_if (fun _ => ?_) (fun c => absurd hE c)
  refine ok_nm (fun x4 hx4 => ?_)
  exact hrec _ _ _ _ _ _ hx4 bσ2 hρ1 Rσ2
theorem l_L_1234 {xs : Nat → Int32} {L : Nat} {rec : Nat → (Nat → Nat) → (Nat → Nat) → SG → RG → Int32 → Option Unit} {N : Nat} {K len : Nat → Nat} {σ : SG} {ρ : RG} {v3 : Int32} (hL : L ≤ 3072) (h0 : 0 ≤ v3.toInt) (h6 : v3.toInt + 6 ≤ (L : Int)) (hrec : LR rec v3) (hB : BX 8 σ) (hQ : PR N K len ρ) (hR : RA K σ ρ) : ok (F_L_1234 xs L rec N K len σ ρ v3) (fun _ => True) := by
  unfold F_L_1234
  refine ok_nm (fun x1 hx1 => ?_)
  refine ok_gd (lx (k := 1) hL h0 h6 hx1 (by decide)) ?_
  refine ok_bn (s_X11_count hB hQ) (fun r3 qr3 => ?_)
  refine ok_nm (fun x4 hx4 => ?_)
  refine ok_gd (lx (k := 1) hL h0 h6 hx4 (by decide)) ?_
  refine ok_bn (s_X12_count hB) (fun r6 qr6 => ?_)
  refine ok_nm (fun x7 hx7 => ?_)
  exact hrec _ _ _ _ _ _ hx7 hB hQ hR
theorem l_L_18 {xs : Nat → Int32} {L : Nat} (hL : L ≤ 3072) : ∀ (n N : Nat) (K len : Nat → Nat) (σ : SG) (ρ : RG) (v3 : Int32), 0 ≤ v3.toInt → v3.toInt ≤ (L : Int) → (L : Int) - v3.toInt < 6 * (n : Int) → BX 8 σ → PR N K len ρ → RA K σ ρ → ok (F_L_18 xs L n N K len σ ρ v3) (fun _ => True) := by
  intro n
  induction n with
  | zero => intro N K len σ ρ v3 h0 h4 hm; omega
  | succ n ih =>
    intro N K len σ ρ v3 h0 h4 hm hB hQ hR
    have eL : (Int32.ofNat L).toInt = (L : Int) := Int32.toInt_ofNat_of_lt (by omega)
    have e6 : (6 : Int32).toInt = 6 := rfl
    unfold F_L_18
    refine ok_nm (fun x1 hx1 => ok_if (fun _ => ok_some trivial) (fun c => ?_))
    have e1 : x1.toInt = (L : Int) - 6 := by rw [hx1, ti_sub (by omega) (by omega), eL, e6]
    have c1 : ¬ x1.toInt < v3.toInt := fun q => c (Int32.lt_iff_toInt_lt.mpr q)
    have h6 : v3.toInt + 6 ≤ (L : Int) := by omega
    have hrec : LR (F_L_18 xs L n) v3 := fun N K len σ ρ x hx b q R => by
      have ex : x.toInt = v3.toInt + 6 := by rw [hx, ti_add (by omega) (by omega), e6]
      exact ih N K len σ ρ x (by omega) (by omega) (by omega) b q R
    refine ok_gd (decide_eq_true ⟨by omega, by omega⟩) (ok_nm (fun x2 _ => ?_))
    refine ok_if (fun _ => l_L_204 hL h0 h6 hrec hB hQ hR) (fun _ => ?_)
    refine ok_if (fun _ => l_L_227 hL h0 h6 hrec hB hQ hR) (fun _ => ?_)
    refine ok_if (fun _ => l_L_240 hL h0 h6 hrec hB hQ hR) (fun _ => ?_)
    refine ok_if (fun _ => l_L_303 hL h0 h6 hrec hB hQ hR) (fun _ => ?_)
    refine ok_if (fun _ => l_L_336 hL h0 h6 hrec hB hQ hR) (fun _ => ?_)
    refine ok_if (fun _ => l_L_369 hL h0 h6 hrec hB hQ hR) (fun _ => ?_)
    refine ok_if (fun _ => l_L_412 hL h0 h6 hrec hB hQ hR) (fun _ => ?_)
    refine ok_if (fun _ => l_L_435 hL h0 h6 hrec hB hQ hR) (fun _ => ?_)
    refine ok_if (fun _ => l_L_458 hL h0 h6 hrec hB hQ hR) (fun _ => ?_)
    refine ok_if (fun _ => l_L_481 hL h0 h6 hrec hB hQ hR) (fun _ => ?_)
    refine ok_if (fun _ => l_L_494 hL h0 h6 hrec hB hQ hR) (fun _ => ?_)
    refine ok_if (fun _ => l_L_533 hL h0 h6 hrec hB hQ hR) (fun _ => ?_)
    refine ok_if (fun _ => l_L_566 hL h0 h6 hrec hB hQ hR) (fun _ => ?_)
    refine ok_if (fun _ => l_L_599 hL h0 h6 hrec hB hQ hR) (fun _ => ?_)
    refine ok_if (fun _ => l_L_632 hL h0 h6 hrec hB hQ hR) (fun _ => ?_)
    refine ok_if (fun _ => l_L_645 hL h0 h6 hrec hB hQ hR) (fun _ => ?_)
    refine ok_if (fun _ => l_L_668 hL h0 h6 hrec hB hQ hR) (fun _ => ?_)
    refine ok_if (fun _ => l_L_681 hL h0 h6 hrec hB hQ hR) (fun _ => ?_)
    refine ok_if (fun _ => l_L_704 hL h0 h6 hrec hB hQ hR) (fun _ => ?_)
    refine ok_if (fun _ => l_L_737 hL h0 h6 hrec hB hQ hR) (fun _ => ?_)
    refine ok_if (fun _ => l_L_760 hL h0 h6 hrec hB hQ hR) (fun _ => ?_)
    refine ok_if (fun _ => l_L_783 hL h0 h6 hrec hB hQ hR) (fun _ => ?_)
    refine ok_if (fun _ => l_L_816 hL h0 h6 hrec hB hQ hR) (fun _ => ?_)
    refine ok_if (fun _ => l_L_869 hL h0 h6 hrec hB hQ hR) (fun _ => ?_)
    refine ok_if (fun _ => l_L_902 hL h0 h6 hrec hB hQ hR) (fun _ => ?_)
    refine ok_if (fun _ => l_L_935 hL h0 h6 hrec hB hQ hR) (fun _ => ?_)
    refine ok_if (fun _ => l_L_948 hL h0 h6 hrec hB hQ hR) (fun _ => ?_)
    refine ok_if (fun _ => l_L_971 hL h0 h6 hrec hB hQ hR) (fun _ => ?_)
    refine ok_if (fun _ => l_L_984 hL h0 h6 hrec hB hQ hR) (fun _ => ?_)
    refine ok_if (fun _ => l_L_1007 hL h0 h6 hrec hB hQ hR) (fun _ => ?_)
    refine ok_if (fun _ => l_L_1040 hL h0 h6 hrec hB hQ hR) (fun _ => ?_)
    refine ok_if (fun _ => l_L_1063 hL h0 h6 hrec hB hQ hR) (fun _ => ?_)
    refine ok_if (fun _ => l_L_1096 hL h0 h6 hrec hB hQ hR) (fun _ => ?_)
    refine ok_if (fun _ => l_L_1109 hL h0 h6 hrec hB hQ hR) (fun _ => ?_)
    refine ok_if (fun _ => l_L_1152 hL h0 h6 hrec hB hQ hR) (fun _ => ?_)
    refine ok_if (fun _ => l_L_1175 hL h0 h6 hrec hB hQ hR) (fun _ => ?_)
    refine ok_if (fun _ => l_L_1208 hL h0 h6 hrec hB hQ hR) (fun _ => ?_)
    refine ok_if (fun _ => l_L_1221 hL h0 h6 hrec hB hQ hR) (fun _ => ?_)
    refine ok_if (fun _ => l_L_1234 hL h0 h6 hrec hB hQ hR) (fun _ => ?_)
    exact ok_nm (fun x3 hx3 => hrec N K len σ ρ x3 hx3 hB hQ hR)
set_option maxRecDepth 100000 in
theorem ini_box : bndL.all (fun q => (List.range (q.2.2.1 + 1)).all (fun k => Nat.blt k q.2.1 || (decide (q.2.2.2.1 ≤ (ini2.1 q.1 k).toInt) && decide ((ini2.1 q.1 k).toInt ≤ q.2.2.2.2)))) = true := by decide +kernel
set_option maxRecDepth 100000 in
theorem ini_c : ini2.1 54 30 = 0 ∧ ini2.1 54 4 = 0 ∧ ini2.1 55 16 = -1 ∧ ini2.1 55 11 = 0 := by decide +kernel
set_option maxRecDepth 100000 in
theorem ini_n : (∀ j : Fin 6, ini2.2 2 j = none ∧ ini2.2 15 j = none) ∧ (ini2.2 29 8 = none ∨ ini2.2 29 8 = some 10) := by decide +kernel
theorem ini_BX : BX 8 ini2.1 := by
  obtain ⟨a, b, c, d⟩ := ini_c
  refine ⟨fun q hq k h1 h2 => ?_, by rw [a]; exact ⟨by decide, by decide⟩, ⟨fun h hh => ?_, fun k hk => ?_⟩, Or.inl b⟩
  · have h := List.all_eq_true.mp ini_box q hq
    have h := List.all_eq_true.mp h k (List.mem_range.mpr (by omega))
    simp only [Bool.or_eq_true, Bool.and_eq_true, decide_eq_true_eq, Nat.blt_eq] at h
    rcases h with h | h
    · omega
    · exact h
  · rw [c] at hh
    have : (-1 : Int32).toInt = -1 := rfl
    omega
  · rw [d] at hk
    have : (0 : Int32).toInt = 0 := rfl
    omega
theorem ini_PR : PR 65 kind0 len0 ini2.2 := by
  obtain ⟨a, b⟩ := ini_n
  exact ⟨ini_Lay, ini2_k.1, fun j c hj h => (by rw [(a ⟨j, hj⟩).1] at h; cases h), fun j c hj h => (by rw [(a ⟨j, hj⟩).2] at h; cases h), b⟩
set_option maxRecDepth 100000 in
theorem ini_RA : RA kind0 ini2.1 ini2.2 := by
  have h : ini2.1 1 1 = ini2.1 55 11 ∧ ini2.1 1 10 = ini2.1 55 13 ∧ ini2.1 1 13 = ini2.1 55 14 ∧ ini2.1 3 0 = ini2.1 55 17 ∧ ini2.1 0 2 = 0 ∧ ini2.1 1 1 = 0 := by decide +kernel
  obtain ⟨h1, h2, h3, h4, h5, h6⟩ := h
  have n : ∀ a j, (a = 2 ∨ a = 15) → j < 6 → ini2.2 a j = none := fun a j ha hj => by
    rcases ha with rfl | rfl
    · exact (ini_n.1 ⟨j, hj⟩).1
    · exact (ini_n.1 ⟨j, hj⟩).2
  refine ⟨⟨h1, h2, h3, h4⟩, fun j hj => ⟨⟨fun _ => by rw [h6]; have : (0 : Int32).toInt = 0 := rfl; omega, fun _ => n 2 j (Or.inl rfl) hj⟩, fun c hc => by rw [n 2 j (Or.inl rfl) hj] at hc; cases hc⟩, ⟨fun a j a' j' c ha ha' hj hj' h _ => (by rw [n a j ha hj] at h; cases h), fun a j a' j' c c' d ha ha' hj hj' h _ _ _ _ _ => (by rw [n a j ha hj] at h; cases h)⟩, ⟨fun _ => ini_c.2.1, fun _ => h5⟩, fun z => absurd ini_c.2.1 z⟩
theorem law_pure {xs : Nat → Int32} {L : Nat} (hL : L ≤ 3072) : F_L_18 xs L 513 65 kind0 len0 ini2.1 ini2.2 0 = some () := by
  obtain ⟨u, e, -⟩ := l_L_18 (xs := xs) hL 513 65 kind0 len0 ini2.1 ini2.2 0 (by decide) (by have : (0 : Int32).toInt = 0 := rfl; omega) (by have : (0 : Int32).toInt = 0 := rfl; omega) ini_BX ini_PR ini_RA
  exact e
