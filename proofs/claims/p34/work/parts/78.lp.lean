/-! PART 78.lp: printed by wip/gen/lpr8.py: the law's loop answers on every script, class and reference side by side -/
theorem kp_self {α : Type} {o : Option α} : kp o (fun q => o = some q) := fun _ e => e
theorem lx {L k : Nat} {v3 x : Int32} (hL : L ≤ 3072) (h0 : 0 ≤ v3.toInt) (h6 : v3.toInt + 6 ≤ (L : Int)) (hx : x = v3 + Int32.ofNat k) (hk : k < 6) : inb x L = true := by
  have e : (Int32.ofNat k).toInt = (k : Int) := Int32.toInt_ofNat_of_lt (by omega)
  have ex : x.toInt = v3.toInt + k := by rw [hx, ti_add (by omega) (by omega), e]
  exact decide_eq_true ⟨by omega, by omega⟩
theorem lss_bd {σ τ : SG} {ρ ρ' : RG} (h : ρ' = ρ ∨ ρ' = r2 ρ 29 8 (some 10)) (l : LSS σ τ ρ) : LSS σ τ ρ' := by
  have e : ∀ a, a ≠ 29 → ρ' a = ρ a := fun a n => by
    rcases h with h | h
    · rw [h]
    · rw [h, r2_ne a n]
  exact ⟨ld_rho l.1 (fun j _ => by rw [e 2 (by decide)]), l.2.1, fun n => ld_rho (l.2.2 n) (fun j _ => by rw [e 15 (by decide)])⟩
def RZ (K : Nat → Nat) (σ : SG) (ρ : RG) : Prop := RA K σ ρ ∧ RB σ ∧ TRC 8 σ σ ∧ LSS σ σ ρ ∧ BKS σ
def LR (rec : Nat → (Nat → Nat) → (Nat → Nat) → SG → RG → Int32 → Option Unit) (v3 : Int32) : Prop := ∀ (N : Nat) (K len : Nat → Nat) (σ : SG) (ρ : RG) (x : Int32), x = v3 + (6 : Int32) → BX 8 σ → PR N K len ρ → RZ K σ ρ → ok (rec N K len σ ρ x) (fun _ => True)
theorem l_L_204 {xs : Nat → Int32} {L : Nat} {rec : Nat → (Nat → Nat) → (Nat → Nat) → SG → RG → Int32 → Option Unit} {N : Nat} {K len : Nat → Nat} {σ : SG} {ρ : RG} {v3 : Int32} (hL : L ≤ 3072) (h0 : 0 ≤ v3.toInt) (h6 : v3.toInt + 6 ≤ (L : Int)) (hrec : LR rec v3) (hB : BX 8 σ) (hQ : PR N K len ρ) (hR : RZ K σ ρ) : ok (F_L_204 xs L rec N K len σ ρ v3) (fun _ => True) := by
  unfold F_L_204
  refine ok_nm (fun x1 hx1 => ?_)
  refine ok_gd (lx (k := 1) hL h0 h6 hx1 (by decide)) ?_
  refine ok_bn2 (ok_kp (ok_kp (ok_kp (s_X11_feed hB hQ) (kk_X11_feed hQ.1)) (kp_and kp_self (kp_and (kt_X11_feed hQ.1) (kx_X11_feed hQ.1)))) feed_11l) (fun r3 σ3 zqr3 => ?_)
  obtain ⟨qr3, nqr3⟩ := zqr3
  have bσ3 : BX 8 σ3 := qr3.1.1.2
  have Rσ3 : RA K σ3 ρ := ra_c hQ qr3.1.2 hR.1
  refine ok_nm (fun x4 hx4 => ?_)
  refine ok_gd (lx (k := 1) hL h0 h6 hx4 (by decide)) ?_
  refine ok_bn2 (ok_kp (ok_kp (ok_kp (ok_kp (s_X12_feed bσ3) (kr_X12_feed hQ.1)) (feed_12k bσ3)) (kp_and kp_self (ks_X12_feed hQ.1))) (kp_and (feed_12l bσ3) (kf_X12_feed hQ.1))) (fun r6 σ6 zqr6 => ?_)
  obtain ⟨qr6, nqr6⟩ := zqr6
  have bσ6 : BX 8 σ6 := qr6.1.1.1.2
  have Rσ6 : RA K σ6 ρ := ra_r hQ qr6.1.1.2 qr6.1.2 Rσ3
  obtain ⟨hE, Bσ6⟩ := rb_feed hB hR.2.1 qr3.2.1 qr6.1.1.2 qr6.2.1 (by rw [hx4, hx1])
  have Tσ6 : TRC 8 σ6 σ6 := tr_call2 hR.2.2.1 qr3.2.2.2 qr3.2.2.1 qr6.1.1.2 qr6.2.2
  have Lσ6 : LSS σ6 σ6 ρ := lss_call hQ hR.2.2.2.1 nqr3 qr3.2.2.2 qr6.1.1.2 (lv_ks qr6.1.1.2 nqr6.1 nqr6.2)
  have Kσ6 : BKS σ6 := bks_call hR.2.2.2.2 qr3.2.2.2 qr6.1.1.2 (fun k z => (bq_lv z).elim (fun y => qr6.1.2 k (by rw [y]; rfl)) (nqr6.1 k))
  refine ok_nm (fun x7 hx7 => ?_)
  exact hrec _ _ _ _ _ _ hx7 bσ6 hQ ⟨Rσ6, Bσ6, Tσ6, Lσ6, Kσ6⟩
theorem l_L_227 {xs : Nat → Int32} {L : Nat} {rec : Nat → (Nat → Nat) → (Nat → Nat) → SG → RG → Int32 → Option Unit} {N : Nat} {K len : Nat → Nat} {σ : SG} {ρ : RG} {v3 : Int32} (hL : L ≤ 3072) (h0 : 0 ≤ v3.toInt) (h6 : v3.toInt + 6 ≤ (L : Int)) (hrec : LR rec v3) (hB : BX 8 σ) (hQ : PR N K len ρ) (hR : RZ K σ ρ) : ok (F_L_227 xs L rec N K len σ ρ v3) (fun _ => True) := by
  unfold F_L_227
  refine ok_bn3 (ok_kp (ok_kp (ok_kp (ok_kp (s_X11_board hB hQ) (kk_X11_board hB hQ)) bd_rho) (kp_and kp_self (kp_and (kt_board hQ.1) (kx_board hQ.1)))) (board_11l hQ.1)) (fun r1 σ1 ρ1 zqr1 => ?_)
  obtain ⟨qr1, nqr1⟩ := zqr1
  have bσ1 : BX 8 σ1 := qr1.1.1.1.1
  have hρ1 : PR N K len ρ1 := qr1.1.1.1.2
  have Rσ1 : RA K σ1 ρ1 := ra_bd hQ qr1.1.2 (ra_c hQ qr1.1.1.2 hR.1)
  refine ok_bn2 (ok_kp (ok_kp (ok_kp (s_X12_board bσ1) (kr_X12_board hρ1.1)) (kp_and kp_self (ks_X12_board hρ1.1))) (kf_X12_board hρ1.1)) (fun r2 σ2 zqr2 => ?_)
  obtain ⟨qr2, nqr2⟩ := zqr2
  have bσ2 : BX 8 σ2 := qr2.1.1.1
  have Rσ2 : RA K σ2 ρ1 := ra_r hρ1 qr2.1.2 (fun k z => qr2.1.1.2 k (by have := raK_11 z; omega) (raK_11 z).2.2.2.1 (raK_11 z).2.2.1 (raK_11 z).2.2.2.2.1) Rσ1
  obtain ⟨hE, Bσ2⟩ := rb_board hB hQ hR.2.1 qr1.2.1 qr2.1.2 qr2.2.1
  have Tσ2 : TRC 8 σ2 σ2 := tr_call2 hR.2.2.1 qr1.2.2.2 qr1.2.2.1 qr2.1.2 qr2.2.2
  have Lσ2 : LSS σ2 σ2 ρ1 := lss_bd qr1.1.2 (lss_call hQ hR.2.2.2.1 nqr1 qr1.2.2.2 qr2.1.2 (lv_ks qr2.1.2 (fun k z => qr2.1.1.2 k (by have := lv94 z; omega) (by unfold LV at z; omega) (by unfold LV at z; omega) (by unfold LV at z; omega)) nqr2))
  have Kσ2 : BKS σ2 := bks_call hR.2.2.2.2 qr1.2.2.2 qr2.1.2 (fun k z => qr2.1.1.2 k (by unfold bq at z; omega) (by unfold bq at z; omega) (by unfold bq at z; omega) (by unfold bq at z; omega))
  refine ok_nm (fun x3 hx3 => ?_)
  exact hrec _ _ _ _ _ _ hx3 bσ2 hρ1 ⟨Rσ2, Bσ2, Tσ2, Lσ2, Kσ2⟩
theorem l_L_240 {xs : Nat → Int32} {L : Nat} {rec : Nat → (Nat → Nat) → (Nat → Nat) → SG → RG → Int32 → Option Unit} {N : Nat} {K len : Nat → Nat} {σ : SG} {ρ : RG} {v3 : Int32} (hL : L ≤ 3072) (h0 : 0 ≤ v3.toInt) (h6 : v3.toInt + 6 ≤ (L : Int)) (hrec : LR rec v3) (hB : BX 8 σ) (hQ : PR N K len ρ) (hR : RZ K σ ρ) : ok (F_L_240 xs L rec N K len σ ρ v3) (fun _ => True) := by
  unfold F_L_240
  refine ok_nm (fun x1 hx1 => ?_)
  refine ok_gd (lx (k := 1) hL h0 h6 hx1 (by decide)) ?_
  refine ok_nm (fun x3 hx3 => ?_)
  refine ok_gd (lx (k := 2) hL h0 h6 hx3 (by decide)) ?_
  refine ok_nm (fun x5 hx5 => ?_)
  refine ok_gd (lx (k := 3) hL h0 h6 hx5 (by decide)) ?_
  refine ok_nm (fun x7 hx7 => ?_)
  refine ok_gd (lx (k := 4) hL h0 h6 hx7 (by decide)) ?_
  refine ok_nm (fun x9 hx9 => ?_)
  refine ok_gd (lx (k := 5) hL h0 h6 hx9 (by decide)) ?_
  refine ok_bnT (ok_kp (ok_kp (s_X11_cutter hB hQ) (cutter_11r (c11 hB) hQ)) (cutter_11e hQ.1.1)) (fun r11 N11 K11 L11 σ11 ρ11 zqr11 => ?_)
  obtain ⟨qr11, nqr11⟩ := zqr11
  have bσ11 : BX 8 σ11 := qr11.1.1
  have hρ11 : PR N11 K11 L11 ρ11 := qr11.1.2
  refine ok_nm (fun x12 hx12 => ?_)
  refine ok_gd (lx (k := 1) hL h0 h6 hx12 (by decide)) ?_
  refine ok_nm (fun x14 hx14 => ?_)
  refine ok_gd (lx (k := 2) hL h0 h6 hx14 (by decide)) ?_
  refine ok_nm (fun x16 hx16 => ?_)
  refine ok_gd (lx (k := 3) hL h0 h6 hx16 (by decide)) ?_
  refine ok_nm (fun x18 hx18 => ?_)
  refine ok_gd (lx (k := 4) hL h0 h6 hx18 (by decide)) ?_
  refine ok_nm (fun x20 hx20 => ?_)
  refine ok_gd (lx (k := 5) hL h0 h6 hx20 (by decide)) ?_
  refine ok_bn2 (ok_kp (ok_kp (ok_kp (ok_kp (s_X12_cutter bσ11) (kr_X12_cutter hρ11.1)) (cutter_12r (c55 bσ11))) (kp_and (fb_cutter (c55 bσ11)) (ks_X12_cutter hρ11.1))) (kp_and (cutter_12e (c55 bσ11)) (kf_X12_cutter hρ11.1))) (fun r22 σ22 zqr22 => ?_)
  obtain ⟨qr22, nqr22⟩ := zqr22
  have bσ22 : BX 8 σ22 := qr22.1.1.1.2
  obtain ⟨hE, Rσ22⟩ := cutter_ra (c11 hB) hQ hR.1 qr11.2 qr22.1.2 qr22.1.1.2 (by rw [hx12, hx1]) (by rw [hx14, hx3]) (by rw [hx16, hx5]) (by rw [hx18, hx7]) (by rw [hx20, hx9])
  have Bσ22 : RB σ22 := rb_cutter (c11 hB) hQ hR.2.1 qr11.2 qr22.1.1.2 qr22.2.1
  have Tσ22 : TRC 8 σ22 σ22 := tr_cutter (c11 hB) hQ hR.2.2.1 qr11.2 qr22.1.1.2 qr22.2.2
  have Lσ22 : LSS σ22 σ22 ρ11 := cutter_l (c11 hB) hQ hR.1 hR.2.2.2.1 qr11.2 nqr11 qr22.1.2 nqr22.1 qr22.1.1.2 nqr22.2 (by rw [hx12, hx1]) (by rw [hx14, hx3]) (by rw [hx16, hx5]) (by rw [hx18, hx7]) (by rw [hx20, hx9])
  have Kσ22 : BKS σ22 := bks_cutter (c11 hB) hQ hR.2.2.2.2 qr11.2 (c55 bσ11) qr22.1.2 qr22.1.1.2
  refine ok_nm (fun x23 hx23 => ?_)
  exact hrec _ _ _ _ _ _ hx23 bσ22 hρ11 ⟨Rσ22, Bσ22, Tσ22, Lσ22, Kσ22⟩
theorem l_L_303 {xs : Nat → Int32} {L : Nat} {rec : Nat → (Nat → Nat) → (Nat → Nat) → SG → RG → Int32 → Option Unit} {N : Nat} {K len : Nat → Nat} {σ : SG} {ρ : RG} {v3 : Int32} (hL : L ≤ 3072) (h0 : 0 ≤ v3.toInt) (h6 : v3.toInt + 6 ≤ (L : Int)) (hrec : LR rec v3) (hB : BX 8 σ) (hQ : PR N K len ρ) (hR : RZ K σ ρ) : ok (F_L_303 xs L rec N K len σ ρ v3) (fun _ => True) := by
  unfold F_L_303
  refine ok_nm (fun x1 hx1 => ?_)
  refine ok_gd (lx (k := 1) hL h0 h6 hx1 (by decide)) ?_
  refine ok_nm (fun x3 hx3 => ?_)
  refine ok_gd (lx (k := 2) hL h0 h6 hx3 (by decide)) ?_
  refine ok_bn (ok_kp (s_X11_of hB hQ) (of_l (ρ' := ρ) hQ hR.2.2.2.1 hR.1 (c11 hB))) (fun r5 qr5 => ?_)
  refine ok_nm (fun x6 hx6 => ?_)
  refine ok_gd (lx (k := 1) hL h0 h6 hx6 (by decide)) ?_
  refine ok_nm (fun x8 hx8 => ?_)
  refine ok_gd (lx (k := 2) hL h0 h6 hx8 (by decide)) ?_
  refine ok_bn (ok_kp (s_X12_of hB) (show kp _ (fun z => r5 = z) from by rw [hx6, hx8, ← hx1, ← hx3]; exact qr5.2)) (fun r10 qr10 => ?_)
  refine ok_nm (fun x11 hx11 => ?_)
  exact hrec _ _ _ _ _ _ hx11 hB hQ ⟨hR.1, hR.2.1, hR.2.2.1, hR.2.2.2.1, hR.2.2.2.2⟩
theorem l_L_336 {xs : Nat → Int32} {L : Nat} {rec : Nat → (Nat → Nat) → (Nat → Nat) → SG → RG → Int32 → Option Unit} {N : Nat} {K len : Nat → Nat} {σ : SG} {ρ : RG} {v3 : Int32} (hL : L ≤ 3072) (h0 : 0 ≤ v3.toInt) (h6 : v3.toInt + 6 ≤ (L : Int)) (hrec : LR rec v3) (hB : BX 8 σ) (hQ : PR N K len ρ) (hR : RZ K σ ρ) : ok (F_L_336 xs L rec N K len σ ρ v3) (fun _ => True) := by
  unfold F_L_336
  refine ok_nm (fun x1 hx1 => ?_)
  refine ok_gd (lx (k := 1) hL h0 h6 hx1 (by decide)) ?_
  refine ok_nm (fun x3 hx3 => ?_)
  refine ok_gd (lx (k := 2) hL h0 h6 hx3 (by decide)) ?_
  refine ok_bn2 (ok_kp (ok_kp (ok_kp (s_X11_thick hB hQ) (thick_11 (c11 hB) hR.1)) (kp_and (kb_X11_thick hQ.1) (kp_and (kt_X11_thick hQ.1) (kx_X11_thick hQ.1)))) (thick_l hQ hR.2.2.2.1 hR.1 (c11 hB))) (fun r5 σ5 zqr5 => ?_)
  obtain ⟨qr5, nqr5⟩ := zqr5
  have bσ5 : BX 8 σ5 := qr5.1.1.2
  refine ok_nm (fun x6 hx6 => ?_)
  refine ok_gd (lx (k := 1) hL h0 h6 hx6 (by decide)) ?_
  refine ok_nm (fun x8 hx8 => ?_)
  refine ok_gd (lx (k := 2) hL h0 h6 hx8 (by decide)) ?_
  refine ok_bn2 (ok_kp (ok_kp (ok_kp (ok_kp (s_X12_thick bσ5) (kr_X12_thick hQ.1)) (thick_12 (c55 bσ5))) (kp_and (fb_thick (c55 bσ5)) (ks_X12_thick hQ.1))) (kp_and (show kp _ (fun z => LSS σ5 z.2 ρ) from by rw [hx6, hx8, ← hx1, ← hx3]; exact nqr5 σ5 ρ (rt_kx qr5.2.2.2)) (fq_thick (c55 bσ5)))) (fun r10 σ10 zqr10 => ?_)
  obtain ⟨qr10, nqr10⟩ := zqr10
  obtain ⟨nqr10, mqr10⟩ := nqr10
  have bσ10 : BX 8 σ10 := qr10.1.1.1.2
  obtain ⟨hE, Rσ10⟩ := thick_ra hQ hR.1 qr5.1.2 qr10.1.2 (by rw [hx6, hx1]) (by rw [hx8, hx3])
  have Bσ10 : RB σ10 := rb_call2 hR.2.1 qr5.2.1 qr5.2.2.2 qr10.1.1.2 qr10.2.1
  have Tσ10 : TRC 8 σ10 σ10 := tr_call2 hR.2.2.1 qr5.2.2.2 qr5.2.2.1 qr10.1.1.2 qr10.2.2
  have Lσ10 : LSS σ10 σ10 ρ := lss_sim hQ nqr10 qr10.1.1.2
  have Kσ10 : BKS σ10 := bks_call hR.2.2.2.2 qr5.2.2.2 qr10.1.1.2 (fun k z => mqr10 k (bq_lt z) z)
  refine ok_nm (fun x11 hx11 => ?_)
  exact hrec _ _ _ _ _ _ hx11 bσ10 hQ ⟨Rσ10, Bσ10, Tσ10, Lσ10, Kσ10⟩
theorem l_L_369 {xs : Nat → Int32} {L : Nat} {rec : Nat → (Nat → Nat) → (Nat → Nat) → SG → RG → Int32 → Option Unit} {N : Nat} {K len : Nat → Nat} {σ : SG} {ρ : RG} {v3 : Int32} (hL : L ≤ 3072) (h0 : 0 ≤ v3.toInt) (h6 : v3.toInt + 6 ≤ (L : Int)) (hrec : LR rec v3) (hB : BX 8 σ) (hQ : PR N K len ρ) (hR : RZ K σ ρ) : ok (F_L_369 xs L rec N K len σ ρ v3) (fun _ => True) := by
  unfold F_L_369
  refine ok_nm (fun x1 hx1 => ?_)
  refine ok_gd (lx (k := 1) hL h0 h6 hx1 (by decide)) ?_
  refine ok_nm (fun x3 hx3 => ?_)
  refine ok_gd (lx (k := 2) hL h0 h6 hx3 (by decide)) ?_
  refine ok_nm (fun x5 hx5 => ?_)
  refine ok_gd (lx (k := 3) hL h0 h6 hx5 (by decide)) ?_
  refine ok_bn2 (ok_kp (ok_kp (ok_kp (s_X11_row hB hQ) (row_11 hQ (c11 hB) hR.1)) (kp_and (kb_X11_row hQ.1) (kp_and (kt_X11_row hQ.1) (kx_X11_row hQ.1)))) (row_l hQ hR.2.2.2.1 hR.1 (c11 hB))) (fun r7 σ7 zqr7 => ?_)
  obtain ⟨qr7, nqr7⟩ := zqr7
  have bσ7 : BX 8 σ7 := qr7.1.1.2
  refine ok_nm (fun x8 hx8 => ?_)
  refine ok_gd (lx (k := 1) hL h0 h6 hx8 (by decide)) ?_
  refine ok_nm (fun x10 hx10 => ?_)
  refine ok_gd (lx (k := 2) hL h0 h6 hx10 (by decide)) ?_
  refine ok_nm (fun x12 hx12 => ?_)
  refine ok_gd (lx (k := 3) hL h0 h6 hx12 (by decide)) ?_
  refine ok_bn2 (ok_kp (ok_kp (ok_kp (ok_kp (s_X12_row bσ7) (kr_X12_row hQ.1)) (row_12 (c55 bσ7))) (kp_and (fb_row (c55 bσ7)) (ks_X12_row hQ.1))) (kp_and (show kp _ (fun z => LSS σ7 z.2 ρ) from by rw [hx8, hx10, hx12, ← hx1, ← hx3, ← hx5]; exact nqr7 σ7 ρ (rt_kx qr7.2.2.2)) (fq_row (c55 bσ7)))) (fun r14 σ14 zqr14 => ?_)
  obtain ⟨qr14, nqr14⟩ := zqr14
  obtain ⟨nqr14, mqr14⟩ := nqr14
  have bσ14 : BX 8 σ14 := qr14.1.1.1.2
  obtain ⟨hE, Rσ14⟩ := row_ra hQ hR.1 qr7.1.2 qr14.1.2 (by rw [hx8, hx1]) (by rw [hx10, hx3]) (by rw [hx12, hx5])
  have Bσ14 : RB σ14 := rb_call2 hR.2.1 qr7.2.1 qr7.2.2.2 qr14.1.1.2 qr14.2.1
  have Tσ14 : TRC 8 σ14 σ14 := tr_call2 hR.2.2.1 qr7.2.2.2 qr7.2.2.1 qr14.1.1.2 qr14.2.2
  have Lσ14 : LSS σ14 σ14 ρ := lss_sim hQ nqr14 qr14.1.1.2
  have Kσ14 : BKS σ14 := bks_call hR.2.2.2.2 qr7.2.2.2 qr14.1.1.2 (fun k z => mqr14 k (bq_lt z) z)
  refine ok_nm (fun x15 hx15 => ?_)
  exact hrec _ _ _ _ _ _ hx15 bσ14 hQ ⟨Rσ14, Bσ14, Tσ14, Lσ14, Kσ14⟩
theorem l_L_412 {xs : Nat → Int32} {L : Nat} {rec : Nat → (Nat → Nat) → (Nat → Nat) → SG → RG → Int32 → Option Unit} {N : Nat} {K len : Nat → Nat} {σ : SG} {ρ : RG} {v3 : Int32} (hL : L ≤ 3072) (h0 : 0 ≤ v3.toInt) (h6 : v3.toInt + 6 ≤ (L : Int)) (hrec : LR rec v3) (hB : BX 8 σ) (hQ : PR N K len ρ) (hR : RZ K σ ρ) : ok (F_L_412 xs L rec N K len σ ρ v3) (fun _ => True) := by
  unfold F_L_412
  refine ok_nm (fun x1 hx1 => ?_)
  refine ok_gd (lx (k := 1) hL h0 h6 hx1 (by decide)) ?_
  refine ok_bn2 (ok_kp (ok_kp (ok_kp (s_X11_loaf hB hQ) loaf_11) (kp_and (kb_X11_loaf hQ.1) (kp_and (kt_X11_loaf hQ.1) (kx_X11_loaf hQ.1)))) (loaf_l hQ hR.2.2.2.1)) (fun r3 σ3 zqr3 => ?_)
  obtain ⟨qr3, nqr3⟩ := zqr3
  have bσ3 : BX 8 σ3 := qr3.1.1.2
  refine ok_nm (fun x4 hx4 => ?_)
  refine ok_gd (lx (k := 1) hL h0 h6 hx4 (by decide)) ?_
  refine ok_bn2 (ok_kp (ok_kp (ok_kp (ok_kp (s_X12_loaf bσ3) (kr_X12_loaf hQ.1)) loaf_12) (kp_and fb_loaf (ks_X12_loaf hQ.1))) (kp_and (show kp _ (fun z => LSS σ3 z.2 ρ) from by rw [hx4, ← hx1]; exact nqr3 σ3 ρ (rt_kx qr3.2.2.2)) fq_loaf)) (fun r6 σ6 zqr6 => ?_)
  obtain ⟨qr6, nqr6⟩ := zqr6
  obtain ⟨nqr6, mqr6⟩ := nqr6
  have bσ6 : BX 8 σ6 := qr6.1.1.1.2
  obtain ⟨hE, Rσ6⟩ := loaf_ra hQ hR.1 qr3.1.2 qr6.1.2 qr6.1.1.2 (by rw [hx4, hx1])
  have Bσ6 : RB σ6 := rb_call2 hR.2.1 qr3.2.1 qr3.2.2.2 qr6.1.1.2 qr6.2.1
  have Tσ6 : TRC 8 σ6 σ6 := tr_call2 hR.2.2.1 qr3.2.2.2 qr3.2.2.1 qr6.1.1.2 qr6.2.2
  have Lσ6 : LSS σ6 σ6 ρ := lss_sim hQ nqr6 qr6.1.1.2
  have Kσ6 : BKS σ6 := bks_call hR.2.2.2.2 qr3.2.2.2 qr6.1.1.2 (fun k z => mqr6 k (bq_lt z) z)
  refine ok_nm (fun x7 hx7 => ?_)
  exact hrec _ _ _ _ _ _ hx7 bσ6 hQ ⟨Rσ6, Bσ6, Tσ6, Lσ6, Kσ6⟩
theorem l_L_435 {xs : Nat → Int32} {L : Nat} {rec : Nat → (Nat → Nat) → (Nat → Nat) → SG → RG → Int32 → Option Unit} {N : Nat} {K len : Nat → Nat} {σ : SG} {ρ : RG} {v3 : Int32} (hL : L ≤ 3072) (h0 : 0 ≤ v3.toInt) (h6 : v3.toInt + 6 ≤ (L : Int)) (hrec : LR rec v3) (hB : BX 8 σ) (hQ : PR N K len ρ) (hR : RZ K σ ρ) : ok (F_L_435 xs L rec N K len σ ρ v3) (fun _ => True) := by
  unfold F_L_435
  refine ok_nm (fun x1 hx1 => ?_)
  refine ok_gd (lx (k := 1) hL h0 h6 hx1 (by decide)) ?_
  refine ok_bn (ok_kp (s_X11_told hB hQ) (told_l (ρ' := ρ) hR.2.2.2.1 hR.1 hR.2.1)) (fun r3 qr3 => ?_)
  refine ok_nm (fun x4 hx4 => ?_)
  refine ok_gd (lx (k := 1) hL h0 h6 hx4 (by decide)) ?_
  refine ok_bn (ok_kp (s_X12_told (bf_x hB)) (show kp _ (fun z => r3 = z) from by rw [hx4, ← hx1]; exact qr3.2)) (fun r6 qr6 => ?_)
  refine ok_nm (fun x7 hx7 => ?_)
  exact hrec _ _ _ _ _ _ hx7 hB hQ ⟨hR.1, hR.2.1, hR.2.2.1, hR.2.2.2.1, hR.2.2.2.2⟩
theorem l_L_458 {xs : Nat → Int32} {L : Nat} {rec : Nat → (Nat → Nat) → (Nat → Nat) → SG → RG → Int32 → Option Unit} {N : Nat} {K len : Nat → Nat} {σ : SG} {ρ : RG} {v3 : Int32} (hL : L ≤ 3072) (h0 : 0 ≤ v3.toInt) (h6 : v3.toInt + 6 ≤ (L : Int)) (hrec : LR rec v3) (hB : BX 8 σ) (hQ : PR N K len ρ) (hR : RZ K σ ρ) : ok (F_L_458 xs L rec N K len σ ρ v3) (fun _ => True) := by
  unfold F_L_458
  refine ok_nm (fun x1 hx1 => ?_)
  refine ok_gd (lx (k := 1) hL h0 h6 hx1 (by decide)) ?_
  refine ok_bn2 (ok_kp (ok_kp (ok_kp (s_X11_cut hB hQ) (kk_X11_cut hQ.1)) (kp_and (kb_X11_cut hQ.1) (kp_and (kt_X11_cut hQ.1) (kp_mono (kk_X11_cut hQ.1) (fun _ z => kx_of z))))) (cut_l hQ hR.2.2.2.1 hR.1 hR.2.1 (c11 hB))) (fun r3 σ3 zqr3 => ?_)
  obtain ⟨qr3, nqr3⟩ := zqr3
  have bσ3 : BX 8 σ3 := qr3.1.1.2
  have Rσ3 : RA K σ3 ρ := ra_c hQ qr3.1.2 hR.1
  refine ok_nm (fun x4 hx4 => ?_)
  refine ok_gd (lx (k := 1) hL h0 h6 hx4 (by decide)) ?_
  refine ok_bn2 (ok_kp (ok_kp (ok_kp (s_X12_cut (bf_x bσ3)) (kr_X12_cut hQ.1)) (ks_X12_cut hQ.1)) (show kp _ (fun z => r3 = z.1 ∧ LSS σ3 z.2 ρ) from by rw [hx4, ← hx1]; exact nqr3 σ3 ρ (rt_kx qr3.2.2.2))) (fun r6 σ6 zqr6 => ?_)
  obtain ⟨qr6, nqr6⟩ := zqr6
  have bσ6 : BX 8 σ6 := qr6.1.1.2.1
  have Rσ6 : RA K σ6 ρ := ra_bf hQ qr6.1.2 qr6.1.1.2 Rσ3
  have Bσ6 : RB σ6 := rb_call2 hR.2.1 qr3.2.1 qr3.2.2.2 qr6.1.2 (fun k _ z => qr6.1.1.2.2 k (bc_11 z).1)
  have Tσ6 : TRC 8 σ6 σ6 := tr_call2 hR.2.2.1 qr3.2.2.2 qr3.2.2.1 qr6.1.2 qr6.2
  have hE : r3 = r6 := nqr6.1
  have Lσ6 : LSS σ6 σ6 ρ := lss_sim hQ nqr6.2 qr6.1.2
  have Kσ6 : BKS σ6 := bks_call hR.2.2.2.2 qr3.2.2.2 qr6.1.2 (fun k z => qr6.1.1.2.2 k (by unfold bq at z; omega))
  refine ok_nm (fun x7 hx7 => ?_)
  exact hrec _ _ _ _ _ _ hx7 bσ6 hQ ⟨Rσ6, Bσ6, Tσ6, Lσ6, Kσ6⟩
theorem l_L_481 {xs : Nat → Int32} {L : Nat} {rec : Nat → (Nat → Nat) → (Nat → Nat) → SG → RG → Int32 → Option Unit} {N : Nat} {K len : Nat → Nat} {σ : SG} {ρ : RG} {v3 : Int32} (hL : L ≤ 3072) (h0 : 0 ≤ v3.toInt) (h6 : v3.toInt + 6 ≤ (L : Int)) (hrec : LR rec v3) (hB : BX 8 σ) (hQ : PR N K len ρ) (hR : RZ K σ ρ) : ok (F_L_481 xs L rec N K len σ ρ v3) (fun _ => True) := by
  unfold F_L_481
  refine ok_bn2 (ok_kp (ok_kp (ok_kp (s_X11_right hB hQ) (kk_X11_right hQ.1)) (kp_and (kb_X11_right hQ.1) (kp_and (kt_X11_right hQ.1) (kp_mono (kk_X11_right hQ.1) (fun _ z => kx_of z))))) (right_l hQ hR.2.2.2.1 hR.2.1)) (fun r1 σ1 zqr1 => ?_)
  obtain ⟨qr1, nqr1⟩ := zqr1
  have bσ1 : BX 8 σ1 := qr1.1.1.2
  have Rσ1 : RA K σ1 ρ := ra_c hQ qr1.1.2 hR.1
  refine ok_bn2 (ok_kp (ok_kp (ok_kp (s_X12_right (bf_x bσ1)) (kr_X12_right hQ.1)) (ks_X12_right hQ.1)) (show kp _ (fun z => r1 = z.1 ∧ LSS σ1 z.2 ρ) from nqr1 σ1 ρ (rt_kx qr1.2.2.2))) (fun r2 σ2 zqr2 => ?_)
  obtain ⟨qr2, nqr2⟩ := zqr2
  have bσ2 : BX 8 σ2 := qr2.1.1.2.1
  have Rσ2 : RA K σ2 ρ := ra_bf hQ qr2.1.2 qr2.1.1.2 Rσ1
  have Bσ2 : RB σ2 := rb_call2 hR.2.1 qr1.2.1 qr1.2.2.2 qr2.1.2 (fun k _ z => qr2.1.1.2.2 k (bc_11 z).1)
  have Tσ2 : TRC 8 σ2 σ2 := tr_call2 hR.2.2.1 qr1.2.2.2 qr1.2.2.1 qr2.1.2 qr2.2
  have hE : r1 = r2 := nqr2.1
  have Lσ2 : LSS σ2 σ2 ρ := lss_sim hQ nqr2.2 qr2.1.2
  have Kσ2 : BKS σ2 := bks_call hR.2.2.2.2 qr1.2.2.2 qr2.1.2 (fun k z => qr2.1.1.2.2 k (by unfold bq at z; omega))
  refine ok_nm (fun x3 hx3 => ?_)
  exact hrec _ _ _ _ _ _ hx3 bσ2 hQ ⟨Rσ2, Bσ2, Tσ2, Lσ2, Kσ2⟩
theorem l_L_494 {xs : Nat → Int32} {L : Nat} {rec : Nat → (Nat → Nat) → (Nat → Nat) → SG → RG → Int32 → Option Unit} {N : Nat} {K len : Nat → Nat} {σ : SG} {ρ : RG} {v3 : Int32} (hL : L ≤ 3072) (h0 : 0 ≤ v3.toInt) (h6 : v3.toInt + 6 ≤ (L : Int)) (hrec : LR rec v3) (hB : BX 8 σ) (hQ : PR N K len ρ) (hR : RZ K σ ρ) : ok (F_L_494 xs L rec N K len σ ρ v3) (fun _ => True) := by
  unfold F_L_494
  refine ok_nm (fun x1 hx1 => ?_)
  refine ok_gd (lx (k := 1) hL h0 h6 hx1 (by decide)) ?_
  refine ok_if (fun c2 => ?_) (fun c2 => ?_)
  · refine ok_bn2 (ok_kp (ok_kp (ok_kp (s_X11_turn hB hQ) (kk_X11_turn hQ.1)) (kp_and (kb_X11_turn hQ.1) (kp_and (kt_X11_turn hQ.1) (kp_mono (kk_X11_turn hQ.1) (fun _ z => kx_of z))))) (turn_l hQ hR.2.2.2.1)) (fun r4 σ4 zqr4 => ?_)
    obtain ⟨qr4, nqr4⟩ := zqr4
    have bσ4 : BX 8 σ4 := qr4.1.1.2
    have Rσ4 : RA K σ4 ρ := ra_c hQ qr4.1.2 hR.1
    refine ok_nm (fun x5 hx5 => ?_)
    refine ok_gd (lx (k := 1) hL h0 h6 hx5 (by decide)) ?_
    refine ok_if (fun c6 => ?_) (fun c6 => ?_)
    · refine ok_bn2 (ok_kp (ok_kp (ok_kp (s_X12_turn (bf_x bσ4)) (kr_X12_turn hQ.1)) (ks_X12_turn hQ.1)) (show kp _ (fun z => r4 = z.1 ∧ LSS σ4 z.2 ρ) from nqr4 σ4 ρ (rt_kx qr4.2.2.2))) (fun r8 σ8 zqr8 => ?_)
      obtain ⟨qr8, nqr8⟩ := zqr8
      have bσ8 : BX 8 σ8 := qr8.1.1.2.1
      have Rσ8 : RA K σ8 ρ := ra_bf hQ qr8.1.2 qr8.1.1.2 Rσ4
      have Bσ8 : RB σ8 := rb_call2 hR.2.1 qr4.2.1 qr4.2.2.2 qr8.1.2 (fun k _ z => qr8.1.1.2.2 k (bc_11 z).1)
      have Tσ8 : TRC 8 σ8 σ8 := tr_call2 hR.2.2.1 qr4.2.2.2 qr4.2.2.1 qr8.1.2 qr8.2
      have hE : r4 = r8 := nqr8.1
      have Lσ8 : LSS σ8 σ8 ρ := lss_sim hQ nqr8.2 qr8.1.2
      have Kσ8 : BKS σ8 := bks_call hR.2.2.2.2 qr4.2.2.2 qr8.1.2 (fun k z => qr8.1.1.2.2 k (by unfold bq at z; omega))
      refine ok_nm (fun x9 hx9 => ?_)
      exact hrec _ _ _ _ _ _ hx9 bσ8 hQ ⟨Rσ8, Bσ8, Tσ8, Lσ8, Kσ8⟩
    · exact absurd (by rw [hx5, ← hx1]; exact c2) c6
  · refine ok_bn2 (ok_kp (ok_kp (ok_kp (s_X11_turn hB hQ) (kk_X11_turn hQ.1)) (kp_and (kb_X11_turn hQ.1) (kp_and (kt_X11_turn hQ.1) (kp_mono (kk_X11_turn hQ.1) (fun _ z => kx_of z))))) (turn_l hQ hR.2.2.2.1)) (fun r12 σ12 zqr12 => ?_)
    obtain ⟨qr12, nqr12⟩ := zqr12
    have bσ12 : BX 8 σ12 := qr12.1.1.2
    have Rσ12 : RA K σ12 ρ := ra_c hQ qr12.1.2 hR.1
    refine ok_nm (fun x13 hx13 => ?_)
    refine ok_gd (lx (k := 1) hL h0 h6 hx13 (by decide)) ?_
    refine ok_if (fun c18 => ?_) (fun c18 => ?_)
    · exact absurd (by rw [hx1, ← hx13]; exact c18) c2
    · refine ok_bn2 (ok_kp (ok_kp (ok_kp (s_X12_turn (bf_x bσ12)) (kr_X12_turn hQ.1)) (ks_X12_turn hQ.1)) (show kp _ (fun z => r12 = z.1 ∧ LSS σ12 z.2 ρ) from nqr12 σ12 ρ (rt_kx qr12.2.2.2))) (fun r18 σ18 zqr18 => ?_)
      obtain ⟨qr18, nqr18⟩ := zqr18
      have bσ18 : BX 8 σ18 := qr18.1.1.2.1
      have Rσ18 : RA K σ18 ρ := ra_bf hQ qr18.1.2 qr18.1.1.2 Rσ12
      have Bσ18 : RB σ18 := rb_call2 hR.2.1 qr12.2.1 qr12.2.2.2 qr18.1.2 (fun k _ z => qr18.1.1.2.2 k (bc_11 z).1)
      have Tσ18 : TRC 8 σ18 σ18 := tr_call2 hR.2.2.1 qr12.2.2.2 qr12.2.2.1 qr18.1.2 qr18.2
      have hE : r12 = r18 := nqr18.1
      have Lσ18 : LSS σ18 σ18 ρ := lss_sim hQ nqr18.2 qr18.1.2
      have Kσ18 : BKS σ18 := bks_call hR.2.2.2.2 qr12.2.2.2 qr18.1.2 (fun k z => qr18.1.1.2.2 k (by unfold bq at z; omega))
      refine ok_nm (fun x19 hx19 => ?_)
      exact hrec _ _ _ _ _ _ hx19 bσ18 hQ ⟨Rσ18, Bσ18, Tσ18, Lσ18, Kσ18⟩
theorem l_L_533 {xs : Nat → Int32} {L : Nat} {rec : Nat → (Nat → Nat) → (Nat → Nat) → SG → RG → Int32 → Option Unit} {N : Nat} {K len : Nat → Nat} {σ : SG} {ρ : RG} {v3 : Int32} (hL : L ≤ 3072) (h0 : 0 ≤ v3.toInt) (h6 : v3.toInt + 6 ≤ (L : Int)) (hrec : LR rec v3) (hB : BX 8 σ) (hQ : PR N K len ρ) (hR : RZ K σ ρ) : ok (F_L_533 xs L rec N K len σ ρ v3) (fun _ => True) := by
  unfold F_L_533
  refine ok_nm (fun x1 hx1 => ?_)
  refine ok_gd (lx (k := 1) hL h0 h6 hx1 (by decide)) ?_
  refine ok_nm (fun x3 hx3 => ?_)
  refine ok_gd (lx (k := 2) hL h0 h6 hx3 (by decide)) ?_
  refine ok_bn2 (ok_kp (ok_kp (ok_kp (s_X11_would hB hQ) (kk_X11_would hQ.1)) (kp_and (kp_mono (kd_X11_would hQ.1) (fun _ z => kd_of z)) (kp_and (kt_X11_would hQ.1) (kp_mono (kk_X11_would hQ.1) (fun _ z => kx_of z))))) (kp_and (kp_mono (kd_X11_would hQ.1) (fun _ z => cl_kd z)) (would_l ⟨hQ, hR.1, hR.2.1, hR.2.2.2.1, c11 hB⟩))) (fun r5 σ5 zqr5 => ?_)
  obtain ⟨qr5, nqr5⟩ := zqr5
  have bσ5 : BX 8 σ5 := qr5.1.1.2
  have Rσ5 : RA K σ5 ρ := ra_c hQ qr5.1.2 hR.1
  refine ok_nm (fun x6 hx6 => ?_)
  refine ok_gd (lx (k := 1) hL h0 h6 hx6 (by decide)) ?_
  refine ok_nm (fun x8 hx8 => ?_)
  refine ok_gd (lx (k := 2) hL h0 h6 hx8 (by decide)) ?_
  refine ok_bn2 (ok_kp (ok_kp (ok_kp (s_X12_would (bf_x bσ5)) (kr_X12_would hQ.1)) (ks_X12_would hQ.1)) (kp_and (rs_would hQ.1) (show kp _ (fun z => r5 = z.1) from by rw [hx6, hx8, ← hx1, ← hx3]; exact nqr5.2 σ5 ρ (rt_kx qr5.2.2.2)))) (fun r10 σ10 zqr10 => ?_)
  obtain ⟨qr10, nqr10⟩ := zqr10
  have bσ10 : BX 8 σ10 := qr10.1.1.2.1
  have Rσ10 : RA K σ10 ρ := ra_bf hQ qr10.1.2 qr10.1.1.2 Rσ5
  have Bσ10 : RB σ10 := rb_call2 hR.2.1 qr5.2.1 qr5.2.2.2 qr10.1.2 (fun k _ z => qr10.1.1.2.2 k (bc_11 z).1)
  have Tσ10 : TRC 8 σ10 σ10 := tr_call2 hR.2.2.1 qr5.2.2.2 qr5.2.2.1 qr10.1.2 qr10.2
  have hE : r5 = r10 := nqr10.2
  have Lσ10 : LSS σ10 σ10 ρ := lss_call hQ hR.2.2.2.1 nqr5.1 qr5.2.2.2 qr10.1.2 (lv_bf qr10.1.2 qr10.1.1.2 nqr10.1)
  have Kσ10 : BKS σ10 := bks_call hR.2.2.2.2 qr5.2.2.2 qr10.1.2 (fun k z => qr10.1.1.2.2 k (by unfold bq at z; omega))
  refine ok_nm (fun x11 hx11 => ?_)
  exact hrec _ _ _ _ _ _ hx11 bσ10 hQ ⟨Rσ10, Bσ10, Tσ10, Lσ10, Kσ10⟩
theorem l_L_566 {xs : Nat → Int32} {L : Nat} {rec : Nat → (Nat → Nat) → (Nat → Nat) → SG → RG → Int32 → Option Unit} {N : Nat} {K len : Nat → Nat} {σ : SG} {ρ : RG} {v3 : Int32} (hL : L ≤ 3072) (h0 : 0 ≤ v3.toInt) (h6 : v3.toInt + 6 ≤ (L : Int)) (hrec : LR rec v3) (hB : BX 8 σ) (hQ : PR N K len ρ) (hR : RZ K σ ρ) : ok (F_L_566 xs L rec N K len σ ρ v3) (fun _ => True) := by
  unfold F_L_566
  refine ok_nm (fun x1 hx1 => ?_)
  refine ok_gd (lx (k := 1) hL h0 h6 hx1 (by decide)) ?_
  refine ok_nm (fun x3 hx3 => ?_)
  refine ok_gd (lx (k := 2) hL h0 h6 hx3 (by decide)) ?_
  refine ok_bn2 (ok_kp (ok_kp (ok_kp (s_X11_on hB hQ) (kk_X11_on hQ.1)) (kp_and (kp_mono (kd_X11_on hQ.1) (fun _ z => kd_of z)) (kp_and (kt_X11_on hQ.1) (kp_mono (kk_X11_on hQ.1) (fun _ z => kx_of z))))) (kp_and (kp_mono (kd_X11_on hQ.1) (fun _ z => cl_kd z)) (on_l ⟨hQ, hR.1, hR.2.1, hR.2.2.2.1, c11 hB⟩))) (fun r5 σ5 zqr5 => ?_)
  obtain ⟨qr5, nqr5⟩ := zqr5
  have bσ5 : BX 8 σ5 := qr5.1.1.2
  have Rσ5 : RA K σ5 ρ := ra_c hQ qr5.1.2 hR.1
  refine ok_nm (fun x6 hx6 => ?_)
  refine ok_gd (lx (k := 1) hL h0 h6 hx6 (by decide)) ?_
  refine ok_nm (fun x8 hx8 => ?_)
  refine ok_gd (lx (k := 2) hL h0 h6 hx8 (by decide)) ?_
  refine ok_bn2 (ok_kp (ok_kp (ok_kp (s_X12_on (bf_x bσ5)) (kr_X12_on hQ.1)) (ks_X12_on hQ.1)) (kp_and (rs_on hQ.1) (show kp _ (fun z => r5 = z.1) from by rw [hx6, hx8, ← hx1, ← hx3]; exact nqr5.2 σ5 ρ (rt_kx qr5.2.2.2)))) (fun r10 σ10 zqr10 => ?_)
  obtain ⟨qr10, nqr10⟩ := zqr10
  have bσ10 : BX 8 σ10 := qr10.1.1.2.1
  have Rσ10 : RA K σ10 ρ := ra_bf hQ qr10.1.2 qr10.1.1.2 Rσ5
  have Bσ10 : RB σ10 := rb_call2 hR.2.1 qr5.2.1 qr5.2.2.2 qr10.1.2 (fun k _ z => qr10.1.1.2.2 k (bc_11 z).1)
  have Tσ10 : TRC 8 σ10 σ10 := tr_call2 hR.2.2.1 qr5.2.2.2 qr5.2.2.1 qr10.1.2 qr10.2
  have hE : r5 = r10 := nqr10.2
  have Lσ10 : LSS σ10 σ10 ρ := lss_call hQ hR.2.2.2.1 nqr5.1 qr5.2.2.2 qr10.1.2 (lv_bf qr10.1.2 qr10.1.1.2 nqr10.1)
  have Kσ10 : BKS σ10 := bks_call hR.2.2.2.2 qr5.2.2.2 qr10.1.2 (fun k z => qr10.1.1.2.2 k (by unfold bq at z; omega))
  refine ok_nm (fun x11 hx11 => ?_)
  exact hrec _ _ _ _ _ _ hx11 bσ10 hQ ⟨Rσ10, Bσ10, Tσ10, Lσ10, Kσ10⟩
theorem l_L_599 {xs : Nat → Int32} {L : Nat} {rec : Nat → (Nat → Nat) → (Nat → Nat) → SG → RG → Int32 → Option Unit} {N : Nat} {K len : Nat → Nat} {σ : SG} {ρ : RG} {v3 : Int32} (hL : L ≤ 3072) (h0 : 0 ≤ v3.toInt) (h6 : v3.toInt + 6 ≤ (L : Int)) (hrec : LR rec v3) (hB : BX 8 σ) (hQ : PR N K len ρ) (hR : RZ K σ ρ) : ok (F_L_599 xs L rec N K len σ ρ v3) (fun _ => True) := by
  unfold F_L_599
  refine ok_nm (fun x1 hx1 => ?_)
  refine ok_gd (lx (k := 1) hL h0 h6 hx1 (by decide)) ?_
  refine ok_nm (fun x3 hx3 => ?_)
  refine ok_gd (lx (k := 2) hL h0 h6 hx3 (by decide)) ?_
  refine ok_bn2 (ok_kp (ok_kp (ok_kp (s_X11_toasted hB hQ) (kk_X11_toasted hQ.1)) (kp_and (kp_mono (kd_X11_toasted hQ.1) (fun _ z => kd_of z)) (kp_and (kt_X11_toasted hQ.1) (kp_mono (kk_X11_toasted hQ.1) (fun _ z => kx_of z))))) (kp_and (kp_mono (kd_X11_toasted hQ.1) (fun _ z => cl_kd z)) (toasted_l ⟨hQ, hR.1, hR.2.1, hR.2.2.2.1, c11 hB⟩))) (fun r5 σ5 zqr5 => ?_)
  obtain ⟨qr5, nqr5⟩ := zqr5
  have bσ5 : BX 8 σ5 := qr5.1.1.2
  have Rσ5 : RA K σ5 ρ := ra_c hQ qr5.1.2 hR.1
  refine ok_nm (fun x6 hx6 => ?_)
  refine ok_gd (lx (k := 1) hL h0 h6 hx6 (by decide)) ?_
  refine ok_nm (fun x8 hx8 => ?_)
  refine ok_gd (lx (k := 2) hL h0 h6 hx8 (by decide)) ?_
  refine ok_bn2 (ok_kp (ok_kp (ok_kp (s_X12_toasted (bf_x bσ5)) (kr_X12_toasted hQ.1)) (ks_X12_toasted hQ.1)) (kp_and (rs_toasted hQ.1) (show kp _ (fun z => r5 = z.1) from by rw [hx6, hx8, ← hx1, ← hx3]; exact nqr5.2 σ5 ρ (rt_kx qr5.2.2.2)))) (fun r10 σ10 zqr10 => ?_)
  obtain ⟨qr10, nqr10⟩ := zqr10
  have bσ10 : BX 8 σ10 := qr10.1.1.2.1
  have Rσ10 : RA K σ10 ρ := ra_bf hQ qr10.1.2 qr10.1.1.2 Rσ5
  have Bσ10 : RB σ10 := rb_call2 hR.2.1 qr5.2.1 qr5.2.2.2 qr10.1.2 (fun k _ z => qr10.1.1.2.2 k (bc_11 z).1)
  have Tσ10 : TRC 8 σ10 σ10 := tr_call2 hR.2.2.1 qr5.2.2.2 qr5.2.2.1 qr10.1.2 qr10.2
  have hE : r5 = r10 := nqr10.2
  have Lσ10 : LSS σ10 σ10 ρ := lss_call hQ hR.2.2.2.1 nqr5.1 qr5.2.2.2 qr10.1.2 (lv_bf qr10.1.2 qr10.1.1.2 nqr10.1)
  have Kσ10 : BKS σ10 := bks_call hR.2.2.2.2 qr5.2.2.2 qr10.1.2 (fun k z => qr10.1.1.2.2 k (by unfold bq at z; omega))
  refine ok_nm (fun x11 hx11 => ?_)
  exact hrec _ _ _ _ _ _ hx11 bσ10 hQ ⟨Rσ10, Bσ10, Tσ10, Lσ10, Kσ10⟩
theorem l_L_632 {xs : Nat → Int32} {L : Nat} {rec : Nat → (Nat → Nat) → (Nat → Nat) → SG → RG → Int32 → Option Unit} {N : Nat} {K len : Nat → Nat} {σ : SG} {ρ : RG} {v3 : Int32} (hL : L ≤ 3072) (h0 : 0 ≤ v3.toInt) (h6 : v3.toInt + 6 ≤ (L : Int)) (hrec : LR rec v3) (hB : BX 8 σ) (hQ : PR N K len ρ) (hR : RZ K σ ρ) : ok (F_L_632 xs L rec N K len σ ρ v3) (fun _ => True) := by
  unfold F_L_632
  refine ok_bn2 (ok_kp (ok_kp (ok_kp (s_X11_lasts hB hQ) (kk_X11_lasts hQ.1)) (kp_and (kp_mono (kd_X11_lasts hQ.1) (fun _ z => kd_of z)) (kp_and (kt_X11_lasts hQ.1) (kp_mono (kk_X11_lasts hQ.1) (fun _ z => kx_of z))))) (kp_and (kp_mono (kd_X11_lasts hQ.1) (fun _ z => cl_kd z)) (lasts_l ⟨hQ, hR.1, hR.2.1, hR.2.2.2.1, c11 hB⟩))) (fun r1 σ1 zqr1 => ?_)
  obtain ⟨qr1, nqr1⟩ := zqr1
  have bσ1 : BX 8 σ1 := qr1.1.1.2
  have Rσ1 : RA K σ1 ρ := ra_c hQ qr1.1.2 hR.1
  refine ok_bn2 (ok_kp (ok_kp (ok_kp (s_X12_lasts (bf_x bσ1)) (kr_X12_lasts hQ.1)) (ks_X12_lasts hQ.1)) (kp_and (rs_lasts hQ.1) (show kp _ (fun z => r1 = z.1) from nqr1.2 σ1 ρ (rt_kx qr1.2.2.2)))) (fun r2 σ2 zqr2 => ?_)
  obtain ⟨qr2, nqr2⟩ := zqr2
  have bσ2 : BX 8 σ2 := qr2.1.1.2.1
  have Rσ2 : RA K σ2 ρ := ra_bf hQ qr2.1.2 qr2.1.1.2 Rσ1
  have Bσ2 : RB σ2 := rb_call2 hR.2.1 qr1.2.1 qr1.2.2.2 qr2.1.2 (fun k _ z => qr2.1.1.2.2 k (bc_11 z).1)
  have Tσ2 : TRC 8 σ2 σ2 := tr_call2 hR.2.2.1 qr1.2.2.2 qr1.2.2.1 qr2.1.2 qr2.2
  have hE : r1 = r2 := nqr2.2
  have Lσ2 : LSS σ2 σ2 ρ := lss_call hQ hR.2.2.2.1 nqr1.1 qr1.2.2.2 qr2.1.2 (lv_bf qr2.1.2 qr2.1.1.2 nqr2.1)
  have Kσ2 : BKS σ2 := bks_call hR.2.2.2.2 qr1.2.2.2 qr2.1.2 (fun k z => qr2.1.1.2.2 k (by unfold bq at z; omega))
  refine ok_nm (fun x3 hx3 => ?_)
  exact hrec _ _ _ _ _ _ hx3 bσ2 hQ ⟨Rσ2, Bσ2, Tσ2, Lσ2, Kσ2⟩
theorem l_L_645 {xs : Nat → Int32} {L : Nat} {rec : Nat → (Nat → Nat) → (Nat → Nat) → SG → RG → Int32 → Option Unit} {N : Nat} {K len : Nat → Nat} {σ : SG} {ρ : RG} {v3 : Int32} (hL : L ≤ 3072) (h0 : 0 ≤ v3.toInt) (h6 : v3.toInt + 6 ≤ (L : Int)) (hrec : LR rec v3) (hB : BX 8 σ) (hQ : PR N K len ρ) (hR : RZ K σ ρ) : ok (F_L_645 xs L rec N K len σ ρ v3) (fun _ => True) := by
  unfold F_L_645
  refine ok_nm (fun x1 hx1 => ?_)
  refine ok_gd (lx (k := 1) hL h0 h6 hx1 (by decide)) ?_
  refine ok_bn2 (ok_kp (ok_kp (ok_kp (s_X11_order hB hQ) (kk_X11_order hQ.1)) (kp_and (kp_mono (kd_X11_order hQ.1) (fun _ z => kd_of z)) (kp_and (kt_X11_order hQ.1) (kp_mono (kk_X11_order hQ.1) (fun _ z => kx_of z))))) (kp_and (kp_mono (kd_X11_order hQ.1) (fun _ z => cl_kd z)) (order_l ⟨hQ, hR.1, hR.2.1, hR.2.2.2.1, c11 hB⟩))) (fun r3 σ3 zqr3 => ?_)
  obtain ⟨qr3, nqr3⟩ := zqr3
  have bσ3 : BX 8 σ3 := qr3.1.1.2
  have Rσ3 : RA K σ3 ρ := ra_c hQ qr3.1.2 hR.1
  refine ok_nm (fun x4 hx4 => ?_)
  refine ok_gd (lx (k := 1) hL h0 h6 hx4 (by decide)) ?_
  refine ok_bn2 (ok_kp (ok_kp (ok_kp (s_X12_order (bf_x bσ3)) (kr_X12_order hQ.1)) (ks_X12_order hQ.1)) (kp_and (rs_order hQ.1) (show kp _ (fun z => r3 = z.1) from by rw [hx4, ← hx1]; exact nqr3.2 σ3 ρ (rt_kx qr3.2.2.2)))) (fun r6 σ6 zqr6 => ?_)
  obtain ⟨qr6, nqr6⟩ := zqr6
  have bσ6 : BX 8 σ6 := qr6.1.1.1
  have Rσ6 : RA K σ6 ρ := ra_bf hQ qr6.1.2 qr6.1.1 Rσ3
  have Bσ6 : RB σ6 := rb_call2 hR.2.1 qr3.2.1 qr3.2.2.2 qr6.1.2 (fun k _ z => qr6.1.1.2 k (bc_11 z).1)
  have Tσ6 : TRC 8 σ6 σ6 := tr_call2 hR.2.2.1 qr3.2.2.2 qr3.2.2.1 qr6.1.2 qr6.2
  have hE : r3 = r6 := nqr6.2
  have Lσ6 : LSS σ6 σ6 ρ := lss_call hQ hR.2.2.2.1 nqr3.1 qr3.2.2.2 qr6.1.2 (lv_bf qr6.1.2 qr6.1.1 nqr6.1)
  have Kσ6 : BKS σ6 := bks_call hR.2.2.2.2 qr3.2.2.2 qr6.1.2 (fun k z => qr6.1.1.2 k (by unfold bq at z; omega))
  refine ok_nm (fun x7 hx7 => ?_)
  exact hrec _ _ _ _ _ _ hx7 bσ6 hQ ⟨Rσ6, Bσ6, Tσ6, Lσ6, Kσ6⟩
theorem l_L_668 {xs : Nat → Int32} {L : Nat} {rec : Nat → (Nat → Nat) → (Nat → Nat) → SG → RG → Int32 → Option Unit} {N : Nat} {K len : Nat → Nat} {σ : SG} {ρ : RG} {v3 : Int32} (hL : L ≤ 3072) (h0 : 0 ≤ v3.toInt) (h6 : v3.toInt + 6 ≤ (L : Int)) (hrec : LR rec v3) (hB : BX 8 σ) (hQ : PR N K len ρ) (hR : RZ K σ ρ) : ok (F_L_668 xs L rec N K len σ ρ v3) (fun _ => True) := by
  unfold F_L_668
  refine ok_bn2 (ok_kp (ok_kp (ok_kp (s_X11_cancel hB hQ) (kk_X11_cancel hQ.1)) (kp_and (kp_mono (kd_X11_cancel hQ.1) (fun _ z => kd_of z)) (kp_and (kt_X11_cancel hQ.1) (kp_mono (kk_X11_cancel hQ.1) (fun _ z => kx_of z))))) (kp_and (kp_mono (kd_X11_cancel hQ.1) (fun _ z => cl_kd z)) (cancel_l ⟨hQ, hR.1, hR.2.1, hR.2.2.2.1, c11 hB⟩))) (fun r1 σ1 zqr1 => ?_)
  obtain ⟨qr1, nqr1⟩ := zqr1
  have bσ1 : BX 8 σ1 := qr1.1.1.2
  have Rσ1 : RA K σ1 ρ := ra_c hQ qr1.1.2 hR.1
  refine ok_bn2 (ok_kp (ok_kp (ok_kp (s_X12_cancel (bf_x bσ1)) (kr_X12_cancel hQ.1)) (ks_X12_cancel hQ.1)) (kp_and (rs_cancel hQ.1) (show kp _ (fun z => r1 = z.1) from nqr1.2 σ1 ρ (rt_kx qr1.2.2.2)))) (fun r2 σ2 zqr2 => ?_)
  obtain ⟨qr2, nqr2⟩ := zqr2
  have bσ2 : BX 8 σ2 := qr2.1.1.2.1
  have Rσ2 : RA K σ2 ρ := ra_bf hQ qr2.1.2 qr2.1.1.2 Rσ1
  have Bσ2 : RB σ2 := rb_call2 hR.2.1 qr1.2.1 qr1.2.2.2 qr2.1.2 (fun k _ z => qr2.1.1.2.2 k (bc_11 z).1)
  have Tσ2 : TRC 8 σ2 σ2 := tr_call2 hR.2.2.1 qr1.2.2.2 qr1.2.2.1 qr2.1.2 qr2.2
  have hE : r1 = r2 := nqr2.2
  have Lσ2 : LSS σ2 σ2 ρ := lss_call hQ hR.2.2.2.1 nqr1.1 qr1.2.2.2 qr2.1.2 (lv_bf qr2.1.2 qr2.1.1.2 nqr2.1)
  have Kσ2 : BKS σ2 := bks_call hR.2.2.2.2 qr1.2.2.2 qr2.1.2 (fun k z => qr2.1.1.2.2 k (by unfold bq at z; omega))
  refine ok_nm (fun x3 hx3 => ?_)
  exact hrec _ _ _ _ _ _ hx3 bσ2 hQ ⟨Rσ2, Bσ2, Tσ2, Lσ2, Kσ2⟩
theorem l_L_681 {xs : Nat → Int32} {L : Nat} {rec : Nat → (Nat → Nat) → (Nat → Nat) → SG → RG → Int32 → Option Unit} {N : Nat} {K len : Nat → Nat} {σ : SG} {ρ : RG} {v3 : Int32} (hL : L ≤ 3072) (h0 : 0 ≤ v3.toInt) (h6 : v3.toInt + 6 ≤ (L : Int)) (hrec : LR rec v3) (hB : BX 8 σ) (hQ : PR N K len ρ) (hR : RZ K σ ρ) : ok (F_L_681 xs L rec N K len σ ρ v3) (fun _ => True) := by
  unfold F_L_681
  refine ok_nm (fun x1 hx1 => ?_)
  refine ok_gd (lx (k := 1) hL h0 h6 hx1 (by decide)) ?_
  refine ok_bn2 (ok_kp (ok_kp (ok_kp (s_X11_enough hB hQ) (kk_X11_enough hQ.1)) (kp_and (kp_mono (kd_X11_enough hQ.1) (fun _ z => kd_of z)) (kp_and (kt_X11_enough hQ.1) (kp_mono (kk_X11_enough hQ.1) (fun _ z => kx_of z))))) (kp_and (kp_mono (kd_X11_enough hQ.1) (fun _ z => cl_kd z)) (enough_l ⟨hQ, hR.1, hR.2.1, hR.2.2.2.1, c11 hB⟩))) (fun r3 σ3 zqr3 => ?_)
  obtain ⟨qr3, nqr3⟩ := zqr3
  have bσ3 : BX 8 σ3 := qr3.1.1.2
  have Rσ3 : RA K σ3 ρ := ra_c hQ qr3.1.2 hR.1
  refine ok_nm (fun x4 hx4 => ?_)
  refine ok_gd (lx (k := 1) hL h0 h6 hx4 (by decide)) ?_
  refine ok_bn2 (ok_kp (ok_kp (ok_kp (s_X12_enough (bf_x bσ3)) (kr_X12_enough hQ.1)) (ks_X12_enough hQ.1)) (kp_and (rs_enough hQ.1) (show kp _ (fun z => r3 = z.1) from by rw [hx4, ← hx1]; exact nqr3.2 σ3 ρ (rt_kx qr3.2.2.2)))) (fun r6 σ6 zqr6 => ?_)
  obtain ⟨qr6, nqr6⟩ := zqr6
  have bσ6 : BX 8 σ6 := qr6.1.1.2.1
  have Rσ6 : RA K σ6 ρ := ra_bf hQ qr6.1.2 qr6.1.1.2 Rσ3
  have Bσ6 : RB σ6 := rb_call2 hR.2.1 qr3.2.1 qr3.2.2.2 qr6.1.2 (fun k _ z => qr6.1.1.2.2 k (bc_11 z).1)
  have Tσ6 : TRC 8 σ6 σ6 := tr_call2 hR.2.2.1 qr3.2.2.2 qr3.2.2.1 qr6.1.2 qr6.2
  have hE : r3 = r6 := nqr6.2
  have Lσ6 : LSS σ6 σ6 ρ := lss_call hQ hR.2.2.2.1 nqr3.1 qr3.2.2.2 qr6.1.2 (lv_bf qr6.1.2 qr6.1.1.2 nqr6.1)
  have Kσ6 : BKS σ6 := bks_call hR.2.2.2.2 qr3.2.2.2 qr6.1.2 (fun k z => qr6.1.1.2.2 k (by unfold bq at z; omega))
  refine ok_nm (fun x7 hx7 => ?_)
  exact hrec _ _ _ _ _ _ hx7 bσ6 hQ ⟨Rσ6, Bσ6, Tσ6, Lσ6, Kσ6⟩
theorem l_L_704 {xs : Nat → Int32} {L : Nat} {rec : Nat → (Nat → Nat) → (Nat → Nat) → SG → RG → Int32 → Option Unit} {N : Nat} {K len : Nat → Nat} {σ : SG} {ρ : RG} {v3 : Int32} (hL : L ≤ 3072) (h0 : 0 ≤ v3.toInt) (h6 : v3.toInt + 6 ≤ (L : Int)) (hrec : LR rec v3) (hB : BX 8 σ) (hQ : PR N K len ρ) (hR : RZ K σ ρ) : ok (F_L_704 xs L rec N K len σ ρ v3) (fun _ => True) := by
  unfold F_L_704
  refine ok_nm (fun x1 hx1 => ?_)
  refine ok_gd (lx (k := 1) hL h0 h6 hx1 (by decide)) ?_
  refine ok_nm (fun x3 hx3 => ?_)
  refine ok_gd (lx (k := 2) hL h0 h6 hx3 (by decide)) ?_
  refine ok_bn2 (ok_kp (ok_kp (ok_kp (s_X11_when hB hQ) (kk_X11_when hQ.1)) (kp_and (kp_mono (kd_X11_when hQ.1) (fun _ z => kd_of z)) (kp_and (kt_X11_when hQ.1) (kp_mono (kk_X11_when hQ.1) (fun _ z => kx_of z))))) (kp_and (kp_mono (kd_X11_when hQ.1) (fun _ z => cl_kd z)) (when_l ⟨hQ, hR.1, hR.2.1, hR.2.2.2.1, c11 hB⟩))) (fun r5 σ5 zqr5 => ?_)
  obtain ⟨qr5, nqr5⟩ := zqr5
  have bσ5 : BX 8 σ5 := qr5.1.1.2
  have Rσ5 : RA K σ5 ρ := ra_c hQ qr5.1.2 hR.1
  refine ok_nm (fun x6 hx6 => ?_)
  refine ok_gd (lx (k := 1) hL h0 h6 hx6 (by decide)) ?_
  refine ok_nm (fun x8 hx8 => ?_)
  refine ok_gd (lx (k := 2) hL h0 h6 hx8 (by decide)) ?_
  refine ok_bn2 (ok_kp (ok_kp (ok_kp (s_X12_when (bf_x bσ5)) (kr_X12_when hQ.1)) (ks_X12_when hQ.1)) (kp_and (rs_when hQ.1) (show kp _ (fun z => r5 = z.1) from by rw [hx6, hx8, ← hx1, ← hx3]; exact nqr5.2 σ5 ρ (rt_kx qr5.2.2.2)))) (fun r10 σ10 zqr10 => ?_)
  obtain ⟨qr10, nqr10⟩ := zqr10
  have bσ10 : BX 8 σ10 := qr10.1.1.2.1
  have Rσ10 : RA K σ10 ρ := ra_bf hQ qr10.1.2 qr10.1.1.2 Rσ5
  have Bσ10 : RB σ10 := rb_call2 hR.2.1 qr5.2.1 qr5.2.2.2 qr10.1.2 (fun k _ z => qr10.1.1.2.2 k (bc_11 z).1)
  have Tσ10 : TRC 8 σ10 σ10 := tr_call2 hR.2.2.1 qr5.2.2.2 qr5.2.2.1 qr10.1.2 qr10.2
  have hE : r5 = r10 := nqr10.2
  have Lσ10 : LSS σ10 σ10 ρ := lss_call hQ hR.2.2.2.1 nqr5.1 qr5.2.2.2 qr10.1.2 (lv_bf qr10.1.2 qr10.1.1.2 nqr10.1)
  have Kσ10 : BKS σ10 := bks_call hR.2.2.2.2 qr5.2.2.2 qr10.1.2 (fun k z => qr10.1.1.2.2 k (by unfold bq at z; omega))
  refine ok_nm (fun x11 hx11 => ?_)
  exact hrec _ _ _ _ _ _ hx11 bσ10 hQ ⟨Rσ10, Bσ10, Tσ10, Lσ10, Kσ10⟩
theorem l_L_737 {xs : Nat → Int32} {L : Nat} {rec : Nat → (Nat → Nat) → (Nat → Nat) → SG → RG → Int32 → Option Unit} {N : Nat} {K len : Nat → Nat} {σ : SG} {ρ : RG} {v3 : Int32} (hL : L ≤ 3072) (h0 : 0 ≤ v3.toInt) (h6 : v3.toInt + 6 ≤ (L : Int)) (hrec : LR rec v3) (hB : BX 8 σ) (hQ : PR N K len ρ) (hR : RZ K σ ρ) : ok (F_L_737 xs L rec N K len σ ρ v3) (fun _ => True) := by
  unfold F_L_737
  refine ok_nm (fun x1 hx1 => ?_)
  refine ok_gd (lx (k := 1) hL h0 h6 hx1 (by decide)) ?_
  refine ok_bn2 (ok_kp (ok_kp (ok_kp (s_X11_guide hB hQ) (kk_X11_guide hQ.1)) (kp_and (kp_mono (kd_X11_guide hQ.1) (fun _ z => kd_of z)) (kp_and (kt_X11_guide hQ.1) (kp_mono (kk_X11_guide hQ.1) (fun _ z => kx_of z))))) (kp_mono (kd_X11_guide hQ.1) (fun _ z => cl_kd z))) (fun r3 σ3 zqr3 => ?_)
  obtain ⟨qr3, nqr3⟩ := zqr3
  have bσ3 : BX 8 σ3 := qr3.1.1.2
  have Rσ3 : RA K σ3 ρ := ra_c hQ qr3.1.2 hR.1
  refine ok_nm (fun x4 hx4 => ?_)
  refine ok_gd (lx (k := 1) hL h0 h6 hx4 (by decide)) ?_
  refine ok_bn2 (ok_kp (ok_kp (ok_kp (s_X12_guide (bf_x bσ3)) (kr_X12_guide hQ.1)) (ks_X12_guide hQ.1)) (rs_guide hQ.1 ((rt_kx qr3.2.2.2 54 17 (by decide) (by decide)).trans hR.2.2.2.1.2.1.1))) (fun r6 σ6 zqr6 => ?_)
  obtain ⟨qr6, nqr6⟩ := zqr6
  have bσ6 : BX 8 σ6 := qr6.1.1.2.1
  have Rσ6 : RA K σ6 ρ := ra_bf hQ qr6.1.2 qr6.1.1.2 Rσ3
  have Bσ6 : RB σ6 := rb_call2 hR.2.1 qr3.2.1 qr3.2.2.2 qr6.1.2 (fun k _ z => qr6.1.1.2.2 k (bc_11 z).1)
  have Tσ6 : TRC 8 σ6 σ6 := tr_call2 hR.2.2.1 qr3.2.2.2 qr3.2.2.1 qr6.1.2 qr6.2
  have Lσ6 : LSS σ6 σ6 ρ := lss_call hQ hR.2.2.2.1 nqr3 qr3.2.2.2 qr6.1.2 (lv_bf qr6.1.2 qr6.1.1.2 nqr6)
  have Kσ6 : BKS σ6 := bks_call hR.2.2.2.2 qr3.2.2.2 qr6.1.2 (fun k z => qr6.1.1.2.2 k (by unfold bq at z; omega))
  refine ok_nm (fun x7 hx7 => ?_)
  exact hrec _ _ _ _ _ _ hx7 bσ6 hQ ⟨Rσ6, Bσ6, Tσ6, Lσ6, Kσ6⟩
theorem l_L_760 {xs : Nat → Int32} {L : Nat} {rec : Nat → (Nat → Nat) → (Nat → Nat) → SG → RG → Int32 → Option Unit} {N : Nat} {K len : Nat → Nat} {σ : SG} {ρ : RG} {v3 : Int32} (hL : L ≤ 3072) (h0 : 0 ≤ v3.toInt) (h6 : v3.toInt + 6 ≤ (L : Int)) (hrec : LR rec v3) (hB : BX 8 σ) (hQ : PR N K len ρ) (hR : RZ K σ ρ) : ok (F_L_760 xs L rec N K len σ ρ v3) (fun _ => True) := by
  unfold F_L_760
  refine ok_nm (fun x1 hx1 => ?_)
  refine ok_gd (lx (k := 1) hL h0 h6 hx1 (by decide)) ?_
  refine ok_bn2 (ok_kp (ok_kp (ok_kp (s_X11_again hB hQ) (kk_X11_again hQ.1)) (kp_and (kp_mono (kd_X11_again hQ.1) (fun _ z => kd_of z)) (kp_and (kt_X11_again hQ.1) (kp_mono (kk_X11_again hQ.1) (fun _ z => kx_of z))))) (kp_and (kp_mono (kd_X11_again hQ.1) (fun _ z => cl_kd z)) (again_l ⟨hQ, hR.1, hR.2.1, hR.2.2.2.1, c11 hB⟩))) (fun r3 σ3 zqr3 => ?_)
  obtain ⟨qr3, nqr3⟩ := zqr3
  have bσ3 : BX 8 σ3 := qr3.1.1.2
  have Rσ3 : RA K σ3 ρ := ra_c hQ qr3.1.2 hR.1
  refine ok_nm (fun x4 hx4 => ?_)
  refine ok_gd (lx (k := 1) hL h0 h6 hx4 (by decide)) ?_
  refine ok_bn2 (ok_kp (ok_kp (ok_kp (s_X12_again (bf_x bσ3)) (kr_X12_again hQ.1)) (ks_X12_again hQ.1)) (kp_and (rs_again hQ.1 ((rt_kx qr3.2.2.2 54 18 (by decide) (by decide)).trans hR.2.2.2.1.2.1.2)) (show kp _ (fun z => r3 = z.1) from by rw [hx4, ← hx1]; exact nqr3.2 σ3 ρ (rt_kx qr3.2.2.2)))) (fun r6 σ6 zqr6 => ?_)
  obtain ⟨qr6, nqr6⟩ := zqr6
  have bσ6 : BX 8 σ6 := qr6.1.1.2.1
  have Rσ6 : RA K σ6 ρ := ra_bf hQ qr6.1.2 qr6.1.1.2 Rσ3
  have Bσ6 : RB σ6 := rb_call2 hR.2.1 qr3.2.1 qr3.2.2.2 qr6.1.2 (fun k _ z => qr6.1.1.2.2 k (bc_11 z).1)
  have Tσ6 : TRC 8 σ6 σ6 := tr_call2 hR.2.2.1 qr3.2.2.2 qr3.2.2.1 qr6.1.2 qr6.2
  have hE : r3 = r6 := nqr6.2
  have Lσ6 : LSS σ6 σ6 ρ := lss_call hQ hR.2.2.2.1 nqr3.1 qr3.2.2.2 qr6.1.2 (lv_bf qr6.1.2 qr6.1.1.2 nqr6.1)
  have Kσ6 : BKS σ6 := bks_call hR.2.2.2.2 qr3.2.2.2 qr6.1.2 (fun k z => qr6.1.1.2.2 k (by unfold bq at z; omega))
  refine ok_nm (fun x7 hx7 => ?_)
  exact hrec _ _ _ _ _ _ hx7 bσ6 hQ ⟨Rσ6, Bσ6, Tσ6, Lσ6, Kσ6⟩
theorem l_L_783 {xs : Nat → Int32} {L : Nat} {rec : Nat → (Nat → Nat) → (Nat → Nat) → SG → RG → Int32 → Option Unit} {N : Nat} {K len : Nat → Nat} {σ : SG} {ρ : RG} {v3 : Int32} (hL : L ≤ 3072) (h0 : 0 ≤ v3.toInt) (h6 : v3.toInt + 6 ≤ (L : Int)) (hrec : LR rec v3) (hB : BX 8 σ) (hQ : PR N K len ρ) (hR : RZ K σ ρ) : ok (F_L_783 xs L rec N K len σ ρ v3) (fun _ => True) := by
  unfold F_L_783
  refine ok_nm (fun x1 hx1 => ?_)
  refine ok_gd (lx (k := 1) hL h0 h6 hx1 (by decide)) ?_
  refine ok_nm (fun x3 hx3 => ?_)
  refine ok_gd (lx (k := 2) hL h0 h6 hx3 (by decide)) ?_
  refine ok_bn2 (ok_kp (ok_kp (ok_kp (s_X11_evener hB hQ) (kk_X11_evener hQ.1)) (kp_and (kp_mono (kd_X11_evener hQ.1) (fun _ z => kd_of z)) (kp_and (kt_X11_evener hQ.1) (kp_mono (kk_X11_evener hQ.1) (fun _ z => kx_of z))))) (kp_and (kp_mono (kd_X11_evener hQ.1) (fun _ z => cl_kd z)) (evener_l ⟨hQ, hR.1, hR.2.1, hR.2.2.2.1, c11 hB⟩))) (fun r5 σ5 zqr5 => ?_)
  obtain ⟨qr5, nqr5⟩ := zqr5
  have bσ5 : BX 8 σ5 := qr5.1.1.2
  have Rσ5 : RA K σ5 ρ := ra_c hQ qr5.1.2 hR.1
  refine ok_nm (fun x6 hx6 => ?_)
  refine ok_gd (lx (k := 1) hL h0 h6 hx6 (by decide)) ?_
  refine ok_nm (fun x8 hx8 => ?_)
  refine ok_gd (lx (k := 2) hL h0 h6 hx8 (by decide)) ?_
  refine ok_bn2 (ok_kp (ok_kp (ok_kp (s_X12_evener (bf_x bσ5)) (kr_X12_evener hQ.1)) (ks_X12_evener hQ.1)) (kp_and (rs_evener hQ.1) (show kp _ (fun z => r5 = z.1) from by rw [hx6, hx8, ← hx1, ← hx3]; exact nqr5.2 σ5 ρ (rt_kx qr5.2.2.2)))) (fun r10 σ10 zqr10 => ?_)
  obtain ⟨qr10, nqr10⟩ := zqr10
  have bσ10 : BX 8 σ10 := qr10.1.1.2.1
  have Rσ10 : RA K σ10 ρ := ra_bf hQ qr10.1.2 qr10.1.1.2 Rσ5
  have Bσ10 : RB σ10 := rb_call2 hR.2.1 qr5.2.1 qr5.2.2.2 qr10.1.2 (fun k _ z => qr10.1.1.2.2 k (bc_11 z).1)
  have Tσ10 : TRC 8 σ10 σ10 := tr_call2 hR.2.2.1 qr5.2.2.2 qr5.2.2.1 qr10.1.2 qr10.2
  have hE : r5 = r10 := nqr10.2
  have Lσ10 : LSS σ10 σ10 ρ := lss_call hQ hR.2.2.2.1 nqr5.1 qr5.2.2.2 qr10.1.2 (lv_bf qr10.1.2 qr10.1.1.2 nqr10.1)
  have Kσ10 : BKS σ10 := bks_call hR.2.2.2.2 qr5.2.2.2 qr10.1.2 (fun k z => qr10.1.1.2.2 k (by unfold bq at z; omega))
  refine ok_nm (fun x11 hx11 => ?_)
  exact hrec _ _ _ _ _ _ hx11 bσ10 hQ ⟨Rσ10, Bσ10, Tσ10, Lσ10, Kσ10⟩
theorem l_L_816 {xs : Nat → Int32} {L : Nat} {rec : Nat → (Nat → Nat) → (Nat → Nat) → SG → RG → Int32 → Option Unit} {N : Nat} {K len : Nat → Nat} {σ : SG} {ρ : RG} {v3 : Int32} (hL : L ≤ 3072) (h0 : 0 ≤ v3.toInt) (h6 : v3.toInt + 6 ≤ (L : Int)) (hrec : LR rec v3) (hB : BX 8 σ) (hQ : PR N K len ρ) (hR : RZ K σ ρ) : ok (F_L_816 xs L rec N K len σ ρ v3) (fun _ => True) := by
  unfold F_L_816
  refine ok_nm (fun x1 hx1 => ?_)
  refine ok_gd (lx (k := 1) hL h0 h6 hx1 (by decide)) ?_
  refine ok_nm (fun x3 hx3 => ?_)
  refine ok_gd (lx (k := 2) hL h0 h6 hx3 (by decide)) ?_
  refine ok_nm (fun x5 hx5 => ?_)
  refine ok_gd (lx (k := 3) hL h0 h6 hx5 (by decide)) ?_
  refine ok_nm (fun x7 hx7 => ?_)
  refine ok_gd (lx (k := 4) hL h0 h6 hx7 (by decide)) ?_
  refine ok_bn2 (ok_kp (ok_kp (ok_kp (s_X11_game hB hQ) (kk_X11_game hQ.1)) (kp_and (kp_mono (kd_X11_game hQ.1) (fun _ z => kd_of z)) (kp_and (kt_X11_game hQ.1) (kp_mono (kk_X11_game hQ.1) (fun _ z => kx_of z))))) (kp_and (kp_mono (kd_X11_game hQ.1) (fun _ z => cl_kd z)) (game_l ⟨hQ, hR.1, hR.2.1, hR.2.2.2.1, c11 hB⟩))) (fun r9 σ9 zqr9 => ?_)
  obtain ⟨qr9, nqr9⟩ := zqr9
  have bσ9 : BX 8 σ9 := qr9.1.1.2
  have Rσ9 : RA K σ9 ρ := ra_c hQ qr9.1.2 hR.1
  refine ok_nm (fun x10 hx10 => ?_)
  refine ok_gd (lx (k := 1) hL h0 h6 hx10 (by decide)) ?_
  refine ok_nm (fun x12 hx12 => ?_)
  refine ok_gd (lx (k := 2) hL h0 h6 hx12 (by decide)) ?_
  refine ok_nm (fun x14 hx14 => ?_)
  refine ok_gd (lx (k := 3) hL h0 h6 hx14 (by decide)) ?_
  refine ok_nm (fun x16 hx16 => ?_)
  refine ok_gd (lx (k := 4) hL h0 h6 hx16 (by decide)) ?_
  refine ok_bn2 (ok_kp (ok_kp (ok_kp (s_X12_game (bf_x bσ9)) (kr_X12_game hQ.1)) (ks_X12_game hQ.1)) (kp_and (rs_game hQ.1) (show kp _ (fun z => r9 = z.1) from by rw [hx10, hx12, hx14, hx16, ← hx1, ← hx3, ← hx5, ← hx7]; exact nqr9.2 σ9 ρ (rt_kx qr9.2.2.2)))) (fun r18 σ18 zqr18 => ?_)
  obtain ⟨qr18, nqr18⟩ := zqr18
  have bσ18 : BX 8 σ18 := qr18.1.1.2.1
  have Rσ18 : RA K σ18 ρ := ra_bf hQ qr18.1.2 qr18.1.1.2 Rσ9
  have Bσ18 : RB σ18 := rb_call2 hR.2.1 qr9.2.1 qr9.2.2.2 qr18.1.2 (fun k _ z => qr18.1.1.2.2 k (bc_11 z).1)
  have Tσ18 : TRC 8 σ18 σ18 := tr_call2 hR.2.2.1 qr9.2.2.2 qr9.2.2.1 qr18.1.2 qr18.2
  have hE : r9 = r18 := nqr18.2
  have Lσ18 : LSS σ18 σ18 ρ := lss_call hQ hR.2.2.2.1 nqr9.1 qr9.2.2.2 qr18.1.2 (lv_bf qr18.1.2 qr18.1.1.2 nqr18.1)
  have Kσ18 : BKS σ18 := bks_call hR.2.2.2.2 qr9.2.2.2 qr18.1.2 (fun k z => qr18.1.1.2.2 k (by unfold bq at z; omega))
  refine ok_nm (fun x19 hx19 => ?_)
  exact hrec _ _ _ _ _ _ hx19 bσ18 hQ ⟨Rσ18, Bσ18, Tσ18, Lσ18, Kσ18⟩
theorem l_L_869 {xs : Nat → Int32} {L : Nat} {rec : Nat → (Nat → Nat) → (Nat → Nat) → SG → RG → Int32 → Option Unit} {N : Nat} {K len : Nat → Nat} {σ : SG} {ρ : RG} {v3 : Int32} (hL : L ≤ 3072) (h0 : 0 ≤ v3.toInt) (h6 : v3.toInt + 6 ≤ (L : Int)) (hrec : LR rec v3) (hB : BX 8 σ) (hQ : PR N K len ρ) (hR : RZ K σ ρ) : ok (F_L_869 xs L rec N K len σ ρ v3) (fun _ => True) := by
  unfold F_L_869
  refine ok_nm (fun x1 hx1 => ?_)
  refine ok_gd (lx (k := 1) hL h0 h6 hx1 (by decide)) ?_
  refine ok_nm (fun x3 hx3 => ?_)
  refine ok_gd (lx (k := 2) hL h0 h6 hx3 (by decide)) ?_
  refine ok_bn (ok_kp (s_X11_cheese hB hQ) (cheese_l (ρ' := ρ) hR.2.2.2.1 hR.1 (c11 hB))) (fun r5 qr5 => ?_)
  refine ok_nm (fun x6 hx6 => ?_)
  refine ok_gd (lx (k := 1) hL h0 h6 hx6 (by decide)) ?_
  refine ok_nm (fun x8 hx8 => ?_)
  refine ok_gd (lx (k := 2) hL h0 h6 hx8 (by decide)) ?_
  refine ok_bn2 (ok_kp (ok_kp (ok_kp (s_X12_cheese (bf_x hB)) (kr_X12_cheese hQ.1)) (ks_X12_cheese hQ.1)) (kp_and (rs_cheese hQ.1) (show kp _ (fun z => r5 = z.1) from by rw [hx6, hx8, ← hx1, ← hx3]; exact qr5.2))) (fun r10 σ10 zqr10 => ?_)
  obtain ⟨qr10, nqr10⟩ := zqr10
  have bσ10 : BX 8 σ10 := qr10.1.1.2.1
  have Rσ10 : RA K σ10 ρ := ra_bf hQ qr10.1.2 qr10.1.1.2 hR.1
  have Bσ10 : RB σ10 := rb_call2 hR.2.1 (kb_refl _) (kx_refl _) qr10.1.2 (fun k _ z => qr10.1.1.2.2 k (bc_11 z).1)
  have Tσ10 : TRC 8 σ10 σ10 := tr_call2 hR.2.2.1 (kx_refl _) (kt_refl _) qr10.1.2 qr10.2
  have hE : r5 = r10 := nqr10.2
  have Lσ10 : LSS σ10 σ10 ρ := lss_call hQ hR.2.2.2.1 cl_refl (kx_refl _) qr10.1.2 (lv_bf qr10.1.2 qr10.1.1.2 nqr10.1)
  have Kσ10 : BKS σ10 := bks_call hR.2.2.2.2 (kx_refl _) qr10.1.2 (fun k z => qr10.1.1.2.2 k (by unfold bq at z; omega))
  refine ok_nm (fun x11 hx11 => ?_)
  exact hrec _ _ _ _ _ _ hx11 bσ10 hQ ⟨Rσ10, Bσ10, Tσ10, Lσ10, Kσ10⟩
theorem l_L_902 {xs : Nat → Int32} {L : Nat} {rec : Nat → (Nat → Nat) → (Nat → Nat) → SG → RG → Int32 → Option Unit} {N : Nat} {K len : Nat → Nat} {σ : SG} {ρ : RG} {v3 : Int32} (hL : L ≤ 3072) (h0 : 0 ≤ v3.toInt) (h6 : v3.toInt + 6 ≤ (L : Int)) (hrec : LR rec v3) (hB : BX 8 σ) (hQ : PR N K len ρ) (hR : RZ K σ ρ) : ok (F_L_902 xs L rec N K len σ ρ v3) (fun _ => True) := by
  unfold F_L_902
  refine ok_nm (fun x1 hx1 => ?_)
  refine ok_gd (lx (k := 1) hL h0 h6 hx1 (by decide)) ?_
  refine ok_nm (fun x3 hx3 => ?_)
  refine ok_gd (lx (k := 2) hL h0 h6 hx3 (by decide)) ?_
  refine ok_bn2 (ok_kp (ok_kp (ok_and (ok_kp (s_X11_see hB hQ) (kk_X11_see hQ.1)) see_11) (kp_and (kb_X11_see hQ.1) (kp_and (kt_X11_see hQ.1) (kp_mono (kk_X11_see hQ.1) (fun _ z => kx_of z))))) (see_l hQ hR.2.2.2.1)) (fun r5 σ5 zqr5 => ?_)
  obtain ⟨qr5, nqr5⟩ := zqr5
  have bσ5 : BX 8 σ5 := qr5.1.1.1.2
  have Rσ5 : RA K σ5 ρ := ra_c hQ qr5.1.1.2 hR.1
  refine ok_nm (fun x6 hx6 => ?_)
  refine ok_gd (lx (k := 1) hL h0 h6 hx6 (by decide)) ?_
  refine ok_nm (fun x8 hx8 => ?_)
  refine ok_gd (lx (k := 2) hL h0 h6 hx8 (by decide)) ?_
  refine ok_bn2 (ok_kp (ok_kp (ok_and (ok_kp (ok_kp (s_X12_see bσ5) (kr_X12_see hQ.1)) see_12k) see_12) (kp_and fb_see (ks_X12_see hQ.1))) (kp_and (show kp _ (fun z => r5 = z.1 → LSS σ5 z.2 ρ) from by rw [hx6, hx8, ← hx1, ← hx3]; exact nqr5 σ5 ρ (rt_kx qr5.2.2.2)) fq_see)) (fun r10 σ10 zqr10 => ?_)
  obtain ⟨qr10, nqr10⟩ := zqr10
  obtain ⟨nqr10, mqr10⟩ := nqr10
  have bσ10 : BX 8 σ10 := qr10.1.1.1.1.2
  have Rσ10 : RA K σ10 ρ := ra_r hQ qr10.1.1.1.2 qr10.1.1.2 Rσ5
  have hE : r5 = r10 := qr5.1.2.trans (Eq.trans (by rw [hx1, hx3, hx6, hx8]) qr10.1.2.symm)
  have Bσ10 : RB σ10 := rb_call2 hR.2.1 qr5.2.1 qr5.2.2.2 qr10.1.1.1.2 qr10.2.1
  have Tσ10 : TRC 8 σ10 σ10 := tr_call2 hR.2.2.1 qr5.2.2.2 qr5.2.2.1 qr10.1.1.1.2 qr10.2.2
  have Lσ10 : LSS σ10 σ10 ρ := lss_sim hQ (nqr10 hE) qr10.1.1.1.2
  have Kσ10 : BKS σ10 := bks_call hR.2.2.2.2 qr5.2.2.2 qr10.1.1.1.2 (fun k z => mqr10 k (bq_lt z) z)
  refine ok_nm (fun x11 hx11 => ?_)
  exact hrec _ _ _ _ _ _ hx11 bσ10 hQ ⟨Rσ10, Bσ10, Tσ10, Lσ10, Kσ10⟩
theorem l_L_935 {xs : Nat → Int32} {L : Nat} {rec : Nat → (Nat → Nat) → (Nat → Nat) → SG → RG → Int32 → Option Unit} {N : Nat} {K len : Nat → Nat} {σ : SG} {ρ : RG} {v3 : Int32} (hL : L ≤ 3072) (h0 : 0 ≤ v3.toInt) (h6 : v3.toInt + 6 ≤ (L : Int)) (hrec : LR rec v3) (hB : BX 8 σ) (hQ : PR N K len ρ) (hR : RZ K σ ρ) : ok (F_L_935 xs L rec N K len σ ρ v3) (fun _ => True) := by
  unfold F_L_935
  refine ok_bn2 (ok_kp (ok_kp (ok_kp (s_X11_who hB hQ) (kk_X11_who hQ.1)) (kp_and (kp_mono (kd_X11_who hQ.1) (fun _ z => kd_of z)) (kp_and (kt_X11_who hQ.1) (kp_mono (kk_X11_who hQ.1) (fun _ z => kx_of z))))) (kp_and (kp_mono (kd_X11_who hQ.1) (fun _ z => cl_kd z)) (who_l ⟨hQ, hR.1, hR.2.1, hR.2.2.2.1, c11 hB⟩))) (fun r1 σ1 zqr1 => ?_)
  obtain ⟨qr1, nqr1⟩ := zqr1
  have bσ1 : BX 8 σ1 := qr1.1.1.2
  have Rσ1 : RA K σ1 ρ := ra_c hQ qr1.1.2 hR.1
  refine ok_bn2 (ok_kp (ok_kp (ok_kp (s_X12_who (bf_x bσ1)) (kr_X12_who hQ.1)) (ks_X12_who hQ.1)) (kp_and (rs_who hQ.1) (show kp _ (fun z => r1 = z.1) from nqr1.2 σ1 ρ (rt_kx qr1.2.2.2)))) (fun r2 σ2 zqr2 => ?_)
  obtain ⟨qr2, nqr2⟩ := zqr2
  have bσ2 : BX 8 σ2 := qr2.1.1.2.1
  have Rσ2 : RA K σ2 ρ := ra_bf hQ qr2.1.2 qr2.1.1.2 Rσ1
  have Bσ2 : RB σ2 := rb_call2 hR.2.1 qr1.2.1 qr1.2.2.2 qr2.1.2 (fun k _ z => qr2.1.1.2.2 k (bc_11 z).1)
  have Tσ2 : TRC 8 σ2 σ2 := tr_call2 hR.2.2.1 qr1.2.2.2 qr1.2.2.1 qr2.1.2 qr2.2
  have hE : r1 = r2 := nqr2.2
  have Lσ2 : LSS σ2 σ2 ρ := lss_call hQ hR.2.2.2.1 nqr1.1 qr1.2.2.2 qr2.1.2 (lv_bf qr2.1.2 qr2.1.1.2 nqr2.1)
  have Kσ2 : BKS σ2 := bks_call hR.2.2.2.2 qr1.2.2.2 qr2.1.2 (fun k z => qr2.1.1.2.2 k (by unfold bq at z; omega))
  refine ok_nm (fun x3 hx3 => ?_)
  exact hrec _ _ _ _ _ _ hx3 bσ2 hQ ⟨Rσ2, Bσ2, Tσ2, Lσ2, Kσ2⟩
theorem l_L_948 {xs : Nat → Int32} {L : Nat} {rec : Nat → (Nat → Nat) → (Nat → Nat) → SG → RG → Int32 → Option Unit} {N : Nat} {K len : Nat → Nat} {σ : SG} {ρ : RG} {v3 : Int32} (hL : L ≤ 3072) (h0 : 0 ≤ v3.toInt) (h6 : v3.toInt + 6 ≤ (L : Int)) (hrec : LR rec v3) (hB : BX 8 σ) (hQ : PR N K len ρ) (hR : RZ K σ ρ) : ok (F_L_948 xs L rec N K len σ ρ v3) (fun _ => True) := by
  unfold F_L_948
  refine ok_nm (fun x1 hx1 => ?_)
  refine ok_gd (lx (k := 1) hL h0 h6 hx1 (by decide)) ?_
  refine ok_bn2 (ok_kp (ok_kp (ok_kp (s_X11_week hB hQ) week_11) (kp_and (kb_X11_week hQ.1) (kp_and (kt_X11_week hQ.1) (kx_X11_week hQ.1)))) (week_l hQ hR.2.2.2.1 hR.1.1.2.1 (c13 hB))) (fun r3 σ3 zqr3 => ?_)
  obtain ⟨qr3, nqr3⟩ := zqr3
  have bσ3 : BX 8 σ3 := qr3.1.1.2
  refine ok_nm (fun x4 hx4 => ?_)
  refine ok_gd (lx (k := 1) hL h0 h6 hx4 (by decide)) ?_
  refine ok_bn2 (ok_kp (ok_kp (ok_kp (ok_kp (s_X12_week bσ3) (kr_X12_week hQ.1)) (week_12 (c13 bσ3))) (kp_and (fb_week (c13 bσ3)) (ks_X12_week hQ.1))) (kp_and (show kp _ (fun z => LSS σ3 z.2 ρ) from by rw [hx4, ← hx1]; exact nqr3 σ3 ρ (rt_kx qr3.2.2.2)) (fq_week (c13 bσ3)))) (fun r6 σ6 zqr6 => ?_)
  obtain ⟨qr6, nqr6⟩ := zqr6
  obtain ⟨nqr6, mqr6⟩ := nqr6
  have bσ6 : BX 8 σ6 := qr6.1.1.1.2
  obtain ⟨hE, Rσ6⟩ := week_ra hQ hR.1 qr3.1.2 qr6.1.2 qr6.1.1.2 (by rw [hx4, hx1])
  have Bσ6 : RB σ6 := rb_call2 hR.2.1 qr3.2.1 qr3.2.2.2 qr6.1.1.2 qr6.2.1
  have Tσ6 : TRC 8 σ6 σ6 := tr_call2 hR.2.2.1 qr3.2.2.2 qr3.2.2.1 qr6.1.1.2 qr6.2.2
  have Lσ6 : LSS σ6 σ6 ρ := lss_sim hQ nqr6 qr6.1.1.2
  have Kσ6 : BKS σ6 := bks_call hR.2.2.2.2 qr3.2.2.2 qr6.1.1.2 (fun k z => mqr6 k (bq_lt z) z)
  refine ok_nm (fun x7 hx7 => ?_)
  exact hrec _ _ _ _ _ _ hx7 bσ6 hQ ⟨Rσ6, Bσ6, Tσ6, Lσ6, Kσ6⟩
theorem l_L_971 {xs : Nat → Int32} {L : Nat} {rec : Nat → (Nat → Nat) → (Nat → Nat) → SG → RG → Int32 → Option Unit} {N : Nat} {K len : Nat → Nat} {σ : SG} {ρ : RG} {v3 : Int32} (hL : L ≤ 3072) (h0 : 0 ≤ v3.toInt) (h6 : v3.toInt + 6 ≤ (L : Int)) (hrec : LR rec v3) (hB : BX 8 σ) (hQ : PR N K len ρ) (hR : RZ K σ ρ) : ok (F_L_971 xs L rec N K len σ ρ v3) (fun _ => True) := by
  unfold F_L_971
  refine ok_bn2 (ok_kp (ok_kp (ok_kp (s_X11_clear hB hQ) clear_11) (kp_and (kb_X11_clear hQ.1) (kp_and (kt_X11_clear hQ.1) (kx_X11_clear hQ.1)))) clear_11l) (fun r1 σ1 zqr1 => ?_)
  obtain ⟨qr1, nqr1⟩ := zqr1
  have bσ1 : BX 8 σ1 := qr1.1.1.2
  refine ok_bn2 (ok_kp (ok_kp (ok_kp (ok_kp (s_X12_clear bσ1) (kr_X12_clear hQ.1)) clear_12) (kp_and fb_clear (ks_X12_clear hQ.1))) (kp_and (kp_and clear_12l (kf_X12_clear hQ.1)) fq_clear)) (fun r2 σ2 zqr2 => ?_)
  obtain ⟨qr2, nqr2⟩ := zqr2
  obtain ⟨nqr2, mqr2⟩ := nqr2
  have bσ2 : BX 8 σ2 := qr2.1.1.1.2
  obtain ⟨hE, Rσ2⟩ := clear_ra hQ hR.1 qr1.1.2 qr2.1.2 qr2.1.1.2 
  have Bσ2 : RB σ2 := rb_call2 hR.2.1 qr1.2.1 qr1.2.2.2 qr2.1.1.2 qr2.2.1
  have Tσ2 : TRC 8 σ2 σ2 := tr_call2 hR.2.2.1 qr1.2.2.2 qr1.2.2.1 qr2.1.1.2 qr2.2.2
  have Lσ2 : LSS σ2 σ2 ρ := lss_call hQ hR.2.2.2.1 nqr1 qr1.2.2.2 qr2.1.1.2 (lv_ks qr2.1.1.2 nqr2.1 nqr2.2)
  have Kσ2 : BKS σ2 := bks_call hR.2.2.2.2 qr1.2.2.2 qr2.1.1.2 (fun k z => mqr2 k (bq_lt z) z)
  refine ok_nm (fun x3 hx3 => ?_)
  exact hrec _ _ _ _ _ _ hx3 bσ2 hQ ⟨Rσ2, Bσ2, Tσ2, Lσ2, Kσ2⟩
theorem l_L_984 {xs : Nat → Int32} {L : Nat} {rec : Nat → (Nat → Nat) → (Nat → Nat) → SG → RG → Int32 → Option Unit} {N : Nat} {K len : Nat → Nat} {σ : SG} {ρ : RG} {v3 : Int32} (hL : L ≤ 3072) (h0 : 0 ≤ v3.toInt) (h6 : v3.toInt + 6 ≤ (L : Int)) (hrec : LR rec v3) (hB : BX 8 σ) (hQ : PR N K len ρ) (hR : RZ K σ ρ) : ok (F_L_984 xs L rec N K len σ ρ v3) (fun _ => True) := by
  unfold F_L_984
  refine ok_nm (fun x1 hx1 => ?_)
  refine ok_gd (lx (k := 1) hL h0 h6 hx1 (by decide)) ?_
  refine ok_bn2 (ok_kp (ok_kp (ok_kp (s_X11_rows hB hQ) (kk_X11_rows hQ.1)) (kp_and (kp_mono (kd_X11_rows hQ.1) (fun _ z => kd_of z)) (kp_and (kt_X11_rows hQ.1) (kp_mono (kk_X11_rows hQ.1) (fun _ z => kx_of z))))) (kp_and (kp_mono (kd_X11_rows hQ.1) (fun _ z => cl_kd z)) (rows_l ⟨hQ, hR.1, hR.2.1, hR.2.2.2.1, c11 hB⟩ (c13 hB)))) (fun r3 σ3 zqr3 => ?_)
  obtain ⟨qr3, nqr3⟩ := zqr3
  have bσ3 : BX 8 σ3 := qr3.1.1.2
  have Rσ3 : RA K σ3 ρ := ra_c hQ qr3.1.2 hR.1
  refine ok_nm (fun x4 hx4 => ?_)
  refine ok_gd (lx (k := 1) hL h0 h6 hx4 (by decide)) ?_
  refine ok_bn2 (ok_kp (ok_kp (ok_kp (s_X12_rows (bf_x bσ3)) (kr_X12_rows hQ.1)) (ks_X12_rows hQ.1)) (kp_and (rs_rows hQ.1) (show kp _ (fun z => r3 = z.1) from by rw [hx4, ← hx1]; exact nqr3.2 σ3 ρ (rt_kx qr3.2.2.2)))) (fun r6 σ6 zqr6 => ?_)
  obtain ⟨qr6, nqr6⟩ := zqr6
  have bσ6 : BX 8 σ6 := qr6.1.1.1
  have Rσ6 : RA K σ6 ρ := ra_bf hQ qr6.1.2 qr6.1.1 Rσ3
  have Bσ6 : RB σ6 := rb_call2 hR.2.1 qr3.2.1 qr3.2.2.2 qr6.1.2 (fun k _ z => qr6.1.1.2 k (bc_11 z).1)
  have Tσ6 : TRC 8 σ6 σ6 := tr_call2 hR.2.2.1 qr3.2.2.2 qr3.2.2.1 qr6.1.2 qr6.2
  have hE : r3 = r6 := nqr6.2
  have Lσ6 : LSS σ6 σ6 ρ := lss_call hQ hR.2.2.2.1 nqr3.1 qr3.2.2.2 qr6.1.2 (lv_bf qr6.1.2 qr6.1.1 nqr6.1)
  have Kσ6 : BKS σ6 := bks_call hR.2.2.2.2 qr3.2.2.2 qr6.1.2 (fun k z => qr6.1.1.2 k (by unfold bq at z; omega))
  refine ok_nm (fun x7 hx7 => ?_)
  exact hrec _ _ _ _ _ _ hx7 bσ6 hQ ⟨Rσ6, Bσ6, Tσ6, Lσ6, Kσ6⟩
theorem l_L_1007 {xs : Nat → Int32} {L : Nat} {rec : Nat → (Nat → Nat) → (Nat → Nat) → SG → RG → Int32 → Option Unit} {N : Nat} {K len : Nat → Nat} {σ : SG} {ρ : RG} {v3 : Int32} (hL : L ≤ 3072) (h0 : 0 ≤ v3.toInt) (h6 : v3.toInt + 6 ≤ (L : Int)) (hrec : LR rec v3) (hB : BX 8 σ) (hQ : PR N K len ρ) (hR : RZ K σ ρ) : ok (F_L_1007 xs L rec N K len σ ρ v3) (fun _ => True) := by
  unfold F_L_1007
  refine ok_nm (fun x1 hx1 => ?_)
  refine ok_gd (lx (k := 1) hL h0 h6 hx1 (by decide)) ?_
  refine ok_nm (fun x3 hx3 => ?_)
  refine ok_gd (lx (k := 2) hL h0 h6 hx3 (by decide)) ?_
  refine ok_bn2 (ok_kp (ok_kp (ok_kp (s_X11_odds hB hQ) (kk_X11_odds hQ.1)) (kp_and (kp_mono (kd_X11_odds hQ.1) (fun _ z => kd_of z)) (kp_and (kt_X11_odds hQ.1) (kp_mono (kk_X11_odds hQ.1) (fun _ z => kx_of z))))) (kp_and (kp_mono (kd_X11_odds hQ.1) (fun _ z => cl_kd z)) (odds_l ⟨hQ, hR.1, hR.2.1, hR.2.2.2.1, c11 hB⟩))) (fun r5 σ5 zqr5 => ?_)
  obtain ⟨qr5, nqr5⟩ := zqr5
  have bσ5 : BX 8 σ5 := qr5.1.1
  have Rσ5 : RA K σ5 ρ := ra_c hQ qr5.1.2 hR.1
  refine ok_nm (fun x6 hx6 => ?_)
  refine ok_gd (lx (k := 1) hL h0 h6 hx6 (by decide)) ?_
  refine ok_nm (fun x8 hx8 => ?_)
  refine ok_gd (lx (k := 2) hL h0 h6 hx8 (by decide)) ?_
  refine ok_bn2 (ok_kp (ok_kp (ok_kp (s_X12_odds (bf_x bσ5)) (kr_X12_odds hQ.1)) (ks_X12_odds hQ.1)) (kp_and (rs_odds hQ.1) (show kp _ (fun z => r5 = z.1) from by rw [hx6, hx8, ← hx1, ← hx3]; exact nqr5.2 σ5 ρ (rt_kx qr5.2.2.2)))) (fun r10 σ10 zqr10 => ?_)
  obtain ⟨qr10, nqr10⟩ := zqr10
  have bσ10 : BX 8 σ10 := qr10.1.1.1
  have Rσ10 : RA K σ10 ρ := ra_bf hQ qr10.1.2 qr10.1.1 Rσ5
  have Bσ10 : RB σ10 := rb_call2 hR.2.1 qr5.2.1 qr5.2.2.2 qr10.1.2 (fun k _ z => qr10.1.1.2 k (bc_11 z).1)
  have Tσ10 : TRC 8 σ10 σ10 := tr_call2 hR.2.2.1 qr5.2.2.2 qr5.2.2.1 qr10.1.2 qr10.2
  have hE : r5 = r10 := nqr10.2
  have Lσ10 : LSS σ10 σ10 ρ := lss_call hQ hR.2.2.2.1 nqr5.1 qr5.2.2.2 qr10.1.2 (lv_bf qr10.1.2 qr10.1.1 nqr10.1)
  have Kσ10 : BKS σ10 := bks_call hR.2.2.2.2 qr5.2.2.2 qr10.1.2 (fun k z => qr10.1.1.2 k (by unfold bq at z; omega))
  refine ok_nm (fun x11 hx11 => ?_)
  exact hrec _ _ _ _ _ _ hx11 bσ10 hQ ⟨Rσ10, Bσ10, Tσ10, Lσ10, Kσ10⟩
theorem l_L_1040 {xs : Nat → Int32} {L : Nat} {rec : Nat → (Nat → Nat) → (Nat → Nat) → SG → RG → Int32 → Option Unit} {N : Nat} {K len : Nat → Nat} {σ : SG} {ρ : RG} {v3 : Int32} (hL : L ≤ 3072) (h0 : 0 ≤ v3.toInt) (h6 : v3.toInt + 6 ≤ (L : Int)) (hrec : LR rec v3) (hB : BX 8 σ) (hQ : PR N K len ρ) (hR : RZ K σ ρ) : ok (F_L_1040 xs L rec N K len σ ρ v3) (fun _ => True) := by
  unfold F_L_1040
  refine ok_nm (fun x1 hx1 => ?_)
  refine ok_gd (lx (k := 1) hL h0 h6 hx1 (by decide)) ?_
  refine ok_bn2 (ok_kp (ok_kp (ok_kp (s_X11_mean hB hQ) (kk_X11_mean hQ.1)) (kp_and (kp_mono (kd_X11_mean hQ.1) (fun _ z => kd_of z)) (kp_and (kt_X11_mean hQ.1) (kp_mono (kk_X11_mean hQ.1) (fun _ z => kx_of z))))) (kp_and (kp_mono (kd_X11_mean hQ.1) (fun _ z => cl_kd z)) (mean_l ⟨hQ, hR.1, hR.2.1, hR.2.2.2.1, c11 hB⟩))) (fun r3 σ3 zqr3 => ?_)
  obtain ⟨qr3, nqr3⟩ := zqr3
  have bσ3 : BX 8 σ3 := qr3.1.1
  have Rσ3 : RA K σ3 ρ := ra_c hQ qr3.1.2 hR.1
  refine ok_nm (fun x4 hx4 => ?_)
  refine ok_gd (lx (k := 1) hL h0 h6 hx4 (by decide)) ?_
  refine ok_bn2 (ok_kp (ok_kp (ok_kp (s_X12_mean (bf_x bσ3)) (kr_X12_mean hQ.1)) (ks_X12_mean hQ.1)) (kp_and (rs_mean hQ.1) (show kp _ (fun z => r3 = z.1) from by rw [hx4, ← hx1]; exact nqr3.2 σ3 ρ (rt_kx qr3.2.2.2)))) (fun r6 σ6 zqr6 => ?_)
  obtain ⟨qr6, nqr6⟩ := zqr6
  have bσ6 : BX 8 σ6 := qr6.1.1.1
  have Rσ6 : RA K σ6 ρ := ra_bf hQ qr6.1.2 qr6.1.1 Rσ3
  have Bσ6 : RB σ6 := rb_call2 hR.2.1 qr3.2.1 qr3.2.2.2 qr6.1.2 (fun k _ z => qr6.1.1.2 k (bc_11 z).1)
  have Tσ6 : TRC 8 σ6 σ6 := tr_call2 hR.2.2.1 qr3.2.2.2 qr3.2.2.1 qr6.1.2 qr6.2
  have hE : r3 = r6 := nqr6.2
  have Lσ6 : LSS σ6 σ6 ρ := lss_call hQ hR.2.2.2.1 nqr3.1 qr3.2.2.2 qr6.1.2 (lv_bf qr6.1.2 qr6.1.1 nqr6.1)
  have Kσ6 : BKS σ6 := bks_call hR.2.2.2.2 qr3.2.2.2 qr6.1.2 (fun k z => qr6.1.1.2 k (by unfold bq at z; omega))
  refine ok_nm (fun x7 hx7 => ?_)
  exact hrec _ _ _ _ _ _ hx7 bσ6 hQ ⟨Rσ6, Bσ6, Tσ6, Lσ6, Kσ6⟩
theorem l_L_1063 {xs : Nat → Int32} {L : Nat} {rec : Nat → (Nat → Nat) → (Nat → Nat) → SG → RG → Int32 → Option Unit} {N : Nat} {K len : Nat → Nat} {σ : SG} {ρ : RG} {v3 : Int32} (hL : L ≤ 3072) (h0 : 0 ≤ v3.toInt) (h6 : v3.toInt + 6 ≤ (L : Int)) (hrec : LR rec v3) (hB : BX 8 σ) (hQ : PR N K len ρ) (hR : RZ K σ ρ) : ok (F_L_1063 xs L rec N K len σ ρ v3) (fun _ => True) := by
  unfold F_L_1063
  refine ok_nm (fun x1 hx1 => ?_)
  refine ok_gd (lx (k := 1) hL h0 h6 hx1 (by decide)) ?_
  refine ok_nm (fun x3 hx3 => ?_)
  refine ok_gd (lx (k := 2) hL h0 h6 hx3 (by decide)) ?_
  refine ok_bn2 (ok_kp (ok_kp (ok_kp (s_X11_book hB hQ) (book_11 (c11 hB) hR.1)) (kp_and (kb_X11_book hQ.1) (kp_and (kt_X11_book hQ.1) (kx_X11_book hQ.1)))) (book_l hQ hR.2.2.2.1 hR.1 (c11 hB) hR.1.1.2.2.1 (c14 hB))) (fun r5 σ5 zqr5 => ?_)
  obtain ⟨qr5, nqr5⟩ := zqr5
  have bσ5 : BX 8 σ5 := qr5.1.1.2
  refine ok_nm (fun x6 hx6 => ?_)
  refine ok_gd (lx (k := 1) hL h0 h6 hx6 (by decide)) ?_
  refine ok_nm (fun x8 hx8 => ?_)
  refine ok_gd (lx (k := 2) hL h0 h6 hx8 (by decide)) ?_
  refine ok_bn2 (ok_kp (ok_kp (ok_kp (ok_kp (s_X12_book bσ5) (kr_X12_book hQ.1)) (book_12 (c55 bσ5) (c14 bσ5))) (kp_and (fb_book (c14 bσ5)) (ks_X12_book hQ.1))) (kp_and (show kp _ (fun z => LSS σ5 z.2 ρ) from by rw [hx6, hx8, ← hx1, ← hx3]; exact nqr5 σ5 ρ (rt_kx qr5.2.2.2)) (bk_book (c55 bσ5) (c14 bσ5)))) (fun r10 σ10 zqr10 => ?_)
  obtain ⟨qr10, nqr10⟩ := zqr10
  obtain ⟨nqr10, mqr10⟩ := nqr10
  have bσ10 : BX 8 σ10 := qr10.1.1.1.2
  obtain ⟨hE, Rσ10⟩ := book_ra hQ hR.1 qr5.1.2 qr10.1.2 qr10.1.1.2 (by rw [hx6, hx1]) (by rw [hx8, hx3])
  have Bσ10 : RB σ10 := rb_call2 hR.2.1 qr5.2.1 qr5.2.2.2 qr10.1.1.2 qr10.2.1
  have Tσ10 : TRC 8 σ10 σ10 := tr_call2 hR.2.2.1 qr5.2.2.2 qr5.2.2.1 qr10.1.1.2 qr10.2.2
  have Lσ10 : LSS σ10 σ10 ρ := lss_sim hQ nqr10 qr10.1.1.2
  have Kσ10 : BKS σ10 := bks_book hR.2.2.2.2 qr5.2.2.2 qr10.1.1.2 mqr10
  refine ok_nm (fun x11 hx11 => ?_)
  exact hrec _ _ _ _ _ _ hx11 bσ10 hQ ⟨Rσ10, Bσ10, Tσ10, Lσ10, Kσ10⟩
theorem l_L_1096 {xs : Nat → Int32} {L : Nat} {rec : Nat → (Nat → Nat) → (Nat → Nat) → SG → RG → Int32 → Option Unit} {N : Nat} {K len : Nat → Nat} {σ : SG} {ρ : RG} {v3 : Int32} (hL : L ≤ 3072) (h0 : 0 ≤ v3.toInt) (h6 : v3.toInt + 6 ≤ (L : Int)) (hrec : LR rec v3) (hB : BX 8 σ) (hQ : PR N K len ρ) (hR : RZ K σ ρ) : ok (F_L_1096 xs L rec N K len σ ρ v3) (fun _ => True) := by
  unfold F_L_1096
  refine ok_bn2 (ok_kp (ok_kp (ok_kp (s_X11_looked hB hQ) (kk_X11_looked hQ.1)) (kp_and (kp_mono (kd_X11_looked hQ.1) (fun _ z => kd_of z)) (kp_and (kt_X11_looked hQ.1) (kp_mono (kk_X11_looked hQ.1) (fun _ z => kx_of z))))) (kp_and (kp_mono (kd_X11_looked hQ.1) (fun _ z => cl_kd z)) (looked_l ⟨hQ, hR.1, hR.2.1, hR.2.2.2.1, c11 hB⟩ hR.2.2.2.2.1 (c14 hB)))) (fun r1 σ1 zqr1 => ?_)
  obtain ⟨qr1, nqr1⟩ := zqr1
  have bσ1 : BX 8 σ1 := qr1.1.1.2
  have Rσ1 : RA K σ1 ρ := ra_c hQ qr1.1.2 hR.1
  refine ok_bn2 (ok_kp (ok_kp (ok_kp (s_X12_looked (bf_x bσ1)) (kr_X12_looked hQ.1)) (ks_X12_looked hQ.1)) (kp_and (rs_looked hQ.1) (show kp _ (fun z => r1 = z.1) from nqr1.2 σ1 ρ (rt_kx qr1.2.2.2)))) (fun r2 σ2 zqr2 => ?_)
  obtain ⟨qr2, nqr2⟩ := zqr2
  have bσ2 : BX 8 σ2 := qr2.1.1.2.1
  have Rσ2 : RA K σ2 ρ := ra_bf hQ qr2.1.2 qr2.1.1.2 Rσ1
  have Bσ2 : RB σ2 := rb_call2 hR.2.1 qr1.2.1 qr1.2.2.2 qr2.1.2 (fun k _ z => qr2.1.1.2.2 k (bc_11 z).1)
  have Tσ2 : TRC 8 σ2 σ2 := tr_call2 hR.2.2.1 qr1.2.2.2 qr1.2.2.1 qr2.1.2 qr2.2
  have hE : r1 = r2 := nqr2.2
  have Lσ2 : LSS σ2 σ2 ρ := lss_call hQ hR.2.2.2.1 nqr1.1 qr1.2.2.2 qr2.1.2 (lv_bf qr2.1.2 qr2.1.1.2 nqr2.1)
  have Kσ2 : BKS σ2 := bks_call hR.2.2.2.2 qr1.2.2.2 qr2.1.2 (fun k z => qr2.1.1.2.2 k (by unfold bq at z; omega))
  refine ok_if (fun _ => ?_) (fun c => absurd hE c)
  refine ok_nm (fun x4 hx4 => ?_)
  exact hrec _ _ _ _ _ _ hx4 bσ2 hQ ⟨Rσ2, Bσ2, Tσ2, Lσ2, Kσ2⟩
theorem l_L_1109 {xs : Nat → Int32} {L : Nat} {rec : Nat → (Nat → Nat) → (Nat → Nat) → SG → RG → Int32 → Option Unit} {N : Nat} {K len : Nat → Nat} {σ : SG} {ρ : RG} {v3 : Int32} (hL : L ≤ 3072) (h0 : 0 ≤ v3.toInt) (h6 : v3.toInt + 6 ≤ (L : Int)) (hrec : LR rec v3) (hB : BX 8 σ) (hQ : PR N K len ρ) (hR : RZ K σ ρ) : ok (F_L_1109 xs L rec N K len σ ρ v3) (fun _ => True) := by
  unfold F_L_1109
  refine ok_nm (fun x1 hx1 => ?_)
  refine ok_gd (lx (k := 1) hL h0 h6 hx1 (by decide)) ?_
  refine ok_nm (fun x3 hx3 => ?_)
  refine ok_gd (lx (k := 2) hL h0 h6 hx3 (by decide)) ?_
  refine ok_nm (fun x5 hx5 => ?_)
  refine ok_gd (lx (k := 3) hL h0 h6 hx5 (by decide)) ?_
  refine ok_bn2 (ok_kp (ok_kp (ok_kp (ok_kp (s_X11_act hB hQ) (kk_X11_act hQ.1)) (act_11 hQ (c11 hB) hR.1)) (kp_and (kp_mono (kd_X11_act hQ.1) (fun _ z => kd_of z)) (kp_and (sim_act hQ (c11 hB) (c55 hB) hR.1) (kp_mono (kk_X11_act hQ.1) (fun _ z => kx_of z))))) (kp_mono (kd_X11_act hQ.1) (fun _ z => cl_kd z))) (fun r7 σ7 zqr7 => ?_)
  obtain ⟨qr7, nqr7⟩ := zqr7
  have bσ7 : BX 8 σ7 := qr7.1.1.1.2
  have Rσ7 : RA K σ7 ρ := ra_c hQ qr7.1.1.2 hR.1
  refine ok_nm (fun x8 hx8 => ?_)
  refine ok_gd (lx (k := 1) hL h0 h6 hx8 (by decide)) ?_
  refine ok_nm (fun x10 hx10 => ?_)
  refine ok_gd (lx (k := 2) hL h0 h6 hx10 (by decide)) ?_
  refine ok_nm (fun x12 hx12 => ?_)
  refine ok_gd (lx (k := 3) hL h0 h6 hx12 (by decide)) ?_
  refine ok_bn2 (ok_kp (ok_kp (ok_kp (ok_kp (ok_kp (s_X12_act bσ7) (kr_X12_act hQ.1)) (ka_X12_act hQ.1)) (act_12 (c55 bσ7))) (show kp _ (fun z => r7 = z.1 ∧ TRC 8 σ7 z.2) from by rw [hx8, hx10, hx12, ← hx1, ← hx3, ← hx5]; exact qr7.2.2.1 σ7 ρ (fun k => qr7.2.2.2 55 k rfl))) (kf_X12_act hQ.1)) (fun r14 σ14 zqr14 => ?_)
  obtain ⟨qr14, nqr14⟩ := zqr14
  have bσ14 : BX 8 σ14 := qr14.1.1.1.1
  have Rσ14 : RA K σ14 ρ := ra_a hQ qr14.1.1.1.2 qr14.1.1.2 Rσ7
  have hE : r7 = r14 := act_eq (fun k => qr7.1.1.2 55 k (kcP_ref (by decide) (by decide))) qr7.1.2 qr14.1.2 (by rw [hx8, hx1]) (by rw [hx10, hx3]) (by rw [hx12, hx5])
  have Bσ14 : RB σ14 := rb_call2 hR.2.1 qr7.2.1 qr7.2.2.2 qr14.1.1.1.2 (fun k _ _ => qr14.1.1.2 55 k rfl)
  have Tσ14 : TRC 8 σ14 σ14 := ⟨((qr14.1.1.1.2) 27 1 (krP_lo (by decide))).trans qr14.2.2.1, qr14.2.2.2.1, fun k hk kl => ((qr14.1.1.1.2) 28 k (krP_lo (by decide))).trans (qr14.2.2.2.2 k hk kl)⟩
  have Lσ14 : LSS σ14 σ14 ρ := lss_call hQ hR.2.2.2.1 nqr7 qr7.2.2.2 qr14.1.1.1.2 (lv_ks qr14.1.1.1.2 (fun k _ => qr14.1.1.2 55 k rfl) nqr14)
  have Kσ14 : BKS σ14 := bks_call hR.2.2.2.2 qr7.2.2.2 qr14.1.1.1.2 (fun k _ => qr14.1.1.2 55 k rfl)
  refine ok_nm (fun x15 hx15 => ?_)
  exact hrec _ _ _ _ _ _ hx15 bσ14 hQ ⟨Rσ14, Bσ14, Tσ14, Lσ14, Kσ14⟩
theorem l_L_1152 {xs : Nat → Int32} {L : Nat} {rec : Nat → (Nat → Nat) → (Nat → Nat) → SG → RG → Int32 → Option Unit} {N : Nat} {K len : Nat → Nat} {σ : SG} {ρ : RG} {v3 : Int32} (hL : L ≤ 3072) (h0 : 0 ≤ v3.toInt) (h6 : v3.toInt + 6 ≤ (L : Int)) (hrec : LR rec v3) (hB : BX 8 σ) (hQ : PR N K len ρ) (hR : RZ K σ ρ) : ok (F_L_1152 xs L rec N K len σ ρ v3) (fun _ => True) := by
  unfold F_L_1152
  refine ok_nm (fun x1 hx1 => ?_)
  refine ok_gd (lx (k := 1) hL h0 h6 hx1 (by decide)) ?_
  refine ok_bn (ok_kp (s_X11_trace hB hQ) (sim_trace hR.2.2.1)) (fun r3 qr3 => ?_)
  refine ok_nm (fun x4 hx4 => ?_)
  refine ok_gd (lx (k := 1) hL h0 h6 hx4 (by decide)) ?_
  refine ok_bn (ok_kp (s_X12_trace hB) (show kp _ (fun z => r3 = z) from by rw [hx4, ← hx1]; exact qr3.2)) (fun r6 qr6 => ?_)
  refine ok_nm (fun x7 hx7 => ?_)
  exact hrec _ _ _ _ _ _ hx7 hB hQ ⟨hR.1, hR.2.1, hR.2.2.1, hR.2.2.2.1, hR.2.2.2.2⟩
theorem l_L_1175 {xs : Nat → Int32} {L : Nat} {rec : Nat → (Nat → Nat) → (Nat → Nat) → SG → RG → Int32 → Option Unit} {N : Nat} {K len : Nat → Nat} {σ : SG} {ρ : RG} {v3 : Int32} (hL : L ≤ 3072) (h0 : 0 ≤ v3.toInt) (h6 : v3.toInt + 6 ≤ (L : Int)) (hrec : LR rec v3) (hB : BX 8 σ) (hQ : PR N K len ρ) (hR : RZ K σ ρ) : ok (F_L_1175 xs L rec N K len σ ρ v3) (fun _ => True) := by
  unfold F_L_1175
  refine ok_nm (fun x1 hx1 => ?_)
  refine ok_gd (lx (k := 1) hL h0 h6 hx1 (by decide)) ?_
  refine ok_nm (fun x3 hx3 => ?_)
  refine ok_gd (lx (k := 2) hL h0 h6 hx3 (by decide)) ?_
  refine ok_bn (ok_kp (s_X11_as hB hQ) (as_11 hQ (c11 hB) hR.1)) (fun r5 qr5 => ?_)
  refine ok_nm (fun x6 hx6 => ?_)
  refine ok_gd (lx (k := 1) hL h0 h6 hx6 (by decide)) ?_
  refine ok_nm (fun x8 hx8 => ?_)
  refine ok_gd (lx (k := 2) hL h0 h6 hx8 (by decide)) ?_
  refine ok_bn (ok_kp (s_X12_as hB) (fun z e => show z = z ∧ F_X12_as _ _ _ _ = some z from ⟨rfl, e⟩)) (fun r10 qr10 => ?_)
  refine ok_nm (fun x11 hx11 => ?_)
  exact hrec _ _ _ _ _ _ hx11 hB hQ ⟨hR.1, hR.2.1, hR.2.2.1, hR.2.2.2.1, hR.2.2.2.2⟩
theorem l_L_1208 {xs : Nat → Int32} {L : Nat} {rec : Nat → (Nat → Nat) → (Nat → Nat) → SG → RG → Int32 → Option Unit} {N : Nat} {K len : Nat → Nat} {σ : SG} {ρ : RG} {v3 : Int32} (hL : L ≤ 3072) (h0 : 0 ≤ v3.toInt) (h6 : v3.toInt + 6 ≤ (L : Int)) (hrec : LR rec v3) (hB : BX 8 σ) (hQ : PR N K len ρ) (hR : RZ K σ ρ) : ok (F_L_1208 xs L rec N K len σ ρ v3) (fun _ => True) := by
  unfold F_L_1208
  refine ok_bnT (ok_kp (s_X11_image hB hQ) (image_11r hB hQ hR.1)) (fun r1 N1 K1 L1 σ1 ρ1 qr1 => ?_)
  have bσ1 : BX 8 σ1 := qr1.1.1
  have hρ1 : PR N1 K1 L1 ρ1 := qr1.1.2
  refine ok_bn2 (ok_kp (ok_kp (ok_kp (s_X12_image bσ1) im_12r) (ks_X12_image hρ1.1)) (kf_X12_image hρ1.1)) (fun r2 σ2 zqr2 => ?_)
  obtain ⟨qr2, nqr2⟩ := zqr2
  have bσ2 : BX 8 σ2 := qr2.1.1.2
  obtain ⟨hE, Rσ2⟩ := image_ra hQ hR.1 qr1.2 qr2.1.2
  have Bσ2 : RB σ2 := rb_image hQ hR.2.1 qr1.2 qr2.1.2
  have Tσ2 : TRC 8 σ2 σ2 := tr_image hQ hR.2.2.1 qr1.2 qr2.1.2.2.2.2.1 qr2.2
  have Lσ2 : LSS σ2 σ2 ρ1 := image_l hQ hR.2.2.2.1 qr1.2 qr2.1.2 nqr2
  have Kσ2 : BKS σ2 := bks_image hQ hR.2.2.2.2 qr1.2 qr2.1.2
  refine ok_nm (fun x3 hx3 => ?_)
  exact hrec _ _ _ _ _ _ hx3 bσ2 hρ1 ⟨Rσ2, Bσ2, Tσ2, Lσ2, Kσ2⟩
theorem l_L_1221 {xs : Nat → Int32} {L : Nat} {rec : Nat → (Nat → Nat) → (Nat → Nat) → SG → RG → Int32 → Option Unit} {N : Nat} {K len : Nat → Nat} {σ : SG} {ρ : RG} {v3 : Int32} (hL : L ≤ 3072) (h0 : 0 ≤ v3.toInt) (h6 : v3.toInt + 6 ≤ (L : Int)) (hrec : LR rec v3) (hB : BX 8 σ) (hQ : PR N K len ρ) (hR : RZ K σ ρ) : ok (F_L_1221 xs L rec N K len σ ρ v3) (fun _ => True) := by
  unfold F_L_1221
  refine ok_bnT (ok_kp (s_X11_undo hB hQ) (undo_11r hB hQ hR.1)) (fun r1 N1 K1 L1 σ1 ρ1 qr1 => ?_)
  have bσ1 : BX 8 σ1 := qr1.1.1
  have hρ1 : PR N1 K1 L1 ρ1 := qr1.1.2
  refine ok_bn2 (ok_kp (ok_kp (ok_kp (s_X12_undo bσ1) (undo_ra hQ hR.1 qr1.2)) (kp_and (rb_undo hQ hR.1 hR.2.1 qr1.2) (tr_undo hQ hρ1.1 hR.1 hR.2.2.1 qr1.2))) (kp_and (undo_l hQ hR.1 hR.2.2.2.1 qr1.2) (bks_undo hQ hR.1 hR.2.2.2.2 qr1.2))) (fun r2 σ2 zqr2 => ?_)
  obtain ⟨qr2, nqr2⟩ := zqr2
  obtain ⟨nqr2, mqr2⟩ := nqr2
  have bσ2 : BX 8 σ2 := qr2.1.1.2
  obtain ⟨hE, Rσ2⟩ := qr2.1.2
  have Bσ2 : RB σ2 := qr2.2.1
  have Tσ2 : TRC 8 σ2 σ2 := qr2.2.2
  have Lσ2 : LSS σ2 σ2 ρ1 := nqr2
  have Kσ2 : BKS σ2 := mqr2
  refine ok_nm (fun x3 hx3 => ?_)
  exact hrec _ _ _ _ _ _ hx3 bσ2 hρ1 ⟨Rσ2, Bσ2, Tσ2, Lσ2, Kσ2⟩
theorem l_L_1234 {xs : Nat → Int32} {L : Nat} {rec : Nat → (Nat → Nat) → (Nat → Nat) → SG → RG → Int32 → Option Unit} {N : Nat} {K len : Nat → Nat} {σ : SG} {ρ : RG} {v3 : Int32} (hL : L ≤ 3072) (h0 : 0 ≤ v3.toInt) (h6 : v3.toInt + 6 ≤ (L : Int)) (hrec : LR rec v3) (hB : BX 8 σ) (hQ : PR N K len ρ) (hR : RZ K σ ρ) : ok (F_L_1234 xs L rec N K len σ ρ v3) (fun _ => True) := by
  unfold F_L_1234
  refine ok_nm (fun x1 hx1 => ?_)
  refine ok_gd (lx (k := 1) hL h0 h6 hx1 (by decide)) ?_
  refine ok_bn (ok_kp (s_X11_count hB hQ) (sim_count (ρ' := ρ) hR.2.2.1 hR.1 hR.2.1)) (fun r3 qr3 => ?_)
  refine ok_nm (fun x4 hx4 => ?_)
  refine ok_gd (lx (k := 1) hL h0 h6 hx4 (by decide)) ?_
  refine ok_bn (ok_kp (s_X12_count hB) (show kp _ (fun z => r3 = z) from by rw [hx4, ← hx1]; exact qr3.2)) (fun r6 qr6 => ?_)
  refine ok_nm (fun x7 hx7 => ?_)
  exact hrec _ _ _ _ _ _ hx7 hB hQ ⟨hR.1, hR.2.1, hR.2.2.1, hR.2.2.2.1, hR.2.2.2.2⟩
theorem l_L_18 {xs : Nat → Int32} {L : Nat} (hL : L ≤ 3072) : ∀ (n N : Nat) (K len : Nat → Nat) (σ : SG) (ρ : RG) (v3 : Int32), 0 ≤ v3.toInt → v3.toInt ≤ (L : Int) → (L : Int) - v3.toInt < 6 * (n : Int) → BX 8 σ → PR N K len ρ → RZ K σ ρ → ok (F_L_18 xs L n N K len σ ρ v3) (fun _ => True) := by
  intro n
  induction n with
  | zero => intro N K len σ ρ v3 h0 h4 hm; omega
  | succ n ih =>
    intro N K len σ ρ v3 h0 h4 hm hB hQ hR
    have eL : (Int32.ofNat L).toInt = (L : Int) := Int32.toInt_ofNat_of_lt (by omega)
    have e6 : (6 : Int32).toInt = 6 := rfl
    unfold F_L_18
    refine ok_nm (fun x1 hx1 => ok_if (fun _ => ok_some trivial) (fun c => ?_))
    have e1 : x1.toInt = (L : Int) - 6 := by rw [hx1, ti_sub (by omega) (by omega), eL, e6]
    have c1 : ¬ x1.toInt < v3.toInt := fun q => c (Int32.lt_iff_toInt_lt.mpr q)
    have h6 : v3.toInt + 6 ≤ (L : Int) := by omega
    have hrec : LR (F_L_18 xs L n) v3 := fun N K len σ ρ x hx b q R => by
      have ex : x.toInt = v3.toInt + 6 := by rw [hx, ti_add (by omega) (by omega), e6]
      exact ih N K len σ ρ x (by omega) (by omega) (by omega) b q R
    refine ok_gd (decide_eq_true ⟨by omega, by omega⟩) (ok_nm (fun x2 _ => ?_))
    refine ok_if (fun _ => l_L_204 hL h0 h6 hrec hB hQ hR) (fun _ => ?_)
    refine ok_if (fun _ => l_L_227 hL h0 h6 hrec hB hQ hR) (fun _ => ?_)
    refine ok_if (fun _ => l_L_240 hL h0 h6 hrec hB hQ hR) (fun _ => ?_)
    refine ok_if (fun _ => l_L_303 hL h0 h6 hrec hB hQ hR) (fun _ => ?_)
    refine ok_if (fun _ => l_L_336 hL h0 h6 hrec hB hQ hR) (fun _ => ?_)
    refine ok_if (fun _ => l_L_369 hL h0 h6 hrec hB hQ hR) (fun _ => ?_)
    refine ok_if (fun _ => l_L_412 hL h0 h6 hrec hB hQ hR) (fun _ => ?_)
    refine ok_if (fun _ => l_L_435 hL h0 h6 hrec hB hQ hR) (fun _ => ?_)
    refine ok_if (fun _ => l_L_458 hL h0 h6 hrec hB hQ hR) (fun _ => ?_)
    refine ok_if (fun _ => l_L_481 hL h0 h6 hrec hB hQ hR) (fun _ => ?_)
    refine ok_if (fun _ => l_L_494 hL h0 h6 hrec hB hQ hR) (fun _ => ?_)
    refine ok_if (fun _ => l_L_533 hL h0 h6 hrec hB hQ hR) (fun _ => ?_)
    refine ok_if (fun _ => l_L_566 hL h0 h6 hrec hB hQ hR) (fun _ => ?_)
    refine ok_if (fun _ => l_L_599 hL h0 h6 hrec hB hQ hR) (fun _ => ?_)
    refine ok_if (fun _ => l_L_632 hL h0 h6 hrec hB hQ hR) (fun _ => ?_)
    refine ok_if (fun _ => l_L_645 hL h0 h6 hrec hB hQ hR) (fun _ => ?_)
    refine ok_if (fun _ => l_L_668 hL h0 h6 hrec hB hQ hR) (fun _ => ?_)
    refine ok_if (fun _ => l_L_681 hL h0 h6 hrec hB hQ hR) (fun _ => ?_)
    refine ok_if (fun _ => l_L_704 hL h0 h6 hrec hB hQ hR) (fun _ => ?_)
    refine ok_if (fun _ => l_L_737 hL h0 h6 hrec hB hQ hR) (fun _ => ?_)
    refine ok_if (fun _ => l_L_760 hL h0 h6 hrec hB hQ hR) (fun _ => ?_)
    refine ok_if (fun _ => l_L_783 hL h0 h6 hrec hB hQ hR) (fun _ => ?_)
    refine ok_if (fun _ => l_L_816 hL h0 h6 hrec hB hQ hR) (fun _ => ?_)
    refine ok_if (fun _ => l_L_869 hL h0 h6 hrec hB hQ hR) (fun _ => ?_)
    refine ok_if (fun _ => l_L_902 hL h0 h6 hrec hB hQ hR) (fun _ => ?_)
    refine ok_if (fun _ => l_L_935 hL h0 h6 hrec hB hQ hR) (fun _ => ?_)
    refine ok_if (fun _ => l_L_948 hL h0 h6 hrec hB hQ hR) (fun _ => ?_)
    refine ok_if (fun _ => l_L_971 hL h0 h6 hrec hB hQ hR) (fun _ => ?_)
    refine ok_if (fun _ => l_L_984 hL h0 h6 hrec hB hQ hR) (fun _ => ?_)
    refine ok_if (fun _ => l_L_1007 hL h0 h6 hrec hB hQ hR) (fun _ => ?_)
    refine ok_if (fun _ => l_L_1040 hL h0 h6 hrec hB hQ hR) (fun _ => ?_)
    refine ok_if (fun _ => l_L_1063 hL h0 h6 hrec hB hQ hR) (fun _ => ?_)
    refine ok_if (fun _ => l_L_1096 hL h0 h6 hrec hB hQ hR) (fun _ => ?_)
    refine ok_if (fun _ => l_L_1109 hL h0 h6 hrec hB hQ hR) (fun _ => ?_)
    refine ok_if (fun _ => l_L_1152 hL h0 h6 hrec hB hQ hR) (fun _ => ?_)
    refine ok_if (fun _ => l_L_1175 hL h0 h6 hrec hB hQ hR) (fun _ => ?_)
    refine ok_if (fun _ => l_L_1208 hL h0 h6 hrec hB hQ hR) (fun _ => ?_)
    refine ok_if (fun _ => l_L_1221 hL h0 h6 hrec hB hQ hR) (fun _ => ?_)
    refine ok_if (fun _ => l_L_1234 hL h0 h6 hrec hB hQ hR) (fun _ => ?_)
    exact ok_nm (fun x3 hx3 => hrec N K len σ ρ x3 hx3 hB hQ hR)
set_option maxRecDepth 100000 in
theorem ini_box : bndL.all (fun q => (List.range (q.2.2.1 + 1)).all (fun k => Nat.blt k q.2.1 || (decide (q.2.2.2.1 ≤ (ini2.1 q.1 k).toInt) && decide ((ini2.1 q.1 k).toInt ≤ q.2.2.2.2)))) = true := by decide +kernel
set_option maxRecDepth 100000 in
theorem ini_c : ini2.1 54 30 = 0 ∧ ini2.1 54 4 = 0 ∧ ini2.1 55 16 = -1 ∧ ini2.1 55 11 = 0 := by decide +kernel
set_option maxRecDepth 100000 in
theorem ini_n : (∀ j : Fin 6, ini2.2 2 j = none ∧ ini2.2 15 j = none) ∧ (ini2.2 29 8 = none ∨ ini2.2 29 8 = some 10) := by decide +kernel
theorem ini_BX : BX 8 ini2.1 := by
  obtain ⟨a, b, c, d⟩ := ini_c
  refine ⟨fun q hq k h1 h2 => ?_, by rw [a]; exact ⟨by decide, by decide⟩, ⟨fun h hh => ?_, fun k hk => ?_⟩, Or.inl b⟩
  · have h := List.all_eq_true.mp ini_box q hq
    have h := List.all_eq_true.mp h k (List.mem_range.mpr (by omega))
    simp only [Bool.or_eq_true, Bool.and_eq_true, decide_eq_true_eq, Nat.blt_eq] at h
    rcases h with h | h
    · omega
    · exact h
  · rw [c] at hh
    have : (-1 : Int32).toInt = -1 := rfl
    omega
  · rw [d] at hk
    have : (0 : Int32).toInt = 0 := rfl
    omega
theorem ini_PR : PR 65 kind0 len0 ini2.2 := by
  obtain ⟨a, b⟩ := ini_n
  exact ⟨ini_Lay, ini2_k.1, fun j c hj h => (by rw [(a ⟨j, hj⟩).1] at h; cases h), fun j c hj h => (by rw [(a ⟨j, hj⟩).2] at h; cases h), b⟩
set_option maxRecDepth 100000 in
theorem ini_RA : RA kind0 ini2.1 ini2.2 := by
  have h : ini2.1 1 1 = ini2.1 55 11 ∧ ini2.1 1 10 = ini2.1 55 13 ∧ ini2.1 1 13 = ini2.1 55 14 ∧ ini2.1 3 0 = ini2.1 55 17 ∧ ini2.1 0 2 = 0 ∧ ini2.1 1 1 = 0 := by decide +kernel
  obtain ⟨h1, h2, h3, h4, h5, h6⟩ := h
  have n : ∀ a j, (a = 2 ∨ a = 15) → j < 6 → ini2.2 a j = none := fun a j ha hj => by
    rcases ha with rfl | rfl
    · exact (ini_n.1 ⟨j, hj⟩).1
    · exact (ini_n.1 ⟨j, hj⟩).2
  refine ⟨⟨h1, h2, h3, h4⟩, fun j hj => ⟨⟨fun _ => by rw [h6]; have : (0 : Int32).toInt = 0 := rfl; omega, fun _ => n 2 j (Or.inl rfl) hj⟩, fun c hc => by rw [n 2 j (Or.inl rfl) hj] at hc; cases hc⟩, ⟨fun a j a' j' c ha ha' hj hj' h _ => (by rw [n a j ha hj] at h; cases h), fun a j a' j' c c' d ha ha' hj hj' h _ _ _ _ _ => (by rw [n a j ha hj] at h; cases h)⟩, ⟨fun _ => ini_c.2.1, fun _ => h5⟩, fun z => absurd ini_c.2.1 z⟩
set_option maxRecDepth 100000 in
theorem ini_b1 : ini2.1 1 6 = 0 ∧ ini2.1 55 15 = 0 ∧ ini2.1 1 4 = 0 ∧ ini2.1 55 12 = 0 ∧ ini2.1 55 16 = -1 ∧ ini2.1 5 0 = 3 ∧ ini2.1 5 1 = 10 ∧ ini2.1 5 2 = 0 ∧ ini2.1 27 1 = 0 ∧ ini2.1 54 30 = 0 := by decide +kernel
set_option maxRecDepth 100000 in
theorem ini_b2 : (List.range 100).all (fun k => ini2.1 10 k == ini2.1 55 (94 + k)) = true := by decide +kernel
set_option maxRecDepth 100000 in
theorem ini_l1 : (List.range 5).all (fun k => ini2.1 3 (1 + k) == ini2.1 55 k) = true := by decide +kernel
set_option maxRecDepth 100000 in
theorem ini_l2 : (List.range 4).all (fun k => ini2.1 11 k == ini2.1 55 (74 + k)) = true := by decide +kernel
set_option maxRecDepth 100000 in
theorem ini_l3 : (List.range 8).all (fun k => ini2.1 12 k == ini2.1 55 (78 + k) && ini2.1 13 k == ini2.1 55 (86 + k)) = true := by decide +kernel
set_option maxRecDepth 100000 in
theorem ini_l4 : ini2.1 55 1 = 0 ∧ ini2.1 55 2 = 0 ∧ ini2.1 55 3 = 0 ∧ ini2.1 1 7 = ini2.1 55 18 ∧ ini2.1 1 8 = ini2.1 55 19 ∧ ini2.1 54 17 = 0 ∧ ini2.1 54 18 = 0 := by decide +kernel
set_option maxRecDepth 100000 in
theorem ini_l5 : ini2.1 55 14 = 0 := by decide +kernel
theorem ini_BK : BKS ini2.1 := ⟨fun k _ hl => by rw [ini_l5] at hl; have : (0 : Int32).toInt = 0 := rfl; omega, fun z => absurd ini_c.2.1 z⟩
theorem ini_LS : LSS ini2.1 ini2.1 ini2.2 := by
  obtain ⟨a1, a2, a3, a4, a5, a6, a7⟩ := ini_l4
  have z0 : (0 : Int32).toInt = 0 := rfl
  refine ⟨⟨fun k hk => ?_, ⟨by rw [a1]; exact ⟨by decide, by decide⟩, by rw [a2]; exact ⟨by decide, by decide⟩, by rw [a3]; exact ⟨by decide, by decide⟩⟩, fun j c hj hc => (by rw [(ini_n.1 ⟨j, hj⟩).1] at hc; cases hc), fun j hj hl => (by rw [ini_c.2.2.2, z0] at hl; omega), ⟨a4, a5⟩, fun k hk => ?_, fun k hk => ?_⟩, ⟨a6, a7⟩, fun z => absurd ini_c.2.1 z⟩
  · have h := List.all_eq_true.mp ini_l1 k (List.mem_range.mpr hk)
    simpa using h
  · have h := List.all_eq_true.mp ini_l2 k (List.mem_range.mpr hk)
    simpa using h
  · have h := List.all_eq_true.mp ini_l3 k (List.mem_range.mpr hk)
    simpa using h
theorem ini_RX : RZ kind0 ini2.1 ini2.2 := by
  obtain ⟨b1, b2, b3, b4, b5, b6, b7, b8, b9, b10⟩ := ini_b1
  refine ⟨ini_RA, ⟨⟨fun k hk => ?_, by rw [b1, b2], by rw [b3, b4], Or.inl ⟨b5, b6, b7, b8⟩⟩, fun z => absurd ini_c.2.1 z⟩, ⟨by rw [b9, b10], by rw [b10]; exact ⟨by decide, by decide⟩, fun k _ kl => by rw [b10] at kl; have : (0 : Int32).toInt = 0 := rfl; omega⟩, ini_LS, ini_BK⟩
  have h := List.all_eq_true.mp ini_b2 k (List.mem_range.mpr hk)
  simpa using h
theorem law_pure {xs : Nat → Int32} {L : Nat} (hL : L ≤ 3072) : F_L_18 xs L 513 65 kind0 len0 ini2.1 ini2.2 0 = some () := by
  obtain ⟨u, e, -⟩ := l_L_18 (xs := xs) hL 513 65 kind0 len0 ini2.1 ini2.2 0 (by decide) (by have : (0 : Int32).toInt = 0 := rfl; omega) (by have : (0 : Int32).toInt = 0 := rfl; omega) ini_BX ini_PR ini_RX
  exact e
