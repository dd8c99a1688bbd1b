/-! PART 71.lp: printed by wip/gen/lp26.py: the law's loop answers on every script -/
theorem lx {L k : Nat} {v3 x : Int32} (hL : L ≤ 3072) (h0 : 0 ≤ v3.toInt) (h6 : v3.toInt + 6 ≤ (L : Int)) (hx : x = v3 + Int32.ofNat k) (hk : k < 6) : inb x L = true := by
  have e : (Int32.ofNat k).toInt = (k : Int) := Int32.toInt_ofNat_of_lt (by omega)
  have ex : x.toInt = v3.toInt + k := by rw [hx, ti_add (by omega) (by omega), e]
  exact decide_eq_true ⟨by omega, by omega⟩
def LR (rec : Nat → (Nat → Nat) → (Nat → Nat) → SG → RG → Int32 → Option Unit) (v3 : Int32) : Prop := ∀ (N : Nat) (K len : Nat → Nat) (σ : SG) (ρ : RG) (x : Int32), x = v3 + (6 : Int32) → BX 8 σ → PR N K len ρ → ok (rec N K len σ ρ x) (fun _ => True)
def seeA (a1 a2 : Int32) : Int32 := if (-99 : Int32) ≤ a1 ∧ a1 ≤ (99 : Int32) ∧ (-99 : Int32) ≤ a2 ∧ a2 ≤ (99 : Int32) then 1 else -2
theorem in_0 {a l h : Int32} {σ : SG} {ρ : RG} : ok (F_X12_in a l h σ ρ) (fun q => rg q 0 1 ∧ (¬ q = 0 ↔ l ≤ a ∧ a ≤ h)) := by
  unfold F_X12_in
  refine ok_if (fun c => ok_some ⟨⟨by decide, by decide⟩, fun n => absurd rfl n, fun q => absurd (Int32.lt_iff_toInt_lt.mp c) (by have := Int32.le_iff_toInt_le.mp q.1; omega)⟩) (fun c => ok_if (fun d => ok_some ⟨⟨by decide, by decide⟩, fun n => absurd rfl n, fun q => absurd (Int32.lt_iff_toInt_lt.mp d) (by have := Int32.le_iff_toInt_le.mp q.2; omega)⟩) (fun d => ok_some ⟨⟨by decide, by decide⟩, fun _ => ⟨nlt c, nlt d⟩, fun _ => by decide⟩))
theorem wi_0 {a l h : Int32} {σ : SG} {ρ : RG} : ok (F_X11_isWithin a l h σ ρ) (fun q => rg q 0 1 ∧ (¬ q = 0 ↔ l ≤ a ∧ a ≤ h)) := by
  unfold F_X11_isWithin
  refine ok_if (fun c => ok_some ⟨⟨by decide, by decide⟩, fun n => absurd rfl n, fun q => absurd (Int32.lt_iff_toInt_lt.mp c) (by have := Int32.le_iff_toInt_le.mp q.1; omega)⟩) (fun c => ok_if (fun d => ok_some ⟨⟨by decide, by decide⟩, fun n => absurd rfl n, fun q => absurd (Int32.lt_iff_toInt_lt.mp d) (by have := Int32.le_iff_toInt_le.mp q.2; omega)⟩) (fun d => ok_some ⟨⟨by decide, by decide⟩, fun _ => ⟨nlt c, nlt d⟩, fun _ => by decide⟩))
theorem sl_0 {a : Int32} {σ : SG} {ρ : RG} : ok (F_X11_isSlope a σ ρ) (fun q => ¬ q = 0 ↔ (-99 : Int32) ≤ a ∧ a ≤ (99 : Int32)) := by
  unfold F_X11_isSlope
  exact ok_bn wi_0 (fun r h => ok_gd (rg_isb h.1) (ok_some h.2))
theorem see_11 {a1 a2 : Int32} {σ : SG} {ρ : RG} : ok (F_X11_see a1 a2 σ ρ) (fun q => q.1 = seeA a1 a2) := by
  unfold F_X11_see
  refine ok_bn sl_0 (fun r1 h1 => ok_if (fun c => ok_some ?_) (fun c => ok_bn sl_0 (fun r3 h3 => ok_if (fun d => ok_some ?_) (fun d => ok_nm (fun _ _ => ok_nm (fun _ _ => ok_some ?_))))))
  · exact (if_neg (fun q => h1.mpr ⟨q.1, q.2.1⟩ c)).symm
  · exact (if_neg (fun q => h3.mpr ⟨q.2.2.1, q.2.2.2⟩ d)).symm
  · exact (if_pos ⟨(h1.mp c).1, (h1.mp c).2, (h3.mp d).1, (h3.mp d).2⟩).symm
theorem see_12 {a1 a2 : Int32} {σ : SG} {ρ : RG} : ok (F_X12_see a1 a2 σ ρ) (fun q => q.1 = seeA a1 a2) := by
  unfold F_X12_see
  refine ok_bn in_0 (fun r1 h1 => ok_if (fun c => ok_some ?_) (fun c => ok_bn in_0 (fun r3 h3 => ok_if (fun d => ok_some ?_) (fun d => ok_nm (fun _ _ => ok_nm (fun _ _ => ok_some ?_))))))
  · exact (if_neg (fun q => h1.2.mpr ⟨q.1, q.2.1⟩ c)).symm
  · exact (if_neg (fun q => h3.2.mpr ⟨q.2.2.1, q.2.2.2⟩ d)).symm
  · exact (if_pos ⟨(h1.2.mp c).1, (h1.2.mp c).2, (h3.2.mp d).1, (h3.2.mp d).2⟩).symm
theorem ok_and {α : Type} {o : Option α} {P Q : α → Prop} (h : ok o P) (h' : ok o Q) : ok o (fun q => P q ∧ Q q) := by
  obtain ⟨a, e, p⟩ := h
  obtain ⟨b, e', q⟩ := h'
  rw [e] at e'
  cases e'
  exact ⟨a, e, p, q⟩
theorem l_L_204 {xs : Nat → Int32} {L : Nat} {rec : Nat → (Nat → Nat) → (Nat → Nat) → SG → RG → Int32 → Option Unit} {N : Nat} {K len : Nat → Nat} {σ : SG} {ρ : RG} {v3 : Int32} (hL : L ≤ 3072) (h0 : 0 ≤ v3.toInt) (h6 : v3.toInt + 6 ≤ (L : Int)) (hrec : LR rec v3) (hB : BX 8 σ) (hQ : PR N K len ρ) : ok (F_L_204 xs L rec N K len σ ρ v3) (fun _ => True) := by
  unfold F_L_204
  refine ok_nm (fun x1 hx1 => ?_)
  refine ok_gd (lx (k := 1) hL h0 h6 hx1 (by decide)) ?_
  refine ok_bn2 (s_X11_feed hB hQ) (fun r3 σ3 qr3 => ?_)
  have bσ3 : BX 8 σ3 := qr3.2
  refine ok_nm (fun x4 hx4 => ?_)
  refine ok_gd (lx (k := 1) hL h0 h6 hx4 (by decide)) ?_
  refine ok_bn2 (s_X12_feed bσ3) (fun r6 σ6 qr6 => ?_)
  have bσ6 : BX 8 σ6 := qr6.2
  refine ok_nm (fun x7 hx7 => ?_)
  exact hrec _ _ _ _ _ _ hx7 bσ6 hQ
theorem l_L_227 {xs : Nat → Int32} {L : Nat} {rec : Nat → (Nat → Nat) → (Nat → Nat) → SG → RG → Int32 → Option Unit} {N : Nat} {K len : Nat → Nat} {σ : SG} {ρ : RG} {v3 : Int32} (hL : L ≤ 3072) (h0 : 0 ≤ v3.toInt) (h6 : v3.toInt + 6 ≤ (L : Int)) (hrec : LR rec v3) (hB : BX 8 σ) (hQ : PR N K len ρ) : ok (F_L_227 xs L rec N K len σ ρ v3) (fun _ => True) := by
  unfold F_L_227
  refine ok_bn3 (s_X11_board hB hQ) (fun r1 σ1 ρ1 qr1 => ?_)
  have bσ1 : BX 8 σ1 := qr1.1
  have hρ1 : PR N K len ρ1 := qr1.2
  refine ok_bn2 (s_X12_board bσ1) (fun r2 σ2 qr2 => ?_)
  have bσ2 : BX 8 σ2 := qr2
  refine ok_nm (fun x3 hx3 => ?_)
  exact hrec _ _ _ _ _ _ hx3 bσ2 hρ1
theorem l_L_240 {xs : Nat → Int32} {L : Nat} {rec : Nat → (Nat → Nat) → (Nat → Nat) → SG → RG → Int32 → Option Unit} {N : Nat} {K len : Nat → Nat} {σ : SG} {ρ : RG} {v3 : Int32} (hL : L ≤ 3072) (h0 : 0 ≤ v3.toInt) (h6 : v3.toInt + 6 ≤ (L : Int)) (hrec : LR rec v3) (hB : BX 8 σ) (hQ : PR N K len ρ) : ok (F_L_240 xs L rec N K len σ ρ v3) (fun _ => True) := by
  unfold F_L_240
  refine ok_nm (fun x1 hx1 => ?_)
  refine ok_gd (lx (k := 1) hL h0 h6 hx1 (by decide)) ?_
  refine ok_nm (fun x3 hx3 => ?_)
  refine ok_gd (lx (k := 2) hL h0 h6 hx3 (by decide)) ?_
  refine ok_nm (fun x5 hx5 => ?_)
  refine ok_gd (lx (k := 3) hL h0 h6 hx5 (by decide)) ?_
  refine ok_nm (fun x7 hx7 => ?_)
  refine ok_gd (lx (k := 4) hL h0 h6 hx7 (by decide)) ?_
  refine ok_nm (fun x9 hx9 => ?_)
  refine ok_gd (lx (k := 5) hL h0 h6 hx9 (by decide)) ?_
  refine ok_bnT (s_X11_cutter hB hQ) (fun r11 N11 K11 L11 σ11 ρ11 qr11 => ?_)
  have bσ11 : BX 8 σ11 := qr11.1
  have hρ11 : PR N11 K11 L11 ρ11 := qr11.2
  refine ok_nm (fun x12 hx12 => ?_)
  refine ok_gd (lx (k := 1) hL h0 h6 hx12 (by decide)) ?_
  refine ok_nm (fun x14 hx14 => ?_)
  refine ok_gd (lx (k := 2) hL h0 h6 hx14 (by decide)) ?_
  refine ok_nm (fun x16 hx16 => ?_)
  refine ok_gd (lx (k := 3) hL h0 h6 hx16 (by decide)) ?_
  refine ok_nm (fun x18 hx18 => ?_)
  refine ok_gd (lx (k := 4) hL h0 h6 hx18 (by decide)) ?_
  refine ok_nm (fun x20 hx20 => ?_)
  refine ok_gd (lx (k := 5) hL h0 h6 hx20 (by decide)) ?_
  refine ok_bn2 (s_X12_cutter bσ11) (fun r22 σ22 qr22 => ?_)
  have bσ22 : BX 8 σ22 := qr22.2
  refine ok_nm (fun x23 hx23 => ?_)
  exact hrec _ _ _ _ _ _ hx23 bσ22 hρ11
theorem l_L_303 {xs : Nat → Int32} {L : Nat} {rec : Nat → (Nat → Nat) → (Nat → Nat) → SG → RG → Int32 → Option Unit} {N : Nat} {K len : Nat → Nat} {σ : SG} {ρ : RG} {v3 : Int32} (hL : L ≤ 3072) (h0 : 0 ≤ v3.toInt) (h6 : v3.toInt + 6 ≤ (L : Int)) (hrec : LR rec v3) (hB : BX 8 σ) (hQ : PR N K len ρ) : ok (F_L_303 xs L rec N K len σ ρ v3) (fun _ => True) := by
  unfold F_L_303
  refine ok_nm (fun x1 hx1 => ?_)
  refine ok_gd (lx (k := 1) hL h0 h6 hx1 (by decide)) ?_
  refine ok_nm (fun x3 hx3 => ?_)
  refine ok_gd (lx (k := 2) hL h0 h6 hx3 (by decide)) ?_
  refine ok_bn (s_X11_of hB hQ) (fun r5 qr5 => ?_)
  refine ok_nm (fun x6 hx6 => ?_)
  refine ok_gd (lx (k := 1) hL h0 h6 hx6 (by decide)) ?_
  refine ok_nm (fun x8 hx8 => ?_)
  refine ok_gd (lx (k := 2) hL h0 h6 hx8 (by decide)) ?_
  refine ok_bn (s_X12_of hB) (fun r10 qr10 => ?_)
  refine ok_nm (fun x11 hx11 => ?_)
  exact hrec _ _ _ _ _ _ hx11 hB hQ
theorem l_L_336 {xs : Nat → Int32} {L : Nat} {rec : Nat → (Nat → Nat) → (Nat → Nat) → SG → RG → Int32 → Option Unit} {N : Nat} {K len : Nat → Nat} {σ : SG} {ρ : RG} {v3 : Int32} (hL : L ≤ 3072) (h0 : 0 ≤ v3.toInt) (h6 : v3.toInt + 6 ≤ (L : Int)) (hrec : LR rec v3) (hB : BX 8 σ) (hQ : PR N K len ρ) : ok (F_L_336 xs L rec N K len σ ρ v3) (fun _ => True) := by
  unfold F_L_336
  refine ok_nm (fun x1 hx1 => ?_)
  refine ok_gd (lx (k := 1) hL h0 h6 hx1 (by decide)) ?_
  refine ok_nm (fun x3 hx3 => ?_)
  refine ok_gd (lx (k := 2) hL h0 h6 hx3 (by decide)) ?_
  refine ok_bn2 (s_X11_thick hB hQ) (fun r5 σ5 qr5 => ?_)
  have bσ5 : BX 8 σ5 := qr5.2
  refine ok_nm (fun x6 hx6 => ?_)
  refine ok_gd (lx (k := 1) hL h0 h6 hx6 (by decide)) ?_
  refine ok_nm (fun x8 hx8 => ?_)
  refine ok_gd (lx (k := 2) hL h0 h6 hx8 (by decide)) ?_
  refine ok_bn2 (s_X12_thick bσ5) (fun r10 σ10 qr10 => ?_)
  have bσ10 : BX 8 σ10 := qr10.2
  refine ok_nm (fun x11 hx11 => ?_)
  exact hrec _ _ _ _ _ _ hx11 bσ10 hQ
theorem l_L_369 {xs : Nat → Int32} {L : Nat} {rec : Nat → (Nat → Nat) → (Nat → Nat) → SG → RG → Int32 → Option Unit} {N : Nat} {K len : Nat → Nat} {σ : SG} {ρ : RG} {v3 : Int32} (hL : L ≤ 3072) (h0 : 0 ≤ v3.toInt) (h6 : v3.toInt + 6 ≤ (L : Int)) (hrec : LR rec v3) (hB : BX 8 σ) (hQ : PR N K len ρ) : ok (F_L_369 xs L rec N K len σ ρ v3) (fun _ => True) := by
  unfold F_L_369
  refine ok_nm (fun x1 hx1 => ?_)
  refine ok_gd (lx (k := 1) hL h0 h6 hx1 (by decide)) ?_
  refine ok_nm (fun x3 hx3 => ?_)
  refine ok_gd (lx (k := 2) hL h0 h6 hx3 (by decide)) ?_
  refine ok_nm (fun x5 hx5 => ?_)
  refine ok_gd (lx (k := 3) hL h0 h6 hx5 (by decide)) ?_
  refine ok_bn2 (s_X11_row hB hQ) (fun r7 σ7 qr7 => ?_)
  have bσ7 : BX 8 σ7 := qr7.2
  refine ok_nm (fun x8 hx8 => ?_)
  refine ok_gd (lx (k := 1) hL h0 h6 hx8 (by decide)) ?_
  refine ok_nm (fun x10 hx10 => ?_)
  refine ok_gd (lx (k := 2) hL h0 h6 hx10 (by decide)) ?_
  refine ok_nm (fun x12 hx12 => ?_)
  refine ok_gd (lx (k := 3) hL h0 h6 hx12 (by decide)) ?_
  refine ok_bn2 (s_X12_row bσ7) (fun r14 σ14 qr14 => ?_)
  have bσ14 : BX 8 σ14 := qr14.2
  refine ok_nm (fun x15 hx15 => ?_)
  exact hrec _ _ _ _ _ _ hx15 bσ14 hQ
theorem l_L_412 {xs : Nat → Int32} {L : Nat} {rec : Nat → (Nat → Nat) → (Nat → Nat) → SG → RG → Int32 → Option Unit} {N : Nat} {K len : Nat → Nat} {σ : SG} {ρ : RG} {v3 : Int32} (hL : L ≤ 3072) (h0 : 0 ≤ v3.toInt) (h6 : v3.toInt + 6 ≤ (L : Int)) (hrec : LR rec v3) (hB : BX 8 σ) (hQ : PR N K len ρ) : ok (F_L_412 xs L rec N K len σ ρ v3) (fun _ => True) := by
  unfold F_L_412
  refine ok_nm (fun x1 hx1 => ?_)
  refine ok_gd (lx (k := 1) hL h0 h6 hx1 (by decide)) ?_
  refine ok_bn2 (s_X11_loaf hB hQ) (fun r3 σ3 qr3 => ?_)
  have bσ3 : BX 8 σ3 := qr3.2
  refine ok_nm (fun x4 hx4 => ?_)
  refine ok_gd (lx (k := 1) hL h0 h6 hx4 (by decide)) ?_
  refine ok_bn2 (s_X12_loaf bσ3) (fun r6 σ6 qr6 => ?_)
  have bσ6 : BX 8 σ6 := qr6.2
  refine ok_nm (fun x7 hx7 => ?_)
  exact hrec _ _ _ _ _ _ hx7 bσ6 hQ
theorem l_L_435 {xs : Nat → Int32} {L : Nat} {rec : Nat → (Nat → Nat) → (Nat → Nat) → SG → RG → Int32 → Option Unit} {N : Nat} {K len : Nat → Nat} {σ : SG} {ρ : RG} {v3 : Int32} (hL : L ≤ 3072) (h0 : 0 ≤ v3.toInt) (h6 : v3.toInt + 6 ≤ (L : Int)) (hrec : LR rec v3) (hB : BX 8 σ) (hQ : PR N K len ρ) : ok (F_L_435 xs L rec N K len σ ρ v3) (fun _ => True) := by
  unfold F_L_435
  refine ok_nm (fun x1 hx1 => ?_)
  refine ok_gd (lx (k := 1) hL h0 h6 hx1 (by decide)) ?_
  refine ok_bn (s_X11_told hB hQ) (fun r3 qr3 => ?_)
  refine ok_nm (fun x4 hx4 => ?_)
  refine ok_gd (lx (k := 1) hL h0 h6 hx4 (by decide)) ?_
  refine ok_bn (s_X12_told (bf_x hB)) (fun r6 qr6 => ?_)
  refine ok_nm (fun x7 hx7 => ?_)
  exact hrec _ _ _ _ _ _ hx7 hB hQ
theorem l_L_458 {xs : Nat → Int32} {L : Nat} {rec : Nat → (Nat → Nat) → (Nat → Nat) → SG → RG → Int32 → Option Unit} {N : Nat} {K len : Nat → Nat} {σ : SG} {ρ : RG} {v3 : Int32} (hL : L ≤ 3072) (h0 : 0 ≤ v3.toInt) (h6 : v3.toInt + 6 ≤ (L : Int)) (hrec : LR rec v3) (hB : BX 8 σ) (hQ : PR N K len ρ) : ok (F_L_458 xs L rec N K len σ ρ v3) (fun _ => True) := by
  unfold F_L_458
  refine ok_nm (fun x1 hx1 => ?_)
  refine ok_gd (lx (k := 1) hL h0 h6 hx1 (by decide)) ?_
  refine ok_bn2 (s_X11_cut hB hQ) (fun r3 σ3 qr3 => ?_)
  have bσ3 : BX 8 σ3 := qr3.2
  refine ok_nm (fun x4 hx4 => ?_)
  refine ok_gd (lx (k := 1) hL h0 h6 hx4 (by decide)) ?_
  refine ok_bn2 (s_X12_cut (bf_x bσ3)) (fun r6 σ6 qr6 => ?_)
  have bσ6 : BX 8 σ6 := qr6.2.1
  refine ok_nm (fun x7 hx7 => ?_)
  exact hrec _ _ _ _ _ _ hx7 bσ6 hQ
theorem l_L_481 {xs : Nat → Int32} {L : Nat} {rec : Nat → (Nat → Nat) → (Nat → Nat) → SG → RG → Int32 → Option Unit} {N : Nat} {K len : Nat → Nat} {σ : SG} {ρ : RG} {v3 : Int32} (hL : L ≤ 3072) (h0 : 0 ≤ v3.toInt) (h6 : v3.toInt + 6 ≤ (L : Int)) (hrec : LR rec v3) (hB : BX 8 σ) (hQ : PR N K len ρ) : ok (F_L_481 xs L rec N K len σ ρ v3) (fun _ => True) := by
  unfold F_L_481
  refine ok_bn2 (s_X11_right hB hQ) (fun r1 σ1 qr1 => ?_)
  have bσ1 : BX 8 σ1 := qr1.2
  refine ok_bn2 (s_X12_right (bf_x bσ1)) (fun r2 σ2 qr2 => ?_)
  have bσ2 : BX 8 σ2 := qr2.2.1
  refine ok_nm (fun x3 hx3 => ?_)
  exact hrec _ _ _ _ _ _ hx3 bσ2 hQ
theorem l_L_494 {xs : Nat → Int32} {L : Nat} {rec : Nat → (Nat → Nat) → (Nat → Nat) → SG → RG → Int32 → Option Unit} {N : Nat} {K len : Nat → Nat} {σ : SG} {ρ : RG} {v3 : Int32} (hL : L ≤ 3072) (h0 : 0 ≤ v3.toInt) (h6 : v3.toInt + 6 ≤ (L : Int)) (hrec : LR rec v3) (hB : BX 8 σ) (hQ : PR N K len ρ) : ok (F_L_494 xs L rec N K len σ ρ v3) (fun _ => True) := by
  unfold F_L_494
  refine ok_nm (fun x1 hx1 => ?_)
  refine ok_gd (lx (k := 1) hL h0 h6 hx1 (by decide)) ?_
  refine ok_if (fun _ => ?_) (fun _ => ?_)
  · refine ok_bn2 (s_X11_turn hB hQ) (fun r4 σ4 qr4 => ?_)
    have bσ4 : BX 8 σ4 := qr4.2
    refine ok_nm (fun x5 hx5 => ?_)
    refine ok_gd (lx (k := 1) hL h0 h6 hx5 (by decide)) ?_
    refine ok_if (fun _ => ?_) (fun _ => ?_)
    · refine ok_bn2 (s_X12_turn (bf_x bσ4)) (fun r8 σ8 qr8 => ?_)
      have bσ8 : BX 8 σ8 := qr8.2.1
      refine ok_nm (fun x9 hx9 => ?_)
      exact hrec _ _ _ _ _ _ hx9 bσ8 hQ
    · refine ok_bn2 (s_X12_turn (bf_x bσ4)) (fun r10 σ10 qr10 => ?_)
      have bσ10 : BX 8 σ10 := qr10.2.1
      refine ok_nm (fun x11 hx11 => ?_)
      exact hrec _ _ _ _ _ _ hx11 bσ10 hQ
  · refine ok_bn2 (s_X11_turn hB hQ) (fun r12 σ12 qr12 => ?_)
    have bσ12 : BX 8 σ12 := qr12.2
    refine ok_nm (fun x13 hx13 => ?_)
    refine ok_gd (lx (k := 1) hL h0 h6 hx13 (by decide)) ?_
    refine ok_if (fun _ => ?_) (fun _ => ?_)
    · refine ok_bn2 (s_X12_turn (bf_x bσ12)) (fun r16 σ16 qr16 => ?_)
      have bσ16 : BX 8 σ16 := qr16.2.1
      refine ok_nm (fun x17 hx17 => ?_)
      exact hrec _ _ _ _ _ _ hx17 bσ16 hQ
    · refine ok_bn2 (s_X12_turn (bf_x bσ12)) (fun r18 σ18 qr18 => ?_)
      have bσ18 : BX 8 σ18 := qr18.2.1
      refine ok_nm (fun x19 hx19 => ?_)
      exact hrec _ _ _ _ _ _ hx19 bσ18 hQ
theorem l_L_533 {xs : Nat → Int32} {L : Nat} {rec : Nat → (Nat → Nat) → (Nat → Nat) → SG → RG → Int32 → Option Unit} {N : Nat} {K len : Nat → Nat} {σ : SG} {ρ : RG} {v3 : Int32} (hL : L ≤ 3072) (h0 : 0 ≤ v3.toInt) (h6 : v3.toInt + 6 ≤ (L : Int)) (hrec : LR rec v3) (hB : BX 8 σ) (hQ : PR N K len ρ) : ok (F_L_533 xs L rec N K len σ ρ v3) (fun _ => True) := by
  unfold F_L_533
  refine ok_nm (fun x1 hx1 => ?_)
  refine ok_gd (lx (k := 1) hL h0 h6 hx1 (by decide)) ?_
  refine ok_nm (fun x3 hx3 => ?_)
  refine ok_gd (lx (k := 2) hL h0 h6 hx3 (by decide)) ?_
  refine ok_bn2 (s_X11_would hB hQ) (fun r5 σ5 qr5 => ?_)
  have bσ5 : BX 8 σ5 := qr5.2
  refine ok_nm (fun x6 hx6 => ?_)
  refine ok_gd (lx (k := 1) hL h0 h6 hx6 (by decide)) ?_
  refine ok_nm (fun x8 hx8 => ?_)
  refine ok_gd (lx (k := 2) hL h0 h6 hx8 (by decide)) ?_
  refine ok_bn2 (s_X12_would (bf_x bσ5)) (fun r10 σ10 qr10 => ?_)
  have bσ10 : BX 8 σ10 := qr10.2.1
  refine ok_nm (fun x11 hx11 => ?_)
  exact hrec _ _ _ _ _ _ hx11 bσ10 hQ
theorem l_L_566 {xs : Nat → Int32} {L : Nat} {rec : Nat → (Nat → Nat) → (Nat → Nat) → SG → RG → Int32 → Option Unit} {N : Nat} {K len : Nat → Nat} {σ : SG} {ρ : RG} {v3 : Int32} (hL : L ≤ 3072) (h0 : 0 ≤ v3.toInt) (h6 : v3.toInt + 6 ≤ (L : Int)) (hrec : LR rec v3) (hB : BX 8 σ) (hQ : PR N K len ρ) : ok (F_L_566 xs L rec N K len σ ρ v3) (fun _ => True) := by
  unfold F_L_566
  refine ok_nm (fun x1 hx1 => ?_)
  refine ok_gd (lx (k := 1) hL h0 h6 hx1 (by decide)) ?_
  refine ok_nm (fun x3 hx3 => ?_)
  refine ok_gd (lx (k := 2) hL h0 h6 hx3 (by decide)) ?_
  refine ok_bn2 (s_X11_on hB hQ) (fun r5 σ5 qr5 => ?_)
  have bσ5 : BX 8 σ5 := qr5.2
  refine ok_nm (fun x6 hx6 => ?_)
  refine ok_gd (lx (k := 1) hL h0 h6 hx6 (by decide)) ?_
  refine ok_nm (fun x8 hx8 => ?_)
  refine ok_gd (lx (k := 2) hL h0 h6 hx8 (by decide)) ?_
  refine ok_bn2 (s_X12_on (bf_x bσ5)) (fun r10 σ10 qr10 => ?_)
  have bσ10 : BX 8 σ10 := qr10.2.1
  refine ok_nm (fun x11 hx11 => ?_)
  exact hrec _ _ _ _ _ _ hx11 bσ10 hQ
theorem l_L_599 {xs : Nat → Int32} {L : Nat} {rec : Nat → (Nat → Nat) → (Nat → Nat) → SG → RG → Int32 → Option Unit} {N : Nat} {K len : Nat → Nat} {σ : SG} {ρ : RG} {v3 : Int32} (hL : L ≤ 3072) (h0 : 0 ≤ v3.toInt) (h6 : v3.toInt + 6 ≤ (L : Int)) (hrec : LR rec v3) (hB : BX 8 σ) (hQ : PR N K len ρ) : ok (F_L_599 xs L rec N K len σ ρ v3) (fun _ => True) := by
  unfold F_L_599
  refine ok_nm (fun x1 hx1 => ?_)
  refine ok_gd (lx (k := 1) hL h0 h6 hx1 (by decide)) ?_
  refine ok_nm (fun x3 hx3 => ?_)
  refine ok_gd (lx (k := 2) hL h0 h6 hx3 (by decide)) ?_
  refine ok_bn2 (s_X11_toasted hB hQ) (fun r5 σ5 qr5 => ?_)
  have bσ5 : BX 8 σ5 := qr5.2
  refine ok_nm (fun x6 hx6 => ?_)
  refine ok_gd (lx (k := 1) hL h0 h6 hx6 (by decide)) ?_
  refine ok_nm (fun x8 hx8 => ?_)
  refine ok_gd (lx (k := 2) hL h0 h6 hx8 (by decide)) ?_
  refine ok_bn2 (s_X12_toasted (bf_x bσ5)) (fun r10 σ10 qr10 => ?_)
  have bσ10 : BX 8 σ10 := qr10.2.1
  refine ok_nm (fun x11 hx11 => ?_)
  exact hrec _ _ _ _ _ _ hx11 bσ10 hQ
theorem l_L_632 {xs : Nat → Int32} {L : Nat} {rec : Nat → (Nat → Nat) → (Nat → Nat) → SG → RG → Int32 → Option Unit} {N : Nat} {K len : Nat → Nat} {σ : SG} {ρ : RG} {v3 : Int32} (hL : L ≤ 3072) (h0 : 0 ≤ v3.toInt) (h6 : v3.toInt + 6 ≤ (L : Int)) (hrec : LR rec v3) (hB : BX 8 σ) (hQ : PR N K len ρ) : ok (F_L_632 xs L rec N K len σ ρ v3) (fun _ => True) := by
  unfold F_L_632
  refine ok_bn2 (s_X11_lasts hB hQ) (fun r1 σ1 qr1 => ?_)
  have bσ1 : BX 8 σ1 := qr1.2
  refine ok_bn2 (s_X12_lasts (bf_x bσ1)) (fun r2 σ2 qr2 => ?_)
  have bσ2 : BX 8 σ2 := qr2.2.1
  refine ok_nm (fun x3 hx3 => ?_)
  exact hrec _ _ _ _ _ _ hx3 bσ2 hQ
theorem l_L_645 {xs : Nat → Int32} {L : Nat} {rec : Nat → (Nat → Nat) → (Nat → Nat) → SG → RG → Int32 → Option Unit} {N : Nat} {K len : Nat → Nat} {σ : SG} {ρ : RG} {v3 : Int32} (hL : L ≤ 3072) (h0 : 0 ≤ v3.toInt) (h6 : v3.toInt + 6 ≤ (L : Int)) (hrec : LR rec v3) (hB : BX 8 σ) (hQ : PR N K len ρ) : ok (F_L_645 xs L rec N K len σ ρ v3) (fun _ => True) := by
  unfold F_L_645
  refine ok_nm (fun x1 hx1 => ?_)
  refine ok_gd (lx (k := 1) hL h0 h6 hx1 (by decide)) ?_
  refine ok_bn2 (s_X11_order hB hQ) (fun r3 σ3 qr3 => ?_)
  have bσ3 : BX 8 σ3 := qr3.2
  refine ok_nm (fun x4 hx4 => ?_)
  refine ok_gd (lx (k := 1) hL h0 h6 hx4 (by decide)) ?_
  refine ok_bn2 (s_X12_order (bf_x bσ3)) (fun r6 σ6 qr6 => ?_)
  have bσ6 : BX 8 σ6 := qr6.1
  refine ok_nm (fun x7 hx7 => ?_)
  exact hrec _ _ _ _ _ _ hx7 bσ6 hQ
theorem l_L_668 {xs : Nat → Int32} {L : Nat} {rec : Nat → (Nat → Nat) → (Nat → Nat) → SG → RG → Int32 → Option Unit} {N : Nat} {K len : Nat → Nat} {σ : SG} {ρ : RG} {v3 : Int32} (hL : L ≤ 3072) (h0 : 0 ≤ v3.toInt) (h6 : v3.toInt + 6 ≤ (L : Int)) (hrec : LR rec v3) (hB : BX 8 σ) (hQ : PR N K len ρ) : ok (F_L_668 xs L rec N K len σ ρ v3) (fun _ => True) := by
  unfold F_L_668
  refine ok_bn2 (s_X11_cancel hB hQ) (fun r1 σ1 qr1 => ?_)
  have bσ1 : BX 8 σ1 := qr1.2
  refine ok_bn2 (s_X12_cancel (bf_x bσ1)) (fun r2 σ2 qr2 => ?_)
  have bσ2 : BX 8 σ2 := qr2.2.1
  refine ok_nm (fun x3 hx3 => ?_)
  exact hrec _ _ _ _ _ _ hx3 bσ2 hQ
theorem l_L_681 {xs : Nat → Int32} {L : Nat} {rec : Nat → (Nat → Nat) → (Nat → Nat) → SG → RG → Int32 → Option Unit} {N : Nat} {K len : Nat → Nat} {σ : SG} {ρ : RG} {v3 : Int32} (hL : L ≤ 3072) (h0 : 0 ≤ v3.toInt) (h6 : v3.toInt + 6 ≤ (L : Int)) (hrec : LR rec v3) (hB : BX 8 σ) (hQ : PR N K len ρ) : ok (F_L_681 xs L rec N K len σ ρ v3) (fun _ => True) := by
  unfold F_L_681
  refine ok_nm (fun x1 hx1 => ?_)
  refine ok_gd (lx (k := 1) hL h0 h6 hx1 (by decide)) ?_
  refine ok_bn2 (s_X11_enough hB hQ) (fun r3 σ3 qr3 => ?_)
  have bσ3 : BX 8 σ3 := qr3.2
  refine ok_nm (fun x4 hx4 => ?_)
  refine ok_gd (lx (k := 1) hL h0 h6 hx4 (by decide)) ?_
  refine ok_bn2 (s_X12_enough (bf_x bσ3)) (fun r6 σ6 qr6 => ?_)
  have bσ6 : BX 8 σ6 := qr6.2.1
  refine ok_nm (fun x7 hx7 => ?_)
  exact hrec _ _ _ _ _ _ hx7 bσ6 hQ
theorem l_L_704 {xs : Nat → Int32} {L : Nat} {rec : Nat → (Nat → Nat) → (Nat → Nat) → SG → RG → Int32 → Option Unit} {N : Nat} {K len : Nat → Nat} {σ : SG} {ρ : RG} {v3 : Int32} (hL : L ≤ 3072) (h0 : 0 ≤ v3.toInt) (h6 : v3.toInt + 6 ≤ (L : Int)) (hrec : LR rec v3) (hB : BX 8 σ) (hQ : PR N K len ρ) : ok (F_L_704 xs L rec N K len σ ρ v3) (fun _ => True) := by
  unfold F_L_704
  refine ok_nm (fun x1 hx1 => ?_)
  refine ok_gd (lx (k := 1) hL h0 h6 hx1 (by decide)) ?_
  refine ok_nm (fun x3 hx3 => ?_)
  refine ok_gd (lx (k := 2) hL h0 h6 hx3 (by decide)) ?_
  refine ok_bn2 (s_X11_when hB hQ) (fun r5 σ5 qr5 => ?_)
  have bσ5 : BX 8 σ5 := qr5.2
  refine ok_nm (fun x6 hx6 => ?_)
  refine ok_gd (lx (k := 1) hL h0 h6 hx6 (by decide)) ?_
  refine ok_nm (fun x8 hx8 => ?_)
  refine ok_gd (lx (k := 2) hL h0 h6 hx8 (by decide)) ?_
  refine ok_bn2 (s_X12_when (bf_x bσ5)) (fun r10 σ10 qr10 => ?_)
  have bσ10 : BX 8 σ10 := qr10.2.1
  refine ok_nm (fun x11 hx11 => ?_)
  exact hrec _ _ _ _ _ _ hx11 bσ10 hQ
theorem l_L_737 {xs : Nat → Int32} {L : Nat} {rec : Nat → (Nat → Nat) → (Nat → Nat) → SG → RG → Int32 → Option Unit} {N : Nat} {K len : Nat → Nat} {σ : SG} {ρ : RG} {v3 : Int32} (hL : L ≤ 3072) (h0 : 0 ≤ v3.toInt) (h6 : v3.toInt + 6 ≤ (L : Int)) (hrec : LR rec v3) (hB : BX 8 σ) (hQ : PR N K len ρ) : ok (F_L_737 xs L rec N K len σ ρ v3) (fun _ => True) := by
  unfold F_L_737
  refine ok_nm (fun x1 hx1 => ?_)
  refine ok_gd (lx (k := 1) hL h0 h6 hx1 (by decide)) ?_
  refine ok_bn2 (s_X11_guide hB hQ) (fun r3 σ3 qr3 => ?_)
  have bσ3 : BX 8 σ3 := qr3.2
  refine ok_nm (fun x4 hx4 => ?_)
  refine ok_gd (lx (k := 1) hL h0 h6 hx4 (by decide)) ?_
  refine ok_bn2 (s_X12_guide (bf_x bσ3)) (fun r6 σ6 qr6 => ?_)
  have bσ6 : BX 8 σ6 := qr6.2.1
  refine ok_nm (fun x7 hx7 => ?_)
  exact hrec _ _ _ _ _ _ hx7 bσ6 hQ
theorem l_L_760 {xs : Nat → Int32} {L : Nat} {rec : Nat → (Nat → Nat) → (Nat → Nat) → SG → RG → Int32 → Option Unit} {N : Nat} {K len : Nat → Nat} {σ : SG} {ρ : RG} {v3 : Int32} (hL : L ≤ 3072) (h0 : 0 ≤ v3.toInt) (h6 : v3.toInt + 6 ≤ (L : Int)) (hrec : LR rec v3) (hB : BX 8 σ) (hQ : PR N K len ρ) : ok (F_L_760 xs L rec N K len σ ρ v3) (fun _ => True) := by
  unfold F_L_760
  refine ok_nm (fun x1 hx1 => ?_)
  refine ok_gd (lx (k := 1) hL h0 h6 hx1 (by decide)) ?_
  refine ok_bn2 (s_X11_again hB hQ) (fun r3 σ3 qr3 => ?_)
  have bσ3 : BX 8 σ3 := qr3.2
  refine ok_nm (fun x4 hx4 => ?_)
  refine ok_gd (lx (k := 1) hL h0 h6 hx4 (by decide)) ?_
  refine ok_bn2 (s_X12_again (bf_x bσ3)) (fun r6 σ6 qr6 => ?_)
  have bσ6 : BX 8 σ6 := qr6.2.1
  refine ok_nm (fun x7 hx7 => ?_)
  exact hrec _ _ _ _ _ _ hx7 bσ6 hQ
theorem l_L_783 {xs : Nat → Int32} {L : Nat} {rec : Nat → (Nat → Nat) → (Nat → Nat) → SG → RG → Int32 → Option Unit} {N : Nat} {K len : Nat → Nat} {σ : SG} {ρ : RG} {v3 : Int32} (hL : L ≤ 3072) (h0 : 0 ≤ v3.toInt) (h6 : v3.toInt + 6 ≤ (L : Int)) (hrec : LR rec v3) (hB : BX 8 σ) (hQ : PR N K len ρ) : ok (F_L_783 xs L rec N K len σ ρ v3) (fun _ => True) := by
  unfold F_L_783
  refine ok_nm (fun x1 hx1 => ?_)
  refine ok_gd (lx (k := 1) hL h0 h6 hx1 (by decide)) ?_
  refine ok_nm (fun x3 hx3 => ?_)
  refine ok_gd (lx (k := 2) hL h0 h6 hx3 (by decide)) ?_
  refine ok_bn2 (s_X11_evener hB hQ) (fun r5 σ5 qr5 => ?_)
  have bσ5 : BX 8 σ5 := qr5.2
  refine ok_nm (fun x6 hx6 => ?_)
  refine ok_gd (lx (k := 1) hL h0 h6 hx6 (by decide)) ?_
  refine ok_nm (fun x8 hx8 => ?_)
  refine ok_gd (lx (k := 2) hL h0 h6 hx8 (by decide)) ?_
  refine ok_bn2 (s_X12_evener (bf_x bσ5)) (fun r10 σ10 qr10 => ?_)
  have bσ10 : BX 8 σ10 := qr10.2.1
  refine ok_nm (fun x11 hx11 => ?_)
  exact hrec _ _ _ _ _ _ hx11 bσ10 hQ
theorem l_L_816 {xs : Nat → Int32} {L : Nat} {rec : Nat → (Nat → Nat) → (Nat → Nat) → SG → RG → Int32 → Option Unit} {N : Nat} {K len : Nat → Nat} {σ : SG} {ρ : RG} {v3 : Int32} (hL : L ≤ 3072) (h0 : 0 ≤ v3.toInt) (h6 : v3.toInt + 6 ≤ (L : Int)) (hrec : LR rec v3) (hB : BX 8 σ) (hQ : PR N K len ρ) : ok (F_L_816 xs L rec N K len σ ρ v3) (fun _ => True) := by
  unfold F_L_816
  refine ok_nm (fun x1 hx1 => ?_)
  refine ok_gd (lx (k := 1) hL h0 h6 hx1 (by decide)) ?_
  refine ok_nm (fun x3 hx3 => ?_)
  refine ok_gd (lx (k := 2) hL h0 h6 hx3 (by decide)) ?_
  refine ok_nm (fun x5 hx5 => ?_)
  refine ok_gd (lx (k := 3) hL h0 h6 hx5 (by decide)) ?_
  refine ok_nm (fun x7 hx7 => ?_)
  refine ok_gd (lx (k := 4) hL h0 h6 hx7 (by decide)) ?_
  refine ok_bn2 (s_X11_game hB hQ) (fun r9 σ9 qr9 => ?_)
  have bσ9 : BX 8 σ9 := qr9.2
  refine ok_nm (fun x10 hx10 => ?_)
  refine ok_gd (lx (k := 1) hL h0 h6 hx10 (by decide)) ?_
  refine ok_nm (fun x12 hx12 => ?_)
  refine ok_gd (lx (k := 2) hL h0 h6 hx12 (by decide)) ?_
  refine ok_nm (fun x14 hx14 => ?_)
  refine ok_gd (lx (k := 3) hL h0 h6 hx14 (by decide)) ?_
  refine ok_nm (fun x16 hx16 => ?_)
  refine ok_gd (lx (k := 4) hL h0 h6 hx16 (by decide)) ?_
  refine ok_bn2 (s_X12_game (bf_x bσ9)) (fun r18 σ18 qr18 => ?_)
  have bσ18 : BX 8 σ18 := qr18.2.1
  refine ok_nm (fun x19 hx19 => ?_)
  exact hrec _ _ _ _ _ _ hx19 bσ18 hQ
theorem l_L_869 {xs : Nat → Int32} {L : Nat} {rec : Nat → (Nat → Nat) → (Nat → Nat) → SG → RG → Int32 → Option Unit} {N : Nat} {K len : Nat → Nat} {σ : SG} {ρ : RG} {v3 : Int32} (hL : L ≤ 3072) (h0 : 0 ≤ v3.toInt) (h6 : v3.toInt + 6 ≤ (L : Int)) (hrec : LR rec v3) (hB : BX 8 σ) (hQ : PR N K len ρ) : ok (F_L_869 xs L rec N K len σ ρ v3) (fun _ => True) := by
  unfold F_L_869
  refine ok_nm (fun x1 hx1 => ?_)
  refine ok_gd (lx (k := 1) hL h0 h6 hx1 (by decide)) ?_
  refine ok_nm (fun x3 hx3 => ?_)
  refine ok_gd (lx (k := 2) hL h0 h6 hx3 (by decide)) ?_
  refine ok_bn (s_X11_cheese hB hQ) (fun r5 qr5 => ?_)
  refine ok_nm (fun x6 hx6 => ?_)
  refine ok_gd (lx (k := 1) hL h0 h6 hx6 (by decide)) ?_
  refine ok_nm (fun x8 hx8 => ?_)
  refine ok_gd (lx (k := 2) hL h0 h6 hx8 (by decide)) ?_
  refine ok_bn2 (s_X12_cheese (bf_x hB)) (fun r10 σ10 qr10 => ?_)
  have bσ10 : BX 8 σ10 := qr10.2.1
  refine ok_nm (fun x11 hx11 => ?_)
  exact hrec _ _ _ _ _ _ hx11 bσ10 hQ
theorem l_L_902 {xs : Nat → Int32} {L : Nat} {rec : Nat → (Nat → Nat) → (Nat → Nat) → SG → RG → Int32 → Option Unit} {N : Nat} {K len : Nat → Nat} {σ : SG} {ρ : RG} {v3 : Int32} (hL : L ≤ 3072) (h0 : 0 ≤ v3.toInt) (h6 : v3.toInt + 6 ≤ (L : Int)) (hrec : LR rec v3) (hB : BX 8 σ) (hQ : PR N K len ρ) : ok (F_L_902 xs L rec N K len σ ρ v3) (fun _ => True) := by
  unfold F_L_902
  refine ok_nm (fun x1 hx1 => ?_)
  refine ok_gd (lx (k := 1) hL h0 h6 hx1 (by decide)) ?_
  refine ok_nm (fun x3 hx3 => ?_)
  refine ok_gd (lx (k := 2) hL h0 h6 hx3 (by decide)) ?_
  refine ok_bn2 (ok_and (s_X11_see hB hQ) see_11) (fun r5 σ5 qr5 => ?_)
  have bσ5 : BX 8 σ5 := qr5.1.2
  refine ok_nm (fun x6 hx6 => ?_)
  refine ok_gd (lx (k := 1) hL h0 h6 hx6 (by decide)) ?_
  refine ok_nm (fun x8 hx8 => ?_)
  refine ok_gd (lx (k := 2) hL h0 h6 hx8 (by decide)) ?_
  refine ok_bn2 (ok_and (s_X12_see bσ5) see_12) (fun r10 σ10 qr10 => ?_)
  have bσ10 : BX 8 σ10 := qr10.1.2
  refine ok_if (fun _ => ?_) (fun c => absurd (qr5.2.trans (Eq.trans (by rw [hx1, hx3, hx6, hx8]) qr10.2.symm)) c)
  refine ok_nm (fun x12 hx12 => ?_)
  exact hrec _ _ _ _ _ _ hx12 bσ10 hQ
theorem l_L_935 {xs : Nat → Int32} {L : Nat} {rec : Nat → (Nat → Nat) → (Nat → Nat) → SG → RG → Int32 → Option Unit} {N : Nat} {K len : Nat → Nat} {σ : SG} {ρ : RG} {v3 : Int32} (hL : L ≤ 3072) (h0 : 0 ≤ v3.toInt) (h6 : v3.toInt + 6 ≤ (L : Int)) (hrec : LR rec v3) (hB : BX 8 σ) (hQ : PR N K len ρ) : ok (F_L_935 xs L rec N K len σ ρ v3) (fun _ => True) := by
  unfold F_L_935
  refine ok_bn2 (s_X11_who hB hQ) (fun r1 σ1 qr1 => ?_)
  have bσ1 : BX 8 σ1 := qr1.2
  refine ok_bn2 (s_X12_who (bf_x bσ1)) (fun r2 σ2 qr2 => ?_)
  have bσ2 : BX 8 σ2 := qr2.2.1
  refine ok_nm (fun x3 hx3 => ?_)
  exact hrec _ _ _ _ _ _ hx3 bσ2 hQ
theorem l_L_948 {xs : Nat → Int32} {L : Nat} {rec : Nat → (Nat → Nat) → (Nat → Nat) → SG → RG → Int32 → Option Unit} {N : Nat} {K len : Nat → Nat} {σ : SG} {ρ : RG} {v3 : Int32} (hL : L ≤ 3072) (h0 : 0 ≤ v3.toInt) (h6 : v3.toInt + 6 ≤ (L : Int)) (hrec : LR rec v3) (hB : BX 8 σ) (hQ : PR N K len ρ) : ok (F_L_948 xs L rec N K len σ ρ v3) (fun _ => True) := by
  unfold F_L_948
  refine ok_nm (fun x1 hx1 => ?_)
  refine ok_gd (lx (k := 1) hL h0 h6 hx1 (by decide)) ?_
  refine ok_bn2 (s_X11_week hB hQ) (fun r3 σ3 qr3 => ?_)
  have bσ3 : BX 8 σ3 := qr3.2
  refine ok_nm (fun x4 hx4 => ?_)
  refine ok_gd (lx (k := 1) hL h0 h6 hx4 (by decide)) ?_
  refine ok_bn2 (s_X12_week bσ3) (fun r6 σ6 qr6 => ?_)
  have bσ6 : BX 8 σ6 := qr6.2
  refine ok_nm (fun x7 hx7 => ?_)
  exact hrec _ _ _ _ _ _ hx7 bσ6 hQ
theorem l_L_971 {xs : Nat → Int32} {L : Nat} {rec : Nat → (Nat → Nat) → (Nat → Nat) → SG → RG → Int32 → Option Unit} {N : Nat} {K len : Nat → Nat} {σ : SG} {ρ : RG} {v3 : Int32} (hL : L ≤ 3072) (h0 : 0 ≤ v3.toInt) (h6 : v3.toInt + 6 ≤ (L : Int)) (hrec : LR rec v3) (hB : BX 8 σ) (hQ : PR N K len ρ) : ok (F_L_971 xs L rec N K len σ ρ v3) (fun _ => True) := by
  unfold F_L_971
  refine ok_bn2 (s_X11_clear hB hQ) (fun r1 σ1 qr1 => ?_)
  have bσ1 : BX 8 σ1 := qr1.2
  refine ok_bn2 (s_X12_clear bσ1) (fun r2 σ2 qr2 => ?_)
  have bσ2 : BX 8 σ2 := qr2.2
  refine ok_nm (fun x3 hx3 => ?_)
  exact hrec _ _ _ _ _ _ hx3 bσ2 hQ
theorem l_L_984 {xs : Nat → Int32} {L : Nat} {rec : Nat → (Nat → Nat) → (Nat → Nat) → SG → RG → Int32 → Option Unit} {N : Nat} {K len : Nat → Nat} {σ : SG} {ρ : RG} {v3 : Int32} (hL : L ≤ 3072) (h0 : 0 ≤ v3.toInt) (h6 : v3.toInt + 6 ≤ (L : Int)) (hrec : LR rec v3) (hB : BX 8 σ) (hQ : PR N K len ρ) : ok (F_L_984 xs L rec N K len σ ρ v3) (fun _ => True) := by
  unfold F_L_984
  refine ok_nm (fun x1 hx1 => ?_)
  refine ok_gd (lx (k := 1) hL h0 h6 hx1 (by decide)) ?_
  refine ok_bn2 (s_X11_rows hB hQ) (fun r3 σ3 qr3 => ?_)
  have bσ3 : BX 8 σ3 := qr3.2
  refine ok_nm (fun x4 hx4 => ?_)
  refine ok_gd (lx (k := 1) hL h0 h6 hx4 (by decide)) ?_
  refine ok_bn2 (s_X12_rows (bf_x bσ3)) (fun r6 σ6 qr6 => ?_)
  have bσ6 : BX 8 σ6 := qr6.1
  refine ok_nm (fun x7 hx7 => ?_)
  exact hrec _ _ _ _ _ _ hx7 bσ6 hQ
theorem l_L_1007 {xs : Nat → Int32} {L : Nat} {rec : Nat → (Nat → Nat) → (Nat → Nat) → SG → RG → Int32 → Option Unit} {N : Nat} {K len : Nat → Nat} {σ : SG} {ρ : RG} {v3 : Int32} (hL : L ≤ 3072) (h0 : 0 ≤ v3.toInt) (h6 : v3.toInt + 6 ≤ (L : Int)) (hrec : LR rec v3) (hB : BX 8 σ) (hQ : PR N K len ρ) : ok (F_L_1007 xs L rec N K len σ ρ v3) (fun _ => True) := by
  unfold F_L_1007
  refine ok_nm (fun x1 hx1 => ?_)
  refine ok_gd (lx (k := 1) hL h0 h6 hx1 (by decide)) ?_
  refine ok_nm (fun x3 hx3 => ?_)
  refine ok_gd (lx (k := 2) hL h0 h6 hx3 (by decide)) ?_
  refine ok_bn2 (s_X11_odds hB hQ) (fun r5 σ5 qr5 => ?_)
  have bσ5 : BX 8 σ5 := qr5
  refine ok_nm (fun x6 hx6 => ?_)
  refine ok_gd (lx (k := 1) hL h0 h6 hx6 (by decide)) ?_
  refine ok_nm (fun x8 hx8 => ?_)
  refine ok_gd (lx (k := 2) hL h0 h6 hx8 (by decide)) ?_
  refine ok_bn2 (s_X12_odds (bf_x bσ5)) (fun r10 σ10 qr10 => ?_)
  have bσ10 : BX 8 σ10 := qr10.1
  refine ok_nm (fun x11 hx11 => ?_)
  exact hrec _ _ _ _ _ _ hx11 bσ10 hQ
theorem l_L_1040 {xs : Nat → Int32} {L : Nat} {rec : Nat → (Nat → Nat) → (Nat → Nat) → SG → RG → Int32 → Option Unit} {N : Nat} {K len : Nat → Nat} {σ : SG} {ρ : RG} {v3 : Int32} (hL : L ≤ 3072) (h0 : 0 ≤ v3.toInt) (h6 : v3.toInt + 6 ≤ (L : Int)) (hrec : LR rec v3) (hB : BX 8 σ) (hQ : PR N K len ρ) : ok (F_L_1040 xs L rec N K len σ ρ v3) (fun _ => True) := by
  unfold F_L_1040
  refine ok_nm (fun x1 hx1 => ?_)
  refine ok_gd (lx (k := 1) hL h0 h6 hx1 (by decide)) ?_
  refine ok_bn2 (s_X11_mean hB hQ) (fun r3 σ3 qr3 => ?_)
  have bσ3 : BX 8 σ3 := qr3
  refine ok_nm (fun x4 hx4 => ?_)
  refine ok_gd (lx (k := 1) hL h0 h6 hx4 (by decide)) ?_
  refine ok_bn2 (s_X12_mean (bf_x bσ3)) (fun r6 σ6 qr6 => ?_)
  have bσ6 : BX 8 σ6 := qr6.1
  refine ok_nm (fun x7 hx7 => ?_)
  exact hrec _ _ _ _ _ _ hx7 bσ6 hQ
theorem l_L_1063 {xs : Nat → Int32} {L : Nat} {rec : Nat → (Nat → Nat) → (Nat → Nat) → SG → RG → Int32 → Option Unit} {N : Nat} {K len : Nat → Nat} {σ : SG} {ρ : RG} {v3 : Int32} (hL : L ≤ 3072) (h0 : 0 ≤ v3.toInt) (h6 : v3.toInt + 6 ≤ (L : Int)) (hrec : LR rec v3) (hB : BX 8 σ) (hQ : PR N K len ρ) : ok (F_L_1063 xs L rec N K len σ ρ v3) (fun _ => True) := by
  unfold F_L_1063
  refine ok_nm (fun x1 hx1 => ?_)
  refine ok_gd (lx (k := 1) hL h0 h6 hx1 (by decide)) ?_
  refine ok_nm (fun x3 hx3 => ?_)
  refine ok_gd (lx (k := 2) hL h0 h6 hx3 (by decide)) ?_
  refine ok_bn2 (s_X11_book hB hQ) (fun r5 σ5 qr5 => ?_)
  have bσ5 : BX 8 σ5 := qr5.2
  refine ok_nm (fun x6 hx6 => ?_)
  refine ok_gd (lx (k := 1) hL h0 h6 hx6 (by decide)) ?_
  refine ok_nm (fun x8 hx8 => ?_)
  refine ok_gd (lx (k := 2) hL h0 h6 hx8 (by decide)) ?_
  refine ok_bn2 (s_X12_book bσ5) (fun r10 σ10 qr10 => ?_)
  have bσ10 : BX 8 σ10 := qr10.2
  refine ok_nm (fun x11 hx11 => ?_)
  exact hrec _ _ _ _ _ _ hx11 bσ10 hQ
theorem l_L_1096 {xs : Nat → Int32} {L : Nat} {rec : Nat → (Nat → Nat) → (Nat → Nat) → SG → RG → Int32 → Option Unit} {N : Nat} {K len : Nat → Nat} {σ : SG} {ρ : RG} {v3 : Int32} (hL : L ≤ 3072) (h0 : 0 ≤ v3.toInt) (h6 : v3.toInt + 6 ≤ (L : Int)) (hrec : LR rec v3) (hB : BX 8 σ) (hQ : PR N K len ρ) : ok (F_L_1096 xs L rec N K len σ ρ v3) (fun _ => True) := by
  unfold F_L_1096
  refine ok_bn2 (s_X11_looked hB hQ) (fun r1 σ1 qr1 => ?_)
  have bσ1 : BX 8 σ1 := qr1.2
  refine ok_bn2 (s_X12_looked (bf_x bσ1)) (fun r2 σ2 qr2 => ?_)
  have bσ2 : BX 8 σ2 := qr2.2.1
  refine ok_nm (fun x3 hx3 => ?_)
  exact hrec _ _ _ _ _ _ hx3 bσ2 hQ
theorem l_L_1109 {xs : Nat → Int32} {L : Nat} {rec : Nat → (Nat → Nat) → (Nat → Nat) → SG → RG → Int32 → Option Unit} {N : Nat} {K len : Nat → Nat} {σ : SG} {ρ : RG} {v3 : Int32} (hL : L ≤ 3072) (h0 : 0 ≤ v3.toInt) (h6 : v3.toInt + 6 ≤ (L : Int)) (hrec : LR rec v3) (hB : BX 8 σ) (hQ : PR N K len ρ) : ok (F_L_1109 xs L rec N K len σ ρ v3) (fun _ => True) := by
  unfold F_L_1109
  refine ok_nm (fun x1 hx1 => ?_)
  refine ok_gd (lx (k := 1) hL h0 h6 hx1 (by decide)) ?_
  refine ok_nm (fun x3 hx3 => ?_)
  refine ok_gd (lx (k := 2) hL h0 h6 hx3 (by decide)) ?_
  refine ok_nm (fun x5 hx5 => ?_)
  refine ok_gd (lx (k := 3) hL h0 h6 hx5 (by decide)) ?_
  refine ok_bn2 (s_X11_act hB hQ) (fun r7 σ7 qr7 => ?_)
  have bσ7 : BX 8 σ7 := qr7.2
  refine ok_nm (fun x8 hx8 => ?_)
  refine ok_gd (lx (k := 1) hL h0 h6 hx8 (by decide)) ?_
  refine ok_nm (fun x10 hx10 => ?_)
  refine ok_gd (lx (k := 2) hL h0 h6 hx10 (by decide)) ?_
  refine ok_nm (fun x12 hx12 => ?_)
  refine ok_gd (lx (k := 3) hL h0 h6 hx12 (by decide)) ?_
  refine ok_bn2 (s_X12_act bσ7) (fun r14 σ14 qr14 => ?_)
  have bσ14 : BX 8 σ14 := qr14
  refine ok_nm (fun x15 hx15 => ?_)
  exact hrec _ _ _ _ _ _ hx15 bσ14 hQ
theorem l_L_1152 {xs : Nat → Int32} {L : Nat} {rec : Nat → (Nat → Nat) → (Nat → Nat) → SG → RG → Int32 → Option Unit} {N : Nat} {K len : Nat → Nat} {σ : SG} {ρ : RG} {v3 : Int32} (hL : L ≤ 3072) (h0 : 0 ≤ v3.toInt) (h6 : v3.toInt + 6 ≤ (L : Int)) (hrec : LR rec v3) (hB : BX 8 σ) (hQ : PR N K len ρ) : ok (F_L_1152 xs L rec N K len σ ρ v3) (fun _ => True) := by
  unfold F_L_1152
  refine ok_nm (fun x1 hx1 => ?_)
  refine ok_gd (lx (k := 1) hL h0 h6 hx1 (by decide)) ?_
  refine ok_bn (s_X11_trace hB hQ) (fun r3 qr3 => ?_)
  refine ok_nm (fun x4 hx4 => ?_)
  refine ok_gd (lx (k := 1) hL h0 h6 hx4 (by decide)) ?_
  refine ok_bn (s_X12_trace hB) (fun r6 qr6 => ?_)
  refine ok_nm (fun x7 hx7 => ?_)
  exact hrec _ _ _ _ _ _ hx7 hB hQ
theorem l_L_1175 {xs : Nat → Int32} {L : Nat} {rec : Nat → (Nat → Nat) → (Nat → Nat) → SG → RG → Int32 → Option Unit} {N : Nat} {K len : Nat → Nat} {σ : SG} {ρ : RG} {v3 : Int32} (hL : L ≤ 3072) (h0 : 0 ≤ v3.toInt) (h6 : v3.toInt + 6 ≤ (L : Int)) (hrec : LR rec v3) (hB : BX 8 σ) (hQ : PR N K len ρ) : ok (F_L_1175 xs L rec N K len σ ρ v3) (fun _ => True) := by
  unfold F_L_1175
  refine ok_nm (fun x1 hx1 => ?_)
  refine ok_gd (lx (k := 1) hL h0 h6 hx1 (by decide)) ?_
  refine ok_nm (fun x3 hx3 => ?_)
  refine ok_gd (lx (k := 2) hL h0 h6 hx3 (by decide)) ?_
  refine ok_bn (s_X11_as hB hQ) (fun r5 qr5 => ?_)
  refine ok_nm (fun x6 hx6 => ?_)
  refine ok_gd (lx (k := 1) hL h0 h6 hx6 (by decide)) ?_
  refine ok_nm (fun x8 hx8 => ?_)
  refine ok_gd (lx (k := 2) hL h0 h6 hx8 (by decide)) ?_
  refine ok_bn (s_X12_as hB) (fun r10 qr10 => ?_)
  refine ok_nm (fun x11 hx11 => ?_)
  exact hrec _ _ _ _ _ _ hx11 hB hQ
theorem l_L_1208 {xs : Nat → Int32} {L : Nat} {rec : Nat → (Nat → Nat) → (Nat → Nat) → SG → RG → Int32 → Option Unit} {N : Nat} {K len : Nat → Nat} {σ : SG} {ρ : RG} {v3 : Int32} (hL : L ≤ 3072) (h0 : 0 ≤ v3.toInt) (h6 : v3.toInt + 6 ≤ (L : Int)) (hrec : LR rec v3) (hB : BX 8 σ) (hQ : PR N K len ρ) : ok (F_L_1208 xs L rec N K len σ ρ v3) (fun _ => True) := by
  unfold F_L_1208
  refine ok_bnT (s_X11_image hB hQ) (fun r1 N1 K1 L1 σ1 ρ1 qr1 => ?_)
  have bσ1 : BX 8 σ1 := qr1.1
  have hρ1 : PR N1 K1 L1 ρ1 := qr1.2
  refine ok_bn2 (s_X12_image bσ1) (fun r2 σ2 qr2 => ?_)
  have bσ2 : BX 8 σ2 := qr2.2
  refine ok_nm (fun x3 hx3 => ?_)
  exact hrec _ _ _ _ _ _ hx3 bσ2 hρ1
theorem l_L_1221 {xs : Nat → Int32} {L : Nat} {rec : Nat → (Nat → Nat) → (Nat → Nat) → SG → RG → Int32 → Option Unit} {N : Nat} {K len : Nat → Nat} {σ : SG} {ρ : RG} {v3 : Int32} (hL : L ≤ 3072) (h0 : 0 ≤ v3.toInt) (h6 : v3.toInt + 6 ≤ (L : Int)) (hrec : LR rec v3) (hB : BX 8 σ) (hQ : PR N K len ρ) : ok (F_L_1221 xs L rec N K len σ ρ v3) (fun _ => True) := by
  unfold F_L_1221
  refine ok_bnT (s_X11_undo hB hQ) (fun r1 N1 K1 L1 σ1 ρ1 qr1 => ?_)
  have bσ1 : BX 8 σ1 := qr1.1
  have hρ1 : PR N1 K1 L1 ρ1 := qr1.2
  refine ok_bn2 (s_X12_undo bσ1) (fun r2 σ2 qr2 => ?_)
  have bσ2 : BX 8 σ2 := qr2.2
  refine ok_nm (fun x3 hx3 => ?_)
  exact hrec _ _ _ _ _ _ hx3 bσ2 hρ1
theorem l_L_1234 {xs : Nat → Int32} {L : Nat} {rec : Nat → (Nat → Nat) → (Nat → Nat) → SG → RG → Int32 → Option Unit} {N : Nat} {K len : Nat → Nat} {σ : SG} {ρ : RG} {v3 : Int32} (hL : L ≤ 3072) (h0 : 0 ≤ v3.toInt) (h6 : v3.toInt + 6 ≤ (L : Int)) (hrec : LR rec v3) (hB : BX 8 σ) (hQ : PR N K len ρ) : ok (F_L_1234 xs L rec N K len σ ρ v3) (fun _ => True) := by
  unfold F_L_1234
  refine ok_nm (fun x1 hx1 => ?_)
  refine ok_gd (lx (k := 1) hL h0 h6 hx1 (by decide)) ?_
  refine ok_bn (s_X11_count hB hQ) (fun r3 qr3 => ?_)
  refine ok_nm (fun x4 hx4 => ?_)
  refine ok_gd (lx (k := 1) hL h0 h6 hx4 (by decide)) ?_
  refine ok_bn (s_X12_count hB) (fun r6 qr6 => ?_)
  refine ok_nm (fun x7 hx7 => ?_)
  exact hrec _ _ _ _ _ _ hx7 hB hQ
theorem l_L_18 {xs : Nat → Int32} {L : Nat} (hL : L ≤ 3072) : ∀ (n N : Nat) (K len : Nat → Nat) (σ : SG) (ρ : RG) (v3 : Int32), 0 ≤ v3.toInt → v3.toInt ≤ (L : Int) → (L : Int) - v3.toInt < 6 * (n : Int) → BX 8 σ → PR N K len ρ → ok (F_L_18 xs L n N K len σ ρ v3) (fun _ => True) := by
  intro n
  induction n with
  | zero => intro N K len σ ρ v3 h0 h4 hm; omega
  | succ n ih =>
    intro N K len σ ρ v3 h0 h4 hm hB hQ
    have eL : (Int32.ofNat L).toInt = (L : Int) := Int32.toInt_ofNat_of_lt (by omega)
    have e6 : (6 : Int32).toInt = 6 := rfl
    unfold F_L_18
    refine ok_nm (fun x1 hx1 => ok_if (fun _ => ok_some trivial) (fun c => ?_))
    have e1 : x1.toInt = (L : Int) - 6 := by rw [hx1, ti_sub (by omega) (by omega), eL, e6]
    have c1 : ¬ x1.toInt < v3.toInt := fun q => c (Int32.lt_iff_toInt_lt.mpr q)
    have h6 : v3.toInt + 6 ≤ (L : Int) := by omega
    have hrec : LR (F_L_18 xs L n) v3 := fun N K len σ ρ x hx b q => by
      have ex : x.toInt = v3.toInt + 6 := by rw [hx, ti_add (by omega) (by omega), e6]
      exact ih N K len σ ρ x (by omega) (by omega) (by omega) b q
    refine ok_gd (decide_eq_true ⟨by omega, by omega⟩) (ok_nm (fun x2 _ => ?_))
    refine ok_if (fun _ => l_L_204 hL h0 h6 hrec hB hQ) (fun _ => ?_)
    refine ok_if (fun _ => l_L_227 hL h0 h6 hrec hB hQ) (fun _ => ?_)
    refine ok_if (fun _ => l_L_240 hL h0 h6 hrec hB hQ) (fun _ => ?_)
    refine ok_if (fun _ => l_L_303 hL h0 h6 hrec hB hQ) (fun _ => ?_)
    refine ok_if (fun _ => l_L_336 hL h0 h6 hrec hB hQ) (fun _ => ?_)
    refine ok_if (fun _ => l_L_369 hL h0 h6 hrec hB hQ) (fun _ => ?_)
    refine ok_if (fun _ => l_L_412 hL h0 h6 hrec hB hQ) (fun _ => ?_)
    refine ok_if (fun _ => l_L_435 hL h0 h6 hrec hB hQ) (fun _ => ?_)
    refine ok_if (fun _ => l_L_458 hL h0 h6 hrec hB hQ) (fun _ => ?_)
    refine ok_if (fun _ => l_L_481 hL h0 h6 hrec hB hQ) (fun _ => ?_)
    refine ok_if (fun _ => l_L_494 hL h0 h6 hrec hB hQ) (fun _ => ?_)
    refine ok_if (fun _ => l_L_533 hL h0 h6 hrec hB hQ) (fun _ => ?_)
    refine ok_if (fun _ => l_L_566 hL h0 h6 hrec hB hQ) (fun _ => ?_)
    refine ok_if (fun _ => l_L_599 hL h0 h6 hrec hB hQ) (fun _ => ?_)
    refine ok_if (fun _ => l_L_632 hL h0 h6 hrec hB hQ) (fun _ => ?_)
    refine ok_if (fun _ => l_L_645 hL h0 h6 hrec hB hQ) (fun _ => ?_)
    refine ok_if (fun _ => l_L_668 hL h0 h6 hrec hB hQ) (fun _ => ?_)
    refine ok_if (fun _ => l_L_681 hL h0 h6 hrec hB hQ) (fun _ => ?_)
    refine ok_if (fun _ => l_L_704 hL h0 h6 hrec hB hQ) (fun _ => ?_)
    refine ok_if (fun _ => l_L_737 hL h0 h6 hrec hB hQ) (fun _ => ?_)
    refine ok_if (fun _ => l_L_760 hL h0 h6 hrec hB hQ) (fun _ => ?_)
    refine ok_if (fun _ => l_L_783 hL h0 h6 hrec hB hQ) (fun _ => ?_)
    refine ok_if (fun _ => l_L_816 hL h0 h6 hrec hB hQ) (fun _ => ?_)
    refine ok_if (fun _ => l_L_869 hL h0 h6 hrec hB hQ) (fun _ => ?_)
    refine ok_if (fun _ => l_L_902 hL h0 h6 hrec hB hQ) (fun _ => ?_)
    refine ok_if (fun _ => l_L_935 hL h0 h6 hrec hB hQ) (fun _ => ?_)
    refine ok_if (fun _ => l_L_948 hL h0 h6 hrec hB hQ) (fun _ => ?_)
    refine ok_if (fun _ => l_L_971 hL h0 h6 hrec hB hQ) (fun _ => ?_)
    refine ok_if (fun _ => l_L_984 hL h0 h6 hrec hB hQ) (fun _ => ?_)
    refine ok_if (fun _ => l_L_1007 hL h0 h6 hrec hB hQ) (fun _ => ?_)
    refine ok_if (fun _ => l_L_1040 hL h0 h6 hrec hB hQ) (fun _ => ?_)
    refine ok_if (fun _ => l_L_1063 hL h0 h6 hrec hB hQ) (fun _ => ?_)
    refine ok_if (fun _ => l_L_1096 hL h0 h6 hrec hB hQ) (fun _ => ?_)
    refine ok_if (fun _ => l_L_1109 hL h0 h6 hrec hB hQ) (fun _ => ?_)
    refine ok_if (fun _ => l_L_1152 hL h0 h6 hrec hB hQ) (fun _ => ?_)
    refine ok_if (fun _ => l_L_1175 hL h0 h6 hrec hB hQ) (fun _ => ?_)
    refine ok_if (fun _ => l_L_1208 hL h0 h6 hrec hB hQ) (fun _ => ?_)
    refine ok_if (fun _ => l_L_1221 hL h0 h6 hrec hB hQ) (fun _ => ?_)
    refine ok_if (fun _ => l_L_1234 hL h0 h6 hrec hB hQ) (fun _ => ?_)
    exact ok_nm (fun x3 hx3 => hrec N K len σ ρ x3 hx3 hB hQ)
set_option maxRecDepth 100000 in
theorem ini_box : bndL.all (fun q => (List.range (q.2.2.1 + 1)).all (fun k => Nat.blt k q.2.1 || (decide (q.2.2.2.1 ≤ (ini2.1 q.1 k).toInt) && decide ((ini2.1 q.1 k).toInt ≤ q.2.2.2.2)))) = true := by decide +kernel
set_option maxRecDepth 100000 in
theorem ini_c : ini2.1 54 30 = 0 ∧ ini2.1 54 4 = 0 ∧ ini2.1 55 16 = -1 ∧ ini2.1 55 11 = 0 := by decide +kernel
set_option maxRecDepth 100000 in
theorem ini_n : (∀ j : Fin 6, ini2.2 2 j = none ∧ ini2.2 15 j = none) ∧ (ini2.2 29 8 = none ∨ ini2.2 29 8 = some 10) := by decide +kernel
theorem ini_BX : BX 8 ini2.1 := by
  obtain ⟨a, b, c, d⟩ := ini_c
  refine ⟨fun q hq k h1 h2 => ?_, by rw [a]; exact ⟨by decide, by decide⟩, ⟨fun h hh => ?_, fun k hk => ?_⟩, Or.inl b⟩
  · have h := List.all_eq_true.mp ini_box q hq
    have h := List.all_eq_true.mp h k (List.mem_range.mpr (by omega))
    simp only [Bool.or_eq_true, Bool.and_eq_true, decide_eq_true_eq, Nat.blt_eq] at h
    rcases h with h | h
    · omega
    · exact h
  · rw [c] at hh
    have : (-1 : Int32).toInt = -1 := rfl
    omega
  · rw [d] at hk
    have : (0 : Int32).toInt = 0 := rfl
    omega
theorem ini_PR : PR 65 kind0 len0 ini2.2 := by
  obtain ⟨a, b⟩ := ini_n
  exact ⟨ini_Lay, ini2_k.1, fun j c hj h => (by rw [(a ⟨j, hj⟩).1] at h; cases h), fun j c hj h => (by rw [(a ⟨j, hj⟩).2] at h; cases h), b⟩
theorem law_pure {xs : Nat → Int32} {L : Nat} (hL : L ≤ 3072) : F_L_18 xs L 513 65 kind0 len0 ini2.1 ini2.2 0 = some () := by
  obtain ⟨u, e, -⟩ := l_L_18 (xs := xs) hL 513 65 kind0 len0 ini2.1 ini2.2 0 (by decide) (by have : (0 : Int32).toInt = 0 := rfl; omega) (by have : (0 : Int32).toInt = 0 := rfl; omega) ini_BX ini_PR
  exact e
