/-! PART 7625.tb: by hand: all relations, call by call -/
theorem kx_of {σ σ' : SG} (h : KC σ σ') : KX σ σ' := fun r k p => h r k (by
  unfold kxP at p
  simp only [Bool.and_eq_true, Nat.ble_eq] at p
  exact kcP_ref p.1 (by omega))
theorem rb_call2 {σ σ3 σ6 : SG} (R : RB σ) (hb : KB σ σ3) (hx : KX σ σ3) (hr : KR σ3 σ6) (h5 : ∀ k, k < 909 → bc k → σ6 55 k = σ3 55 k) : RB σ6 :=
  rb_keep R (fun r k p => (hr r k (krP_lo (kb_lt p).1)).trans (hb r k p)) (fun k hk q => (h5 k hk q).trans (hx 55 k rfl)) (fun k _ _ => (hr 56 k rfl).trans (hx 56 k rfl)) ((hr 54 4 rfl).trans (hx 54 4 rfl))
theorem tr_call2 {m : Int} {σ σ3 σ6 : SG} (h : TRC m σ σ) (hx : KX σ σ3) (ht : KT σ σ3) (hr : KR σ3 σ6) (hs : KS σ3 σ6) : TRC m σ6 σ6 :=
  tr_keep h (by rw [hr 27 1 (krP_lo (by decide)), ht 27 1 rfl]) (fun k => by rw [hr 28 k (krP_lo (by decide)), ht 28 k rfl]) (by rw [hs 54 30 rfl, hx 54 30 rfl]) (fun k => by rw [hs 64 k rfl, hx 64 k rfl])
theorem kt_board {N : Nat} {K len : Nat → Nat} {σ : SG} {ρ : RG} (hL : Lay N K len ρ) : kp (F_X11_board σ ρ) (fun q => KT σ q.2.1) := by
  unfold F_X11_board
  refine kp_if (kp_bn3 (kt_X0_readFrom hL) (fun r2 σ2 ρ2 h => kp_nm (fun σ4 h4 => ?_))) (kp_some (kt_refl _))
  have k4 : KT σ σ4 := by rw [h4]; exact kt_trans h (kt_row rfl)
  refine kp_if (kp_nm (fun x11 _ => kp_some k4)) (kp_bn k_takes5 (fun σ6 h6 => kp_nm (fun x7 _ => kp_nm (fun σ9 h9 => kp_nm (fun x10 _ => kp_some ?_)))))
  show KT σ σ9
  rw [h9]
  refine kt_trans (kt_trans k4 (fun r k p => h6.1 r k ?_)) (kt_row rfl)
  unfold ktP at p
  simp only [Bool.or_eq_true, beq_iff_eq] at p
  omega
theorem kx_board {N : Nat} {K len : Nat → Nat} {σ : SG} {ρ : RG} (hL : Lay N K len ρ) : kp (F_X11_board σ ρ) (fun q => KX σ q.2.1) := kp_mono (bd_far hL) (fun q h r k p => h r k (by
  unfold kxP at p
  simp only [Bool.and_eq_true, Nat.ble_eq] at p
  exact Or.inr p.1))
theorem tr_cutter {m : Int} {N N1 : Nat} {K len K1 L1 : Nat → Nat} {ρ ρ1 : RG} {a1 a2 a3 a4 a5 r3 : Int32} {σ σ3 σ6 : SG} (r0 : rg (σ 1 1) 0 6) (hQ : PR N K len ρ) (R : TRC m σ σ) (h3 : (¬ OKC a1 a2 a3 a4 a5 (σ 1 1) ∧ (r3, N1, K1, L1, σ3, ρ1) = (cuE a1 a2 a3 a4 a5, N, K, len, σ, ρ)) ∨ (OKC a1 a2 a3 a4 a5 (σ 1 1) ∧ r3 = σ 1 1 ∧ ∀ n : Nat, (σ 1 1).toInt = (n : Int) → NEWC a1 a2 a3 a4 a5 n N K len σ ρ (N1, K1, L1, σ3, ρ1))) (hr : KR σ3 σ6) (hs : KS σ3 σ6) : TRC m σ6 σ6 := by
  have n65 := hQ.1.1
  have f : ∀ r k, r < 65 → ¬ (r = 1 ∧ k = 1) → σ3 r k = σ r k := by
    rcases h3 with ⟨_, e⟩ | ⟨_, _, e⟩
    · cases e; exact fun _ _ _ _ => rfl
    · have E := e (σ 1 1).toNatClampNeg (cl0 r0.1).symm
      exact fun r k l n => E.2.1 r k (by omega) n
  exact tr_keep R (by rw [hr 27 1 rfl, f 27 1 (by decide) (by omega)]) (fun k => by rw [hr 28 k rfl, f 28 k (by decide) (by omega)]) (by rw [hs 54 30 rfl, f 54 30 (by decide) (by omega)]) (fun k => by rw [hs 64 k rfl, f 64 k (by decide) (by omega)])
theorem tr_image {m : Int} {N N1 : Nat} {K len K1 L1 : Nat → Nat} {ρ ρ1 : RG} {r3 : Int32} {σ σ3 σ6 : SG} (hQ : PR N K len ρ) (R : TRC m σ σ) (h3 : r3 = σ3 1 1 ∧ ∃ σ1, CPE 15 2 N 14 1 16 3 K (s2 σ 14 1 (σ 1 1)) ρ ((), N1, K1, L1, σ1, ρ1) ∧ σ3 = s2 σ1 0 2 1) (h4 : ∀ r, r ≠ 54 → r ≠ 56 → σ6 r = σ3 r) (hs : KS σ3 σ6) : TRC m σ6 σ6 := by
  have n65 := hQ.1.1
  obtain ⟨e3, σ1, ⟨σ5, cp, hQ1, tk, tm⟩, e1⟩ := h3
  change CP 15 2 N 6 K (s2 σ 14 1 (σ 1 1)) ρ N1 K1 σ5 ρ1 at cp
  change TKM 14 1 σ5 σ1 at tm
  obtain ⟨-, -, -, -, -, -, -, -, -, -, -, m11⟩ := tm
  have f : ∀ r k, r < 65 → 27 ≤ r → σ3 r k = σ r k := fun r k l g => by rw [e1, s2_ne r (by omega), m11 r k (by omega) (by omega), cp.1.2.2.1 r (by omega), s2_ne r (by omega)]
  exact tr_keep R (by rw [h4 27 (by decide) (by decide), f 27 1 (by decide) (by decide)]) (fun k => by rw [h4 28 (by decide) (by decide), f 28 k (by decide) (by decide)]) (by rw [hs 54 30 rfl, f 54 30 (by decide) (by decide)]) (fun k => by rw [hs 64 k rfl, f 64 k (by decide) (by decide)])
theorem tr_undo {m : Int} {N N1 : Nat} {K len K1 L1 : Nat → Nat} {ρ ρ1 : RG} {r3 : Int32} {σ σ3 : SG} (hQ : PR N K len ρ) (hL1 : Lay N1 K1 L1 ρ1) (RA' : RA K σ ρ) (R : TRC m σ σ) (h3 : (σ 0 2 = 0 ∧ (r3, N1, K1, L1, σ3, ρ1) = (-3, N, K, len, σ, ρ)) ∨ (¬ σ 0 2 = 0 ∧ r3 = σ3 1 1 ∧ CPE 2 15 N 1 14 3 16 K (s2 σ 1 1 (σ 14 1)) ρ ((), N1, K1, L1, σ3, ρ1))) : kp (F_X12_undo σ3 ρ1) (fun q => TRC m q.2 q.2) := by
  have n65 := hQ.1.1
  rcases h3 with ⟨c0, e⟩ | ⟨c0, e3, σ5, cp, hQ1, tk, tm⟩
  · cases e
    unfold F_X12_undo
    rw [if_pos (RA'.2.2.2.1.mp c0)]
    exact kp_some R
  · change CP 2 15 N 6 K (s2 σ 1 1 (σ 14 1)) ρ N1 K1 σ5 ρ1 at cp
    change TKM 1 14 σ5 σ3 at tm
    have n4 : ¬ σ 54 4 = 0 := fun q => c0 (RA'.2.2.2.1.mpr q)
    obtain ⟨-, -, -, -, -, -, -, -, -, -, -, m11⟩ := tm
    have f : ∀ r k, r < 65 → 14 ≤ r → σ3 r k = σ r k := fun r k l g => by rw [m11 r k (by omega) (by omega), cp.1.2.2.1 r (by omega), s2_ne r (by omega)]
    refine kp_mono (kp_and (un_12r (σ := σ3) (by rw [f 54 4 (by decide) (by decide)]; exact n4)) (ks_X12_undo hL1)) (fun q z => ?_)
    obtain ⟨⟨g1, g2, g3, g4, g5⟩, hs⟩ := z
    exact tr_keep R (by rw [g4 27 (by decide), f 27 1 (by decide) (by decide)]) (fun k => by rw [g4 28 (by decide), f 28 k (by decide) (by decide)]) (by rw [hs 54 30 rfl, f 54 30 (by decide) (by decide)]) (fun k => by rw [hs 64 k rfl, f 64 k (by decide) (by decide)])
def RX (K : Nat → Nat) (σ : SG) (ρ : RG) : Prop := RA K σ ρ ∧ RB σ ∧ TRC 8 σ σ
