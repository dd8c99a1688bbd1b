/-! PART 7642.ln: by hand (its first rows by a program): cutter, image, undo; told, of -/
def I5 (t : Nat) (σ q : SG) : Prop := q t 5 = σ t 5
theorem i5_X1_1 {t : Nat} {a1 a2 a3 a4 a5 : Int32} {σ : SG} {ρ : RG} : kp (F_X1_init_k1 t a1 a2 a3 a4 a5 σ ρ) (I5 t σ) := by
  unfold F_X1_init_k1
  refine kp_nm (fun σ2 h2 => kp_nm (fun σ4 h4 => kp_nm (fun σ6 h6 => kp_nm (fun σ8 h8 => kp_nm (fun σ10 h10 => kp_some ?_)))))
  show σ10 t 5 = σ t 5
  rw [h10, sn (by omega), h8, sn (by omega), h6, sn (by omega), h4, sn (by omega), h2, sn (by omega)]
theorem i5_X1_2 {t : Nat} {a1 a2 a3 a4 a5 : Int32} {σ : SG} {ρ : RG} : kp (F_X1_init_k2 t a1 a2 a3 a4 a5 σ ρ) (I5 t σ) := by
  unfold F_X1_init_k2
  refine kp_nm (fun σ2 h2 => kp_nm (fun σ4 h4 => kp_nm (fun σ6 h6 => kp_nm (fun σ8 h8 => kp_nm (fun σ10 h10 => kp_some ?_)))))
  show σ10 t 5 = σ t 5
  rw [h10, sn (by omega), h8, sn (by omega), h6, sn (by omega), h4, sn (by omega), h2, sn (by omega)]
theorem i5_X1_4 {t : Nat} {a1 a2 a3 a4 a5 : Int32} {σ : SG} {ρ : RG} : kp (F_X1_init_k4 t a1 a2 a3 a4 a5 σ ρ) (I5 t σ) := by
  unfold F_X1_init_k4
  refine kp_nm (fun σ2 h2 => kp_nm (fun σ4 h4 => kp_nm (fun σ6 h6 => kp_nm (fun σ8 h8 => kp_nm (fun σ10 h10 => kp_some ?_)))))
  show σ10 t 5 = σ t 5
  rw [h10, sn (by omega), h8, sn (by omega), h6, sn (by omega), h4, sn (by omega), h2, sn (by omega)]
theorem i5_X1_5 {t : Nat} {a1 a2 a3 a4 a5 : Int32} {σ : SG} {ρ : RG} : kp (F_X1_init_k5 t a1 a2 a3 a4 a5 σ ρ) (I5 t σ) := by
  unfold F_X1_init_k5
  refine kp_nm (fun σ2 h2 => kp_nm (fun σ4 h4 => kp_nm (fun σ6 h6 => kp_nm (fun σ8 h8 => kp_nm (fun σ10 h10 => kp_some ?_)))))
  show σ10 t 5 = σ t 5
  rw [h10, sn (by omega), h8, sn (by omega), h6, sn (by omega), h4, sn (by omega), h2, sn (by omega)]
theorem i5_X1_6 {t : Nat} {a1 a2 a3 a4 a5 : Int32} {σ : SG} {ρ : RG} : kp (F_X1_init_k6 t a1 a2 a3 a4 a5 σ ρ) (I5 t σ) := by
  unfold F_X1_init_k6
  refine kp_nm (fun σ2 h2 => kp_nm (fun σ4 h4 => kp_nm (fun σ6 h6 => kp_nm (fun σ8 h8 => kp_nm (fun σ10 h10 => kp_some ?_)))))
  show σ10 t 5 = σ t 5
  rw [h10, sn (by omega), h8, sn (by omega), h6, sn (by omega), h4, sn (by omega), h2, sn (by omega)]
theorem i5_X1_7 {t : Nat} {a1 a2 a3 a4 a5 : Int32} {σ : SG} {ρ : RG} : kp (F_X1_init_k7 t a1 a2 a3 a4 a5 σ ρ) (I5 t σ) := by
  unfold F_X1_init_k7
  refine kp_nm (fun σ2 h2 => kp_nm (fun σ4 h4 => kp_nm (fun σ6 h6 => kp_nm (fun σ8 h8 => kp_nm (fun σ10 h10 => kp_some ?_)))))
  show σ10 t 5 = σ t 5
  rw [h10, sn (by omega), h8, sn (by omega), h6, sn (by omega), h4, sn (by omega), h2, sn (by omega)]
theorem i5_X1_9 {t : Nat} {a1 a2 a3 a4 a5 : Int32} {σ : SG} {ρ : RG} : kp (F_X1_init_k9 t a1 a2 a3 a4 a5 σ ρ) (I5 t σ) := by
  unfold F_X1_init_k9
  refine kp_nm (fun σ2 h2 => kp_nm (fun σ4 h4 => kp_nm (fun σ6 h6 => kp_nm (fun σ8 h8 => kp_nm (fun σ10 h10 => kp_some ?_)))))
  show σ10 t 5 = σ t 5
  rw [h10, sn (by omega), h8, sn (by omega), h6, sn (by omega), h4, sn (by omega), h2, sn (by omega)]
theorem i5_X7_7 {t : Nat} {a1 a2 a3 a4 a5 : Int32} {σ : SG} {ρ : RG} : kp (F_X7_init_k7 t a1 a2 a3 a4 a5 σ ρ) (I5 t σ) := by
  unfold F_X7_init_k7
  exact kp_bn i5_X1_7 (fun σ1 h => kp_some h)
theorem i5_X7_5 {t : Nat} {a1 a2 a3 a4 a5 : Int32} {σ : SG} {ρ : RG} : kp (F_X7_init_k5 t a1 a2 a3 a4 a5 σ ρ) (I5 t σ) := by
  unfold F_X7_init_k5
  exact kp_bn i5_X1_5 (fun σ1 h => kp_some h)
theorem i5_X6_6 {t : Nat} {a1 a2 a3 a4 a5 : Int32} {σ : SG} {ρ : RG} : kp (F_X6_init_k6 t a1 a2 a3 a4 a5 σ ρ) (I5 t σ) := by
  unfold F_X6_init_k6
  exact kp_bn i5_X1_6 (fun σ1 h => kp_some h)
theorem i5_X6_4 {t : Nat} {a1 a2 a3 a4 a5 : Int32} {σ : SG} {ρ : RG} : kp (F_X6_init_k4 t a1 a2 a3 a4 a5 σ ρ) (I5 t σ) := by
  unfold F_X6_init_k4
  exact kp_bn i5_X1_4 (fun σ1 h => kp_some h)
theorem i5_X2_2 {t : Nat} {a1 a2 a3 a4 a5 : Int32} {σ : SG} {ρ : RG} : kp (F_X2_init_k2 t a1 a2 a3 a4 a5 σ ρ) (I5 t σ) := by
  unfold F_X2_init_k2
  exact kp_bn i5_X1_2 (fun σ1 h => kp_some h)
theorem i5_X2_9 {t : Nat} {a1 a2 a3 a4 a5 : Int32} {σ : SG} {ρ : RG} : kp (F_X2_init_k9 t a1 a2 a3 a4 a5 σ ρ) (I5 t σ) := by
  unfold F_X2_init_k9
  exact kp_bn i5_X1_9 (fun σ1 h => kp_some h)
theorem i5_X5_5 {t : Nat} {a1 a2 a3 a4 a5 : Int32} {σ : SG} {ρ : RG} : kp (F_X5_init_k5 t a1 a2 a3 a4 a5 σ ρ) (I5 t σ) := by
  unfold F_X5_init_k5
  exact kp_bn i5_X7_5 (fun σ1 h => kp_some h)
theorem i5_X4_4 {t : Nat} {a1 a2 a3 a4 a5 : Int32} {σ : SG} {ρ : RG} : kp (F_X4_init_k4 t a1 a2 a3 a4 a5 σ ρ) (I5 t σ) := by
  unfold F_X4_init_k4
  exact kp_bn i5_X6_4 (fun σ1 h => kp_some h)
theorem i5_X9_9 {t N : Nat} {K len : Nat → Nat} {a1 a2 a3 a4 a5 : Int32} {σ : SG} {ρ : RG} (ht : t ≠ N) : kp (F_X9_init_k9 t a1 a2 a3 a4 a5 N K len σ ρ) (fun q => q.2.2.2.2.1 t 5 = σ t 5) := by
  unfold F_X9_init_k9
  refine kp_bn i5_X2_9 (fun σ1 h1 => kp_nm (fun K2 e1 => kp_nm (fun L2 e2 => kp_nm (fun σ2 h2 => kp_nm (fun ρ2 e3 => kp_nm (fun σ4 h4 => kp_nm (fun σ6 h6 => kp_nm (fun σ8 h8 => kp_nm (fun σ10 h10 => kp_nm (fun ρ11 e4 => kp_some ?_))))))))))
  have n : σ10 t = σ1 t := by rw [s2_lt h10 ht, s2_lt h8 ht, s2_lt h6 ht, s2_lt h4 ht, h2, va_up_ne _ _ ht]
  show σ10 t 5 = σ t 5
  rw [n]; exact h1
theorem n5_newCutter {N : Nat} {K len : Nat → Nat} {a1 a2 a3 a4 a5 a6 : Int32} {σ : SG} {ρ : RG} : kp (F_X11_newCutter a1 a2 a3 a4 a5 a6 N K len σ ρ) (fun q => q.2.2.2.2.1 N 5 = 0) := by
  have z : ∀ σ2 : SG, σ2 = va_up σ N (fun _ => 0) → σ2 N 5 = 0 := fun σ2 e => by rw [e, va_up_self]
  unfold F_X11_newCutter
  refine kp_if (kp_nm (fun K2 e1 => kp_nm (fun L2 e2 => kp_nm (fun σ2 e3 => kp_nm (fun ρ2 e4 => kp_bn i5_X7_7 (fun σ3 h3 => kp_some (h3.trans (z σ2 e3)))))))) ?_
  refine kp_if (kp_nm (fun K2 e1 => kp_nm (fun L2 e2 => kp_nm (fun σ2 e3 => kp_nm (fun ρ2 e4 => kp_bn i5_X6_6 (fun σ3 h3 => kp_some (h3.trans (z σ2 e3)))))))) ?_
  refine kp_if (kp_nm (fun K2 e1 => kp_nm (fun L2 e2 => kp_nm (fun σ2 e3 => kp_nm (fun ρ2 e4 => kp_bn i5_X2_2 (fun σ3 h3 => kp_some (h3.trans (z σ2 e3)))))))) ?_
  refine kp_if (kp_nm (fun K2 e1 => kp_nm (fun L2 e2 => kp_nm (fun σ2 e3 => kp_nm (fun ρ2 e4 => kp_bn i5_X5_5 (fun σ3 h3 => kp_some (h3.trans (z σ2 e3)))))))) ?_
  refine kp_if (kp_nm (fun K2 e1 => kp_nm (fun L2 e2 => kp_nm (fun σ2 e3 => kp_nm (fun ρ2 e4 => kp_bn i5_X4_4 (fun σ3 h3 => kp_some (h3.trans (z σ2 e3)))))))) ?_
  refine kp_if (kp_nm (fun K2 e1 => kp_nm (fun L2 e2 => kp_nm (fun σ2 e3 => kp_nm (fun ρ2 e4 => kp_bnT (i5_X9_9 (by omega)) (fun u N1 K1 L1 σ1 ρ1 h => kp_some ((show σ1 N 5 = σ2 N 5 from h).trans (z σ2 e3)))))))) ?_
  exact kp_nm (fun K2 e1 => kp_nm (fun L2 e2 => kp_nm (fun σ2 e3 => kp_nm (fun ρ2 e4 => kp_bn i5_X1_1 (fun σ3 h3 => kp_some (h3.trans (z σ2 e3)))))))
theorem cutter_11e {N : Nat} {K len : Nat → Nat} {a1 a2 a3 a4 a5 : Int32} {σ : SG} {ρ : RG} (h65 : 65 ≤ N) : kp (F_X11_cutter a1 a2 a3 a4 a5 N K len σ ρ) (fun q => q.2 = (N, K, len, σ, ρ) ∨ q.2.2.2.2.1 N 5 = 0) := by
  unfold F_X11_cutter
  refine kp_bx (fun r1 => kp_if (kp_some (Or.inl rfl)) (kp_bx (fun r3 => kp_if (kp_some (Or.inl rfl)) (kp_bx (fun r5 => kp_if (kp_some (Or.inl rfl)) (kp_bx (fun r7 => kp_if (kp_some (Or.inl rfl)) (kp_bx (fun r9 => kp_if (kp_some (Or.inl rfl)) (kp_if (kp_bnT n5_newCutter (fun c12 N12 K12 L12 σ12 ρ12 h => kp_gd (fun g => kp_nm (fun ρ14 e14 => kp_nm (fun x hx => kp_nm (fun σ17 e17 => kp_some (Or.inr ?_))))))) (kp_some (Or.inl rfl))))))))))))
  show σ17 N 5 = 0
  rw [e17, sn (by omega)]; exact h
theorem cutter_12e {a1 a2 a3 a4 a5 : Int32} {σ : SG} {ρ : RG} (r0 : rg (σ 55 11) 0 6) : kp (F_X12_cutter a1 a2 a3 a4 a5 σ ρ) (fun q => q.2 = σ ∨ ∀ n : Nat, (σ 55 11).toInt = (n : Int) → q.2 55 (5 + n) = 0 ∧ ∀ k, k < 11 → k ≠ 5 + n → q.2 55 k = σ 55 k) := by
  unfold F_X12_cutter
  refine kp_bx (fun r1 => kp_if (kp_some (Or.inl rfl)) (kp_bx (fun r3 => kp_if (kp_some (Or.inl rfl)) (kp_bx (fun r5 => kp_if (kp_some (Or.inl rfl)) (kp_bx (fun r7 => kp_if (kp_some (Or.inl rfl)) (kp_bx (fun r9 => kp_if (kp_some (Or.inl rfl)) (kp_ih (fun d => kp_some (Or.inl rfl)) (fun d => ?_)))))))))))
  have r5 : rg (σ 55 11) 0 5 := rg_neh d r0 (show rg (6 : Int32) 6 6 from ⟨by decide, by decide⟩) rfl
  obtain ⟨n, hn⟩ : ∃ n : Nat, (σ 55 11).toInt = (n : Int) := ⟨(σ 55 11).toInt.toNat, by have := r5.1; omega⟩
  have n6 : n < 6 := by have := r5.2; omega
  have ix : ∀ (b : Int32) (x : Int32) (B : Nat), b.toInt = (B : Int) → B < 100 → x = b + σ 55 11 → x.toNatClampNeg = B + n := fun b x B hb hB hx => by
    have : x.toInt = (B : Int) + n := by rw [hx, ti_add (by omega) (by omega), hb, hn]
    show x.toInt.toNat = _
    omega
  refine kp_nm (fun x12 h12 => kp_gd (fun _ => kp_nm (fun σ15 h15 => kp_nm (fun x16 h16 => kp_gd (fun _ => kp_nm (fun σ19 h19 => kp_nm (fun x20 h20 => kp_gd (fun _ => kp_nm (fun σ23 h23 => kp_nm (fun x24 h24 => kp_gd (fun _ => kp_nm (fun σ27 h27 => kp_nm (fun x28 h28 => kp_gd (fun _ => kp_nm (fun σ31 h31 => kp_nm (fun x32 h32 => kp_gd (fun _ => kp_nm (fun σ35 h35 => ?_))))))))))))))))))
  rw [ix 20 x12 20 rfl (by decide) h12] at h15
  rw [ix 26 x16 26 rfl (by decide) h16] at h19
  rw [ix 32 x20 32 rfl (by decide) h20] at h23
  rw [ix 38 x24 38 rfl (by decide) h24] at h27
  rw [ix 44 x28 44 rfl (by decide) h28] at h31
  rw [ix 5 x32 5 rfl (by decide) h32] at h35
  refine kp_mono (cutter_153r hn n6 1024 σ35 0 ⟨by decide, by decide⟩) (fun q z => Or.inr (fun n' hn' => ?_))
  have en : n' = n := by omega
  subst en
  obtain ⟨z1, z2, z3, z4⟩ := z
  refine ⟨?_, fun k hk nk => ?_⟩
  · rw [z4 _ (by omega) (by omega), s2_v h35]
  · rw [z4 k (by omega) (by omega), s2_k h35 nk, s2_k h31 (by omega), s2_k h27 (by omega), s2_k h23 (by omega), s2_k h19 (by omega), s2_k h15 (by omega)]
theorem ld_rho {Lf A U arr row : Nat} {σ τ : SG} {ρ ρ' : RG} (h : LD Lf A U arr row σ τ ρ) (e : ∀ j, j < 6 → ρ' arr j = ρ arr j) : LD Lf A U arr row σ τ ρ' := by
  obtain ⟨x1, x2, x3, x4, x5, x6, x7⟩ := h
  exact ⟨x1, x2, fun j c hj hc => x3 j c hj (by rw [← e j hj]; exact hc), x4, x5, x6, x7⟩
theorem cutter_l {N N1 : Nat} {K len K1 L1 : Nat → Nat} {ρ ρ1 : RG} {a1 a2 a3 a4 a5 b1 b2 b3 b4 b5 r3 r6 : Int32} {σ σ3 σ6 : SG} (r0 : rg (σ 1 1) 0 6) (hQ : PR N K len ρ) (R : RA K σ ρ) (h : LSS σ σ ρ)
    (h3 : (¬ OKC a1 a2 a3 a4 a5 (σ 1 1) ∧ (r3, N1, K1, L1, σ3, ρ1) = (cuE a1 a2 a3 a4 a5, N, K, len, σ, ρ)) ∨ (OKC a1 a2 a3 a4 a5 (σ 1 1) ∧ r3 = σ 1 1 ∧ ∀ n : Nat, (σ 1 1).toInt = (n : Int) → NEWC a1 a2 a3 a4 a5 n N K len σ ρ (N1, K1, L1, σ3, ρ1)))
    (h3e : (N1, K1, L1, σ3, ρ1) = (N, K, len, σ, ρ) ∨ σ3 N 5 = 0)
    (h6 : (¬ OKC b1 b2 b3 b4 b5 (σ3 55 11) ∧ (r6, σ6) = (cuE b1 b2 b3 b4 b5, σ3)) ∨ (OKC b1 b2 b3 b4 b5 (σ3 55 11) ∧ r6 = σ3 55 11 ∧ ∀ n : Nat, (σ3 55 11).toInt = (n : Int) → n < 6 ∧ σ6 55 11 = σ3 55 11 + 1 ∧ σ6 55 (20 + n) = b1 ∧ σ6 55 (26 + n) = b2 ∧ σ6 55 (32 + n) = b3 ∧ σ6 55 (38 + n) = b4 ∧ σ6 55 (44 + n) = b5 ∧ (∀ k, k < 4 → σ6 55 (50 + 4 * n + k) = 4) ∧ ∀ k, 11 < k → k ≠ 20 + n → k ≠ 26 + n → k ≠ 32 + n → k ≠ 38 + n → k ≠ 44 + n → (k < 50 + 4 * n ∨ 50 + 4 * n + 4 ≤ k) → σ6 55 k = σ3 55 k))
    (h6e : σ6 = σ3 ∨ ∀ n : Nat, (σ3 55 11).toInt = (n : Int) → σ6 55 (5 + n) = 0 ∧ ∀ k, k < 11 → k ≠ 5 + n → σ6 55 k = σ3 55 k)
    (hr : KR σ3 σ6) (kf : KF σ3 σ6) (e1 : b1 = a1) (e2 : b2 = a2) (e3 : b3 = a3) (e4 : b4 = a4) (e5 : b5 = a5) : LSS σ6 σ6 ρ1 := by
  subst e1 e2 e3 e4 e5
  have w : σ 1 1 = σ 55 11 := R.1.1
  have n65 := hQ.1.1
  have i1 : (1 : Int32).toInt = 1 := rfl
  rcases h3 with ⟨n, q⟩ | ⟨y, q, hh⟩
  · cases q
    rw [← w] at h6
    rcases h6 with ⟨-, q'⟩ | ⟨y', -⟩
    · cases q'; exact h
    · exact absurd y' n
  obtain ⟨n, hn⟩ : ∃ n : Nat, (σ 1 1).toInt = (n : Int) := ⟨(σ 1 1).toInt.toNat, by have := r0.1; omega⟩
  obtain ⟨c1, c2, c3, c4, c5, -⟩ := hh n hn
  have c2 : ∀ r k, r < N → ¬ (r = 1 ∧ k = 1) → σ3 r k = σ r k := c2
  have c3 : σ3 1 1 = σ 1 1 + 1 := c3
  have c4 : ∀ r, r < N → r ≠ 2 → ρ1 r = ρ r := c4
  have c5 : ∀ j, ρ1 2 j = if j = n then some N else ρ 2 j := c5
  have u : σ3 55 11 = σ 1 1 := (c2 55 11 (by omega) (by decide)).trans w.symm
  rw [u] at h6 h6e
  rcases h6 with ⟨n', q'⟩ | ⟨y', q', h'⟩
  · exact absurd y n'
  obtain ⟨n6, d11, d1, d2, d3, d4, d5, d6, d7⟩ := h' n hn
  have ne3 : σ3 N 5 = 0 := by
    rcases h3e with z | z
    · exfalso
      have z1 : σ3 = σ := by injection z with _ z; injection z with _ z; injection z with _ z; injection z with z _
      rw [z1] at c3
      have := congrArg Int32.toInt c3
      rw [ti_add (by omega) (by omega), i1] at this
      omega
    · exact z
  have e6 : σ6 55 (5 + n) = 0 ∧ ∀ k, k < 11 → k ≠ 5 + n → σ6 55 k = σ3 55 k := by
    rcases h6e with z | z
    · exfalso
      rw [z, u] at d11
      have := congrArg Int32.toInt d11
      rw [ti_add (by omega) (by omega), i1] at this
      omega
    · exact z n hn
  have s : ∀ r k, (r < 54 ∨ (65 ≤ r ∧ r < N)) → ¬ (r = 1 ∧ k = 1) → σ6 r k = σ r k := fun r k a b => by
    rw [hr r k (by rcases a with a | a; exact krP_lo a; exact krP_hi a.1), c2 r k (by omega) b]
  have v : ∀ k, k < 11 → k ≠ 5 + n → σ6 55 k = σ 55 k := fun k a b => by rw [e6.2 k a b, c2 55 k (by omega) (by omega)]
  have v7 : ∀ k, 11 < k → k ≠ 20 + n → k ≠ 26 + n → k ≠ 32 + n → k ≠ 38 + n → k ≠ 44 + n → (k < 50 + 4 * n ∨ 50 + 4 * n + 4 ≤ k) → σ6 55 k = σ 55 k := fun k a1 a2 a3 a4 a5 a6 a7 => by rw [d7 k a1 a2 a3 a4 a5 a6 a7, c2 55 k (by omega) (by omega)]
  obtain ⟨⟨x1, x2, x3, x4, x5, x6, x7⟩, f, im⟩ := h
  refine ⟨⟨fun k hk => ?_, ⟨?_, ?_, ?_⟩, fun j c hj hc => ?_, fun j hj hl => ?_, ⟨?_, ?_⟩, fun k hk => ?_, fun k hk => ⟨?_, ?_⟩⟩, ⟨?_, ?_⟩, fun n4 => ?_⟩
  · rw [s 3 _ (Or.inl (by omega)) (by omega), v k (by omega) (by omega)]; exact x1 k hk
  · rw [v 1 (by omega) (by omega)]; exact x2.1
  · rw [v 2 (by omega) (by omega)]; exact x2.2.1
  · rw [v 3 (by omega) (by omega)]; exact x2.2.2
  · rw [c5 j] at hc
    by_cases z : j = n
    · rw [if_pos z] at hc
      cases hc
      rw [z, e6.1, hr N 5 (krP_hi n65)]; exact ne3
    · rw [if_neg z] at hc
      have g := pr_65 hQ (Or.inl rfl) hj hc
      rw [s c 5 (Or.inr g) (by omega), v (5 + j) (by omega) (by omega)]; exact x3 j c hj hc
  · rw [d11, ti_add (by omega) (by omega), i1, hn] at hl
    by_cases z : j = n
    · rw [z, d5]
      have g := rc_i y'.2.2.2.2.1
      exact g
    · rw [v7 (44 + j) (by omega) (by omega) (by omega) (by omega) (by omega) (by omega) (by omega)]
      exact x4 j hj (by rw [← w]; omega)
  · rw [s 1 7 (Or.inl (by omega)) (by omega), v7 18 (by omega) (by omega) (by omega) (by omega) (by omega) (by omega) (by omega)]; exact x5.1
  · rw [s 1 8 (Or.inl (by omega)) (by omega), v7 19 (by omega) (by omega) (by omega) (by omega) (by omega) (by omega) (by omega)]; exact x5.2
  · rw [s 11 k (Or.inl (by omega)) (by omega), v7 (74 + k) (by omega) (by omega) (by omega) (by omega) (by omega) (by omega) (by omega)]; exact x6 k hk
  · rw [s 12 k (Or.inl (by omega)) (by omega), v7 (78 + k) (by omega) (by omega) (by omega) (by omega) (by omega) (by omega) (by omega)]; exact (x7 k hk).1
  · rw [s 13 k (Or.inl (by omega)) (by omega), v7 (86 + k) (by omega) (by omega) (by omega) (by omega) (by omega) (by omega) (by omega)]; exact (x7 k hk).2
  · rw [kf 54 17 rfl, c2 54 17 (by omega) (by omega)]; exact f.1
  · rw [kf 54 18 rfl, c2 54 18 (by omega) (by omega)]; exact f.2
  · rw [hr 54 4 rfl, c2 54 4 (by omega) (by omega)] at n4
    refine ld_rho (ld_eq (im n4) (fun k _ _ => s 16 k (Or.inl (by omega)) (by omega)) (s 14 7 (Or.inl (by omega)) (by omega)) (s 14 8 (Or.inl (by omega)) (by omega)) (fun r k _ _ => s r k (Or.inl (by omega)) (by omega)) (fun j c hj hc => s c 5 (Or.inr (pr_65 hQ (Or.inr rfl) hj hc)) (by omega)) (fun k _ => ?_)) (fun j _ => by rw [c4 15 (by omega) (by decide)])
    rw [hr 56 k rfl, c2 56 k (by omega) (by omega)]
theorem image_l {N N1 : Nat} {K len K1 L1 : Nat → Nat} {ρ ρ1 : RG} {r3 r6 : Int32} {σ σ3 σ6 : SG} (hQ : PR N K len ρ) (h : LSS σ σ ρ) (h3 : r3 = σ3 1 1 ∧ ∃ σ1, CPE 15 2 N 14 1 16 3 K (s2 σ 14 1 (σ 1 1)) ρ ((), N1, K1, L1, σ1, ρ1) ∧ σ3 = s2 σ1 0 2 1) (h6 : r6 = σ3 55 11 ∧ σ6 54 4 = 1 ∧ σ6 55 = σ3 55 ∧ (∀ r, r ≠ 54 → r ≠ 56 → σ6 r = σ3 r) ∧ ∀ k : Nat, k < 909 → σ6 56 k = σ3 55 k) (kf : KF σ3 σ6) : LSS σ6 σ6 ρ1 := by
  have n65 := hQ.1.1
  obtain ⟨e3, σ1, ⟨σ5, cp, hQ1, tk, tm⟩, e1⟩ := h3
  obtain ⟨g1, g2, g3, g4, g5⟩ := h6
  change CP 15 2 N 6 K (s2 σ 14 1 (σ 1 1)) ρ N1 K1 σ5 ρ1 at cp
  change TKM 14 1 σ5 σ1 at tm
  change PR N1 K1 L1 ρ1 at hQ1
  obtain ⟨m0, m1, m2, m3, m4, m5, m6, m7, m8, m9, m10, m11⟩ := tm
  have b5 : ∀ r k, r < N → r ≠ 14 → σ5 r k = σ r k := fun r k hr n => by rw [cp.1.2.2.1 r hr, s2_ne r n]
  have s3 : ∀ r k, r ≠ 0 → r ≠ 54 → r ≠ 56 → σ6 r k = σ1 r k := fun r k n n' n'' => by rw [g4 r n' n'', e1, s2_ne r n]
  have lo : ∀ r k, r < 14 → r ≠ 0 → σ6 r k = σ r k := fun r k l n => by rw [s3 r k n (by omega) (by omega), m11 r k (by omega) (by omega), b5 r k (by omega) (by omega)]
  have hi : ∀ r k, 65 ≤ r → r < N → σ6 r k = σ r k := fun r k l n => by rw [s3 r k (by omega) (by omega) (by omega), m11 r k (by omega) (by omega), b5 r k (by omega) (by omega)]
  have r55 : ∀ k, σ6 55 k = σ 55 k := fun k => by rw [s3 55 k (by decide) (by decide) (by decide), m11 55 k (by omega) (by omega), b5 55 k (by omega) (by omega)]
  have r56 : ∀ k, k < 909 → σ6 56 k = σ 55 k := fun k hk => by rw [g5 k hk, ← g3, r55]
  have f54 : ∀ k, σ3 54 k = σ 54 k := fun k => by rw [e1, s2_ne 54 (by decide), m11 54 k (by omega) (by omega), b5 54 k (by omega) (by omega)]
  have md : ∀ r k, 14 ≤ r → r ≤ 26 → σ6 r k = σ1 r k := fun r k a b => s3 r k (by omega) (by omega) (by omega)
  obtain ⟨x, f, im⟩ := h
  refine ⟨ld_rho (ld_eq x (fun k _ _ => lo 3 k (by omega) (by omega)) (lo 1 7 (by omega) (by omega)) (lo 1 8 (by omega) (by omega)) (fun r k _ _ => lo r k (by omega) (by omega)) (fun j c hj hc => hi c 5 (pr_65 hQ (Or.inl rfl) hj hc).1 (pr_65 hQ (Or.inl rfl) hj hc).2) (fun k _ => r55 k)) (fun j _ => by rw [cp.1.2.2.2 2 (by omega) (by decide)]), ⟨by rw [kf 54 17 rfl, f54]; exact f.1, by rw [kf 54 18 rfl, f54]; exact f.2⟩, fun _ => ?_⟩
  obtain ⟨x1, x2, x3, x4, x5, x6, x7⟩ := x
  refine ⟨fun k hk => ?_, ⟨?_, ?_, ?_⟩, fun j c hj hc => ?_, fun j hj hl => ?_, ⟨?_, ?_⟩, fun k hk => ?_, fun k hk => ⟨?_, ?_⟩⟩
  · rw [md 16 _ (by decide) (by decide), m1 (1 + k) (by omega), b5 (1 + 2) _ (by omega) (by decide), r56 k (by omega)]; exact x1 k hk
  · rw [r56 1 (by decide)]; exact x2.1
  · rw [r56 2 (by decide)]; exact x2.2.1
  · rw [r56 3 (by decide)]; exact x2.2.2
  · have c65 := (pr_65 hQ1 (Or.inr rfl) hj hc).1
    obtain ⟨nn, tw⟩ := cp.2.2 j hj hj
    cases e : ρ 2 j with
    | none => rw [nn.mpr e] at hc; cases hc
    | some c0 =>
      have t := tw c0 c e hc
      have t5 : σ5 c 5 = s2 σ 14 1 (σ 1 1) c0 5 := t.2.2.2.2.2.2.2
      have c0' := pr_65 hQ (Or.inl rfl) hj e
      rw [s3 c 5 (by omega) (by omega) (by omega), m11 c 5 (by omega) (by omega), t5, s2_ne c0 (by omega), r56 (5 + j) (by omega)]
      exact x3 j c0 hj e
  · rw [r56 11 (by decide)] at hl; rw [r56 (44 + j) (by omega)]; exact x4 j hj hl
  · rw [md 14 7 (by decide) (by decide), m0 7 (by omega), b5 1 7 (by omega) (by decide), r56 18 (by decide)]; exact x5.1
  · rw [md 14 8 (by decide) (by decide), m0 8 (by omega), b5 1 8 (by omega) (by decide), r56 19 (by decide)]; exact x5.2
  · rw [md 24 k (by decide) (by decide), m8 k hk, b5 (1 + 10) k (by omega) (by decide), r56 (74 + k) (by omega)]; exact x6 k hk
  · rw [md 25 k (by decide) (by decide), m9 k hk, b5 (1 + 11) k (by omega) (by decide), r56 (78 + k) (by omega)]; exact (x7 k hk).1
  · rw [md 26 k (by decide) (by decide), m10 k hk, b5 (1 + 12) k (by omega) (by decide), r56 (86 + k) (by omega)]; exact (x7 k hk).2
theorem undo_l {N N1 : Nat} {K len K1 L1 : Nat → Nat} {ρ ρ1 : RG} {r3 : Int32} {σ σ3 : SG} (hQ : PR N K len ρ) (RA' : RA K σ ρ) (h : LSS σ σ ρ) (h3 : (σ 0 2 = 0 ∧ (r3, N1, K1, L1, σ3, ρ1) = (-3, N, K, len, σ, ρ)) ∨ (¬ σ 0 2 = 0 ∧ r3 = σ3 1 1 ∧ CPE 2 15 N 1 14 3 16 K (s2 σ 1 1 (σ 14 1)) ρ ((), N1, K1, L1, σ3, ρ1))) : kp (F_X12_undo σ3 ρ1) (fun q => LSS q.2 q.2 ρ1) := by
  have n65 := hQ.1.1
  rcases h3 with ⟨c0, e⟩ | ⟨c0, e3, σ5, cp, hQ1, tk, tm⟩
  · cases e
    unfold F_X12_undo
    rw [if_pos (RA'.2.2.2.1.mp c0)]
    exact kp_some h
  change CP 2 15 N 6 K (s2 σ 1 1 (σ 14 1)) ρ N1 K1 σ5 ρ1 at cp
  change TKM 1 14 σ5 σ3 at tm
  change PR N1 K1 L1 ρ1 at hQ1
  have n4 : ¬ σ 54 4 = 0 := fun q => c0 (RA'.2.2.2.1.mpr q)
  obtain ⟨m0, m1, m2, m3, m4, m5, m6, m7, m8, m9, m10, m11⟩ := tm
  have b5 : ∀ r k, r < N → r ≠ 1 → σ5 r k = σ r k := fun r k hr n => by rw [cp.1.2.2.1 r hr, s2_ne r n]
  have hi3 : ∀ r k, r < N → 14 ≤ r → σ3 r k = σ r k := fun r k l g => by rw [m11 r k (by omega) (by omega), b5 r k l (by omega)]
  refine kp_mono (un_12r (σ := σ3) (by rw [hi3 54 4 (by omega) (by decide)]; exact n4)) (fun q z => ?_)
  obtain ⟨g1, g2, g3, g4, g5⟩ := z
  have q55 : ∀ k, k < 909 → q.2 55 k = σ 56 k := fun k hk => by rw [g5 k hk, hi3 56 k (by omega) (by decide)]
  have q56 : ∀ k, q.2 56 k = σ 56 k := fun k => by rw [g3, hi3 56 k (by omega) (by decide)]
  have q54 : ∀ k, q.2 54 k = σ 54 k := fun k => by rw [g2, hi3 54 k (by omega) (by decide)]
  have lo : ∀ r k, r ≠ 55 → q.2 r k = σ3 r k := fun r k l => by rw [g4 r l]
  have hi : ∀ r k, r ≠ 55 → 14 ≤ r → r < N → q.2 r k = σ r k := fun r k l a b => by rw [lo r k l, hi3 r k b a]
  obtain ⟨x, f, im⟩ := h
  have y := im n4
  refine ⟨?_, ⟨by rw [q54]; exact f.1, by rw [q54]; exact f.2⟩, fun _ => ld_rho (ld_eq y (fun k _ _ => hi 16 k (by decide) (by decide) (by omega)) (hi 14 7 (by decide) (by decide) (by omega)) (hi 14 8 (by decide) (by decide) (by omega)) (fun r k _ _ => hi r k (by omega) (by omega) (by omega)) (fun j c hj hc => hi c 5 (by have := (pr_65 hQ (Or.inr rfl) hj hc).1; omega) (by have := (pr_65 hQ (Or.inr rfl) hj hc).1; omega) (pr_65 hQ (Or.inr rfl) hj hc).2) (fun k _ => q56 k)) (fun j _ => by rw [cp.1.2.2.2 15 (by omega) (by decide)])⟩
  obtain ⟨x1, x2, x3, x4, x5, x6, x7⟩ := y
  refine ⟨fun k hk => ?_, ⟨?_, ?_, ?_⟩, fun j c hj hc => ?_, fun j hj hl => ?_, ⟨?_, ?_⟩, fun k hk => ?_, fun k hk => ⟨?_, ?_⟩⟩
  · rw [lo 3 _ (by decide), m1 (1 + k) (by omega), b5 (14 + 2) _ (by omega) (by decide), q55 k (by omega)]; exact x1 k hk
  · rw [q55 1 (by decide)]; exact x2.1
  · rw [q55 2 (by decide)]; exact x2.2.1
  · rw [q55 3 (by decide)]; exact x2.2.2
  · have c65 := (pr_65 hQ1 (Or.inl rfl) hj hc).1
    obtain ⟨nn, tw⟩ := cp.2.2 j hj hj
    cases e : ρ 15 j with
    | none => rw [nn.mpr e] at hc; cases hc
    | some c0 =>
      have t := tw c0 c e hc
      have t5 : σ5 c 5 = s2 σ 1 1 (σ 14 1) c0 5 := t.2.2.2.2.2.2.2
      have c0' := pr_65 hQ (Or.inr rfl) hj e
      rw [lo c 5 (by omega), m11 c 5 (by omega) (by omega), t5, s2_ne c0 (by omega), q55 (5 + j) (by omega)]
      exact x3 j c0 hj e
  · rw [q55 11 (by decide)] at hl; rw [q55 (44 + j) (by omega)]; exact x4 j hj hl
  · rw [lo 1 7 (by decide), m0 7 (by omega), b5 14 7 (by omega) (by decide), q55 18 (by decide)]; exact x5.1
  · rw [lo 1 8 (by decide), m0 8 (by omega), b5 14 8 (by omega) (by decide), q55 19 (by decide)]; exact x5.2
  · rw [lo 11 k (by decide), m8 k hk, b5 (14 + 10) k (by omega) (by decide), q55 (74 + k) (by omega)]; exact x6 k hk
  · rw [lo 12 k (by decide), m9 k hk, b5 (14 + 11) k (by omega) (by decide), q55 (78 + k) (by omega)]; exact (x7 k hk).1
  · rw [lo 13 k (by decide), m10 k hk, b5 (14 + 12) k (by omega) (by decide), q55 (86 + k) (by omega)]; exact (x7 k hk).2
/-! told, of -/
theorem told_l {a : Int32} {σ : SG} {ρ ρ' : RG} {K : Nat → Nat} (h : LSS σ σ ρ) (R : RA K σ ρ) (B : RB σ) : kp (F_X11_told a σ ρ) (fun q => kp (F_X12_told a σ ρ') (fun q' => q = q')) := by
  obtain ⟨x1, x2, x3, x4, x5, x6, x7⟩ := h.1
  have l0 : σ 3 1 = σ 55 0 := x1 0 (by decide)
  have l1 : σ 3 2 = σ 55 1 := x1 1 (by decide)
  have l2 : σ 3 3 = σ 55 2 := x1 2 (by decide)
  have l3 : σ 3 4 = σ 55 3 := x1 3 (by decide)
  have l4 : σ 3 5 = σ 55 4 := x1 4 (by decide)
  have w : σ 3 0 = σ 55 17 := R.1.2.2.2
  have e10 : (10 : Int32).toInt = 10 := rfl
  have e13 : (13 : Int32).toInt = 13 := rfl
  have H : HB 5 55 σ σ := B.1.2.2.2
  -- what the reference answers out of its range
  have out : ∀ (P : Int32 → Prop) (X : Option Int32), ¬ ((10 : Int32) ≤ a ∧ a ≤ (13 : Int32)) → kp X P → ∀ Y : Option Int32, kp (bn (F_X12_in a 10 13 σ ρ') fun r1 => if r1 = 0 then X else Y) P := fun P X n hx Y => kp_bn (kp_ok in_0) (fun r g => kp_ih (fun _ => hx) (fun z => absurd (g.2.mp z) n))
  unfold F_X11_told
  refine kp_ih (fun c => kp_some ?_) (fun n0 => kp_ih (fun c => kp_some ?_) (fun n1 => kp_ih (fun c => kp_some ?_) (fun n2 => kp_ih (fun c => kp_some ?_) (fun n3 => kp_ih (fun c => kp_some ?_) (fun n4 => kp_ih (fun c => kp_some ?_) (fun n5 => kp_ih (fun c => kp_some ?_) (fun n6 => kp_ih (fun c => kp_some ?_) (fun n7 => kp_bn (kp_ok wi_0) (fun r2 h2 => kp_ih (fun c => kp_some ?_) (fun c => kp_nm (fun x4 e4 => ?_)))))))))))
  · unfold F_X12_told
    exact out _ _ (by rw [c]; decide) (kp_t c (kp_some w)) _
  · unfold F_X12_told
    exact out _ _ (by rw [c]; decide) (kp_f n0 (kp_t c (kp_some l0))) _
  · unfold F_X12_told
    exact out _ _ (by rw [c]; decide) (kp_f n0 (kp_f n1 (kp_t c (kp_some l1)))) _
  · unfold F_X12_told
    exact out _ _ (by rw [c]; decide) (kp_f n0 (kp_f n1 (kp_f n2 (kp_t c (kp_some l2))))) _
  · unfold F_X12_told
    exact out _ _ (by rw [c]; decide) (kp_f n0 (kp_f n1 (kp_f n2 (kp_f n3 (kp_t c (kp_some l3)))))) _
  · unfold F_X12_told
    exact out _ _ (by rw [c]; decide) (kp_f n0 (kp_f n1 (kp_f n2 (kp_f n3 (kp_f n4 (kp_t c (kp_some l4))))))) _
  · unfold F_X12_told
    exact out _ _ (by rw [c]; decide) (kp_f n0 (kp_f n1 (kp_f n2 (kp_f n3 (kp_f n4 (kp_f n5 (kp_t c (kp_bn (k_tells H (Or.inl ⟨rfl, rfl, rfl⟩)) (fun r4 g => kp_some g.symm))))))))) _
  · unfold F_X12_told
    exact out _ _ (by rw [c]; decide) (kp_f n0 (kp_f n1 (kp_f n2 (kp_f n3 (kp_f n4 (kp_f n5 (kp_f n6 (kp_t c (kp_bn (k_tells H (Or.inr ⟨rfl, rfl, rfl⟩)) (fun r4 g => kp_some g.symm)))))))))) _
  · unfold F_X12_told
    exact out _ _ (fun q => h2.2.mpr q c) (kp_f n0 (kp_f n1 (kp_f n2 (kp_f n3 (kp_f n4 (kp_f n5 (kp_f n6 (kp_f n7 (kp_some rfl))))))))) _
  · have y := h2.2.mp c
    have g := rc_i y
    rw [e10, e13] at g
    have hx : x4.toInt = ((a.toInt - 10).toNat : Nat) := by rw [e4, ti_sub (by omega) (by omega), e10]; omega
    unfold F_X3_corner
    refine kp_bn (kp_bn (k_across hx) (fun r1 h1 => kp_nm (fun x2 e2 => kp_some (show x2 = σ 3 1 + acr (a.toInt - 10).toNat (σ 3 2) (σ 3 3) from by rw [e2, h1])))) (fun r5 h5 => kp_some ?_)
    unfold F_X12_told
    refine kp_bn (kp_ok in_0) (fun r q => kp_ih (fun z => absurd z (q.2.mpr y)) (fun _ => kp_nm (fun x6 e6 => kp_bn (k_corner (k := (a.toInt - 10).toNat) (by rw [e6, ← e4]; exact hx)) (fun r7 h7 => kp_some ?_))))
    rw [h5, h7, l0, l1, l2]
theorem of_l {N : Nat} {K len : Nat → Nat} {a b : Int32} {σ : SG} {ρ ρ' : RG} (hQ : PR N K len ρ) (h : LSS σ σ ρ) (R : RA K σ ρ) (hB0 : rg (σ 1 1) 0 6) : kp (F_X11_of N K len a b σ ρ) (fun q => kp (F_X12_of a b σ ρ') (fun q' => q = q')) := by
  have e0 : (0 : Int32).toInt = 0 := rfl
  have e5 : (5 : Int32).toInt = 5 := rfl
  have e6 : (6 : Int32).toInt = 6 := rfl
  have e20 : (20 : Int32).toInt = 20 := rfl
  have ic := ic_t (a := a) (ρ' := ρ') R hB0 (fun _ _ _ _ => rfl : RT σ σ)
  unfold F_X11_of
  refine kp_bn (kp_ok (at_11 (N := N) (len := len) hB0 R)) (fun o1 h1 => ?_)
  rcases h1 with ⟨rfl, n⟩ | ⟨c, j, rfl, v1, v2, hj, ej, hcj⟩
  · refine kp_some ?_
    unfold F_X12_of
    exact kp_bn ic (fun r1 g1 => kp_ih (fun _ => kp_some rfl) (fun z => absurd (g1.mp z) n))
  show kp (gd (isC N K c) _) _
  refine kp_gd (fun hcc => ?_)
  obtain ⟨⟨a1, a2, a3, a4, a5, -⟩, -⟩ := (R.2.1 j hj).2 c hcj
  have x3 := h.1.2.2.1 j c hj hcj
  -- what the reference answers
  have bad : ∀ P : Int32 → Prop, ¬ ((0 : Int32) ≤ b ∧ b ≤ (5 : Int32)) → P (-10001) → kp (F_X12_of a b σ ρ') P := fun P n p => by
    unfold F_X12_of
    exact kp_bn ic (fun r1 g1 => kp_f (g1.mpr ⟨v1, v2⟩) (kp_bn (kp_ok in_0) (fun r g => kp_ih (fun _ => kp_some p) (fun z => absurd (g.2.mp z) n))))
  have good : ∀ (P : Int32 → Prop) (m : Nat), b.toInt = (m : Int) → m < 5 → P (σ 55 (20 + 6 * m + j)) → kp (F_X12_of a b σ ρ') P := fun P m hm m5 p => by
    unfold F_X12_of
    refine kp_bn ic (fun r1 g1 => kp_f (g1.mpr ⟨v1, v2⟩) (kp_bn (kp_ok in_0) (fun r g => kp_f (g.2.mpr ⟨i_le (by omega), i_le (by omega)⟩) (kp_f (fun z => by rw [z] at hm; omega) (kp_nm (fun x6 g6 => kp_nm (fun x7 g7 => kp_nm (fun x8 g8 => kp_gd (fun _ => kp_some ?_)))))))))
    have q6 : x6.toInt = 6 * (m : Int) := by rw [g6, Int32.toInt_mul, e6, hm, bmod_id (by omega) (by omega)]
    have q7 : x7.toInt = 20 + 6 * (m : Int) := by rw [g7, ti_add (by omega) (by omega), e20, q6]
    have q8 : x8.toNatClampNeg = 20 + 6 * m + j := cn (by rw [g8, ti_add (by omega) (by omega), q7, ej]; omega)
    rw [q8]; exact p
  have five : ∀ (P : Int32 → Prop), b = 5 → P (σ 55 (5 + j)) → kp (F_X12_of a b σ ρ') P := fun P hb p => by
    unfold F_X12_of
    refine kp_bn ic (fun r1 g1 => kp_f (g1.mpr ⟨v1, v2⟩) (kp_bn (kp_ok in_0) (fun r g => kp_f (g.2.mpr (by rw [hb]; decide)) (kp_t hb (kp_nm (fun x10 g10 => kp_gd (fun _ => kp_some ?_)))))))
    have q : x10.toNatClampNeg = 5 + j := cn (by rw [g10, ti_add (by omega) (by omega), e5, ej]; omega)
    rw [q]; exact p
  refine kp_ih (fun d => kp_bn (k_kind hcc) (fun r4 h4 => kp_some (good _ 0 (by rw [d]; rfl) (by decide) (h4.trans a1)))) (fun n0 => kp_ih (fun d => kp_some (good _ 1 (by rw [d]; rfl) (by decide) a2)) (fun n1 => kp_ih (fun d => kp_some (good _ 2 (by rw [d]; rfl) (by decide) a3)) (fun n2 => kp_ih (fun d => kp_some (good _ 3 (by rw [d]; rfl) (by decide) a4)) (fun n3 => kp_ih (fun d => kp_some (good _ 4 (by rw [d]; rfl) (by decide) a5)) (fun n4 => kp_ih (fun d => kp_some (five _ d x3)) (fun n5 => kp_some (bad _ (fun q => ?_) rfl)))))))
  have g := rc_i q
  rw [e0, e5] at g
  have k : ∀ m : Int32, ¬ b = m → b.toInt ≠ m.toInt := fun m n z => n (ieq z)
  have k0 := k 0 n0
  have k1 := k 1 n1
  have k2 := k 2 n2
  have k3 := k 3 n3
  have k4 := k 4 n4
  have k5 := k 5 n5
  have i1 : (1 : Int32).toInt = 1 := rfl
  have i2 : (2 : Int32).toInt = 2 := rfl
  have i3 : (3 : Int32).toInt = 3 := rfl
  have i4 : (4 : Int32).toInt = 4 := rfl
  omega
