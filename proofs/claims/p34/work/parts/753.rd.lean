/-! PART 753.rd: by hand: row, feed -/
theorem kno_9 {k : Nat} (h : isCk k = true) : (kno k = 6 ↔ k = 9) := by
  rcases isCk_or h with rfl | rfl | rfl | rfl | rfl | rfl | rfl <;> decide
theorem row_11 {N : Nat} {K len : Nat → Nat} {a1 a2 a3 : Int32} {σ : SG} {ρ : RG} (hQ : PR N K len ρ) (hB0 : rg (σ 1 1) 0 6) (R : RA K σ ρ) : kp (F_X11_row N K len a1 a2 a3 σ ρ) (fun q => (¬ ((0 : Int32) ≤ a1 ∧ a1 < σ 1 1) ∧ q = (-1, σ)) ∨ (((0 : Int32) ≤ a1 ∧ a1 < σ 1 1) ∧ ¬ ((0 : Int32) ≤ a2 ∧ a2 ≤ (3 : Int32)) ∧ q = (-1, σ)) ∨ (((0 : Int32) ≤ a1 ∧ a1 < σ 1 1) ∧ ((0 : Int32) ≤ a2 ∧ a2 ≤ (3 : Int32)) ∧ ¬ ((0 : Int32) ≤ a3 ∧ a3 ≤ (9 : Int32)) ∧ q = (-2, σ)) ∨ ∃ c j : Nat, ((0 : Int32) ≤ a1 ∧ a1 < σ 1 1) ∧ ((0 : Int32) ≤ a2 ∧ a2 ≤ (3 : Int32)) ∧ ((0 : Int32) ≤ a3 ∧ a3 ≤ (9 : Int32)) ∧ j < 6 ∧ a1.toInt = (j : Int) ∧ ρ 2 j = some c ∧ ((¬ K c = 9 ∧ q = (-3, σ)) ∨ (K c = 9 ∧ ∃ d, ρ c 6 = some d ∧ q = (σ d a2.toNatClampNeg, s2 σ d a2.toNatClampNeg a3)))) := by
  unfold F_X11_row
  refine kp_bn (kp_ok (at_11 (N := N) (len := len) hB0 R)) (fun o h => ?_)
  rcases h with ⟨rfl, n⟩ | ⟨c, j, rfl, v1, v2, hj, ej, hc⟩
  · exact kp_some (Or.inl ⟨n, rfl⟩)
  refine kp_gd (fun _ => kp_bn (kp_ok wi_0) (fun r3 h3 => ?_))
  by_cases d : r3 = 0
  · rw [if_pos d]; exact kp_some (Or.inr (Or.inl ⟨⟨v1, v2⟩, fun q => h3.2.mpr q d, rfl⟩))
  rw [if_neg d]
  refine kp_bn (kp_ok wi_0) (fun r5 h5 => ?_)
  by_cases d2 : r5 = 0
  · rw [if_pos d2]; exact kp_some (Or.inr (Or.inr (Or.inl ⟨⟨v1, v2⟩, h3.2.mp d, fun q => h5.2.mpr q d2, rfl⟩)))
  rw [if_neg d2]
  refine kp_mono (P := fun q => (¬ K c = 9 ∧ q = (-3, σ)) ∨ (K c = 9 ∧ ∃ d, ρ c 6 = some d ∧ q = (σ d a2.toNatClampNeg, s2 σ d a2.toNatClampNeg a3))) ?_ (fun q z => Or.inr (Or.inr (Or.inr ⟨c, j, ⟨v1, v2⟩, h3.2.mp d, h5.2.mp d2, hj, ej, hc, z⟩)))
  by_cases k9 : K c = 9
  · have n0 : ¬ io9 (K c) = 0 := by rw [k9]; decide
    rw [if_neg n0]
    obtain ⟨d', hd', -⟩ := (hQ.2.2.1 j c hj hc).2 k9
    refine kp_gd (fun _ => kp_gd (fun _ => ?_))
    rw [hd']
    exact kp_gd (fun _ => kp_gd (fun _ => kp_gd (fun _ => kp_gd (fun _ => kp_gd (fun _ => kp_nm (fun σ16 h16 => kp_some (Or.inr ⟨k9, d', rfl, by rw [h16]⟩)))))))
  · have n0 : io9 (K c) = 0 := by unfold io9; rw [if_neg k9]
    rw [if_pos n0]
    exact kp_some (Or.inl ⟨k9, rfl⟩)
theorem row_12 {a1 a2 a3 : Int32} {σ : SG} {ρ : RG} (hc : rg (σ 55 11) 0 6) : kp (F_X12_row a1 a2 a3 σ ρ) (fun q => (¬ ((0 : Int32) ≤ a1 ∧ a1 < σ 55 11) ∧ q = (-1, σ)) ∨ (((0 : Int32) ≤ a1 ∧ a1 < σ 55 11) ∧ ¬ ((0 : Int32) ≤ a2 ∧ a2 ≤ (3 : Int32)) ∧ q = (-1, σ)) ∨ (((0 : Int32) ≤ a1 ∧ a1 < σ 55 11) ∧ ((0 : Int32) ≤ a2 ∧ a2 ≤ (3 : Int32)) ∧ ¬ ((0 : Int32) ≤ a3 ∧ a3 ≤ (9 : Int32)) ∧ q = (-2, σ)) ∨ (((0 : Int32) ≤ a1 ∧ a1 < σ 55 11) ∧ ((0 : Int32) ≤ a2 ∧ a2 ≤ (3 : Int32)) ∧ ((0 : Int32) ≤ a3 ∧ a3 ≤ (9 : Int32)) ∧ ∀ j : Nat, a1.toInt = (j : Int) → (¬ σ 55 (20 + j) = 6 ∧ q = (-3, σ)) ∨ (σ 55 (20 + j) = 6 ∧ q = (σ 55 (50 + 4 * j + a2.toNatClampNeg), s2 σ 55 (50 + 4 * j + a2.toNatClampNeg) a3)))) := by
  unfold F_X12_row
  refine kp_bn (kp_ok (ic_12 hc)) (fun r1 h1 => ?_)
  by_cases c : r1 = 0
  · rw [if_pos c]; exact kp_some (Or.inl ⟨fun q => h1.mpr q c, rfl⟩)
  rw [if_neg c]
  refine kp_bn (kp_ok in_0) (fun r3 h3 => ?_)
  by_cases d : r3 = 0
  · rw [if_pos d]; exact kp_some (Or.inr (Or.inl ⟨h1.mp c, fun q => h3.2.mpr q d, rfl⟩))
  rw [if_neg d]
  refine kp_bn (kp_ok in_0) (fun r5 h5 => ?_)
  by_cases d2 : r5 = 0
  · rw [if_pos d2]; exact kp_some (Or.inr (Or.inr (Or.inl ⟨h1.mp c, h3.2.mp d, fun q => h5.2.mpr q d2, rfl⟩)))
  rw [if_neg d2]
  have v := h1.mp c
  have w := h3.2.mp d
  have u := h5.2.mp d2
  have b0 := Int32.le_iff_toInt_le.mp v.1
  have b := Int32.lt_iff_toInt_lt.mp v.2
  have r := hc.2
  have z0 : (0 : Int32).toInt = 0 := rfl
  have e3 : (3 : Int32).toInt = 3 := rfl
  have g0 := Int32.le_iff_toInt_le.mp w.1
  have g1 := Int32.le_iff_toInt_le.mp w.2
  have ra : rg a1 0 5 := ⟨by omega, by omega⟩
  have ra2 : rg a2 0 3 := ⟨by omega, by omega⟩
  have c2 := rg_cl ra2 (by decide)
  obtain ⟨j0, hj0⟩ : ∃ j : Nat, a1.toInt = (j : Int) := ⟨a1.toInt.toNat, by omega⟩
  refine kp_nm (fun x7 h7 => kp_gd (fun _ => ?_))
  have e20 : (20 : Int32).toInt = 20 := rfl
  have e50 : (50 : Int32).toInt = 50 := rfl
  have e4 : (4 : Int32).toInt = 4 := rfl
  have i7 : x7.toNatClampNeg = 20 + j0 := by
    have : x7.toInt = 20 + a1.toInt := by rw [h7, ti_add (by omega) (by omega), e20]
    show x7.toInt.toNat = _
    omega
  have i12 : ∀ x y z : Int32, x = 4 * a1 → y = 50 + x → z = y + a2 → z.toNatClampNeg = 50 + 4 * j0 + a2.toNatClampNeg := fun x y z hx hy hz => by
    have q1 : x.toInt = 4 * a1.toInt := by rw [hx, Int32.toInt_mul, e4, bmod_id (by omega) (by omega)]
    have q2 : y.toInt = 50 + 4 * a1.toInt := by rw [hy, ti_add (by omega) (by omega), e50, q1]
    have q3 : z.toInt = 50 + 4 * a1.toInt + a2.toInt := by rw [hz, ti_add (by omega) (by omega), q2]
    show z.toInt.toNat = _
    omega
  rw [i7]
  have jj : ∀ j : Nat, a1.toInt = (j : Int) → j = j0 := fun j hj => by omega
  by_cases k6 : σ 55 (20 + j0) = (6 : Int32)
  · rw [if_pos k6]
    refine kp_nm (fun x10 h10 => kp_nm (fun x11 h11 => kp_nm (fun x12 h12 => kp_gd (fun _ => kp_nm (fun x14 h14 => kp_nm (fun x15 h15 => kp_nm (fun x16 h16 => kp_gd (fun _ => kp_nm (fun σ19 h19 => kp_some (Or.inr (Or.inr (Or.inr ⟨v, w, u, fun j hj => Or.inr ?_⟩))))))))))))
    rw [jj j hj, i12 x10 x11 x12 h10 h11 h12, h19, i12 x14 x15 x16 h14 h15 h16]
    exact ⟨k6, rfl⟩
  · rw [if_neg k6]
    exact kp_some (Or.inr (Or.inr (Or.inr ⟨v, w, u, fun j hj => Or.inl (by rw [jj j hj]; exact ⟨k6, rfl⟩)⟩)))
theorem row_ra {N : Nat} {K len : Nat → Nat} {ρ : RG} {a1 a2 a3 b1 b2 b3 r3 r6 : Int32} {σ σ3 σ6 : SG} (hQ : PR N K len ρ) (R : RA K σ ρ)
    (h3 : (¬ ((0 : Int32) ≤ a1 ∧ a1 < σ 1 1) ∧ (r3, σ3) = (-1, σ)) ∨ (((0 : Int32) ≤ a1 ∧ a1 < σ 1 1) ∧ ¬ ((0 : Int32) ≤ a2 ∧ a2 ≤ (3 : Int32)) ∧ (r3, σ3) = (-1, σ)) ∨ (((0 : Int32) ≤ a1 ∧ a1 < σ 1 1) ∧ ((0 : Int32) ≤ a2 ∧ a2 ≤ (3 : Int32)) ∧ ¬ ((0 : Int32) ≤ a3 ∧ a3 ≤ (9 : Int32)) ∧ (r3, σ3) = (-2, σ)) ∨ ∃ c j : Nat, ((0 : Int32) ≤ a1 ∧ a1 < σ 1 1) ∧ ((0 : Int32) ≤ a2 ∧ a2 ≤ (3 : Int32)) ∧ ((0 : Int32) ≤ a3 ∧ a3 ≤ (9 : Int32)) ∧ j < 6 ∧ a1.toInt = (j : Int) ∧ ρ 2 j = some c ∧ ((¬ K c = 9 ∧ (r3, σ3) = (-3, σ)) ∨ (K c = 9 ∧ ∃ d, ρ c 6 = some d ∧ (r3, σ3) = (σ d a2.toNatClampNeg, s2 σ d a2.toNatClampNeg a3))))
    (h6 : (¬ ((0 : Int32) ≤ b1 ∧ b1 < σ3 55 11) ∧ (r6, σ6) = (-1, σ3)) ∨ (((0 : Int32) ≤ b1 ∧ b1 < σ3 55 11) ∧ ¬ ((0 : Int32) ≤ b2 ∧ b2 ≤ (3 : Int32)) ∧ (r6, σ6) = (-1, σ3)) ∨ (((0 : Int32) ≤ b1 ∧ b1 < σ3 55 11) ∧ ((0 : Int32) ≤ b2 ∧ b2 ≤ (3 : Int32)) ∧ ¬ ((0 : Int32) ≤ b3 ∧ b3 ≤ (9 : Int32)) ∧ (r6, σ6) = (-2, σ3)) ∨ (((0 : Int32) ≤ b1 ∧ b1 < σ3 55 11) ∧ ((0 : Int32) ≤ b2 ∧ b2 ≤ (3 : Int32)) ∧ ((0 : Int32) ≤ b3 ∧ b3 ≤ (9 : Int32)) ∧ ∀ j : Nat, b1.toInt = (j : Int) → (¬ σ3 55 (20 + j) = 6 ∧ (r6, σ6) = (-3, σ3)) ∨ (σ3 55 (20 + j) = 6 ∧ (r6, σ6) = (σ3 55 (50 + 4 * j + b2.toNatClampNeg), s2 σ3 55 (50 + 4 * j + b2.toNatClampNeg) b3))))
    (e1 : b1 = a1) (e2 : b2 = a2) (e3 : b3 = a3) : r3 = r6 ∧ RA K σ6 ρ := by
  subst e1 e2 e3
  have w : σ 1 1 = σ 55 11 := R.1.1
  rcases h3 with ⟨n, q⟩ | ⟨y, n, q⟩ | ⟨y, z, n, q⟩ | ⟨c, j, y, z, x, hj, ej, hc, q⟩
  · cases q
    rw [← w] at h6
    rcases h6 with ⟨n', q'⟩ | ⟨y', -⟩ | ⟨y', -⟩ | ⟨y', -⟩
    · cases q'; exact ⟨rfl, R⟩
    all_goals exact absurd y' n
  · cases q
    rw [← w] at h6
    rcases h6 with ⟨n', q'⟩ | ⟨y', -, q'⟩ | ⟨y', z', -⟩ | ⟨y', z', -⟩
    · exact absurd y n'
    · cases q'; exact ⟨rfl, R⟩
    all_goals exact absurd z' n
  · cases q
    rw [← w] at h6
    rcases h6 with ⟨n', q'⟩ | ⟨y', n', q'⟩ | ⟨y', z', n', q'⟩ | ⟨y', z', x', -⟩
    · exact absurd y n'
    · exact absurd z n'
    · cases q'; exact ⟨rfl, R⟩
    · exact absurd x' n
  · have kc := hQ.2.2.1 j c hj hc
    have cf := ((R.2.1 j hj).2 c hc).1
    have kn := kno_9 (isC_k kc.1)
    rcases q with ⟨n9, q⟩ | ⟨k9, d, hd, q⟩
    · cases q
      rw [← w] at h6
      rcases h6 with ⟨n', q'⟩ | ⟨y', n', q'⟩ | ⟨y', z', n', q'⟩ | ⟨y', z', x', q'⟩
      · exact absurd y n'
      · exact absurd z n'
      · exact absurd x n'
      · rcases q' j ej with ⟨g, q'⟩ | ⟨g, q'⟩
        · cases q'; exact ⟨rfl, R⟩
        · exact absurd (kn.mp (cf.1.trans g)) n9
    · have d65 := (ck_d kc k9 hd).2
      cases q
      have u : s2 σ d b2.toNatClampNeg b3 55 = σ 55 := s2_ne 55 (by omega)
      rw [u, ← w] at h6
      rcases h6 with ⟨n', q'⟩ | ⟨y', n', q'⟩ | ⟨y', z', n', q'⟩ | ⟨y', z', x', q'⟩
      · exact absurd y n'
      · exact absurd z n'
      · exact absurd x n'
      · rcases q' j ej with ⟨g, q'⟩ | ⟨g, q'⟩
        · exact absurd (cf.1.symm.trans (kn.mpr k9)) g
        · have z0 : (0 : Int32).toInt = 0 := rfl
          have z3 : (3 : Int32).toInt = 3 := rfl
          have g0 := Int32.le_iff_toInt_le.mp z.1
          have g1 := Int32.le_iff_toInt_le.mp z.2
          have k4 : b2.toNatClampNeg < 4 := by show b2.toInt.toNat < 4; omega
          obtain ⟨g1, g2⟩ := Prod.mk.inj q'
          exact ⟨by rw [g1]; exact cf.2.2.2.2.2 k9 d hd _ k4, ra_row hQ R hj hc k9 hd k4 g2⟩
theorem feed_12k {m : Int} {a1 : Int32} {σ : SG} {ρ : RG} (hB : BX m σ) : kp (F_X12_feed a1 σ ρ) (fun q => ∀ k, raK k = true → q.2 55 k = σ 55 k) := by
  have r : rg (σ 55 15) 0 100 := bx_get hB (r := 55) (a := 15) (b := 15) (k := 15) (l := 0) (h := 100) (by decide) (by decide) (by decide)
  unfold F_X12_feed
  refine kp_bx (fun r1 => kp_if (kp_some (fun _ _ => rfl)) (kp_if (kp_some (fun _ _ => rfl)) (kp_nm (fun x4 h4 => kp_gd (fun _ => kp_nm (fun σ7 h7 => kp_nm (fun x8 h8 => kp_nm (fun σ10 h10 => kp_some (fun k hk => ?_)))))))))
  have := raK_11 hk
  have r4 : rg x4 94 194 := rg_eq h4 (rg_add (show rg (94 : Int32) 94 94 from ⟨by decide, by decide⟩) r (by decide) (by decide) (by decide) (by decide))
  exact (s2_k h10 (by omega)).trans (s2_kx h7 r4 (by decide) (Or.inl (by omega)))
