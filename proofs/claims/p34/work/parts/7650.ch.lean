/-! PART 7650.ch: by hand: cheese, side by side -/
/-- what the law's row says of the cutter at a place -/
def AtJ (σ : SG) (ρ : RG) (x : Int32) (o : Option Nat) : Prop := (o = none ∧ ¬ ((0 : Int32) ≤ x ∧ x < σ 1 1)) ∨ ∃ c j : Nat, o = some c ∧ (0 : Int32) ≤ x ∧ x < σ 1 1 ∧ j < 6 ∧ x.toInt = (j : Int) ∧ ρ 2 j = some c
theorem th_of {N : Nat} {K len : Nat → Nat} {σ : SG} {ρ : RG} {j c : Nat} (h : LSS σ σ ρ) (R : RA K σ ρ) (hB0 : rg (σ 1 1) 0 6) (hj : j < 6) (hc : ρ 2 j = some c) (hl : (j : Int) < (σ 1 1).toInt) : σ c 4 = σ 55 (44 + j) ∧ rg (σ 55 (44 + j)) 1 40 := ⟨((R.2.1 j hj).2 c hc).1.2.2.2.2.1, h.1.2.2.2.1 j hj (by rw [← R.1.1]; exact hl)⟩
theorem k_ch39 {a1 a2 v1 v2 : Int32} {ρ : RG} {σ0 : SG} {P : Int32 × SG → Prop} (go : ∀ τ : SG, (∀ r, r ≠ 63 → τ r = σ0 r) → (∀ k, k < 6 → τ 63 k = 0) → kp (F_X12_cheese_63 a1 a2 1024 τ ρ v2 v1 0) P) : ∀ (n : Nat) (τ : SG) (v3 : Int32), 0 ≤ v3.toInt → v3.toInt ≤ 6 → (∀ r, r ≠ 63 → τ r = σ0 r) → (∀ k : Nat, (k : Int) < v3.toInt → τ 63 k = 0) → kp (F_X12_cheese_39 a1 a2 n τ ρ v1 v2 v3) P := by
  have e6 : (6 : Int32).toInt = 6 := rfl
  intro n
  induction n with
  | zero => intro τ v3 _ _ _ _; exact kp_none
  | succ n ih =>
    intro τ v3 h0 h6 hr hz
    unfold F_X12_cheese_39
    refine kp_ih (fun c => ?_) (fun c => kp_gd (fun _ => kp_nm (fun σ31 h31 => kp_nm (fun x32 h32 => ?_))))
    · have := le_i c
      exact go τ hr (fun k hk => hz k (by omega))
    · have := lt_i (nle c)
      have ex : x32.toInt = v3.toInt + 1 := by rw [h32, ti_add (by rw [ti_1]; omega) (by rw [ti_1]; omega), ti_1]
      have c0 := cl0 h0
      refine ih σ31 x32 (by omega) (by omega) (fun r hr' => by rw [h31, s2_ne r hr']; exact hr r hr') (fun k hk => ?_)
      rw [h31]
      by_cases z : k = v3.toNatClampNeg
      · rw [z, sv]
      · rw [sn (by omega)]; exact hz k (by omega)
theorem cheese_l {N : Nat} {K len : Nat → Nat} {a b : Int32} {σ : SG} {ρ ρ' : RG} (h : LSS σ σ ρ) (R : RA K σ ρ) (hB0 : rg (σ 1 1) 0 6) : kp (F_X11_cheese N K len a b σ ρ) (fun q => kp (F_X12_cheese a b σ ρ') (fun q' => q = q'.1)) := by
  have t11 : σ 1 1 = σ 55 11 := R.1.1
  have e0 : (0 : Int32).toInt = 0 := rfl
  have i1 : (1 : Int32).toInt = 1 := rfl
  have e10 : (10 : Int32).toInt = 10 := rfl
  have e12 : (12 : Int32).toInt = 12 := rfl
  have e360 : (360 : Int32).toInt = 360 := rfl
  have e44 : (44 : Int32).toInt = 44 := rfl
  obtain ⟨c0, c6⟩ := hB0
  -- the reference's answer
  have ans : ∀ (τ : SG) (v2 v3 left cuts : Int32) (v6 : Int32), ((v3 = 0 ∧ (v2 = 0 ∨ v2 = 1)) ∨ (¬ v3 = 0 ∧ 10 ≤ v2.toInt ∧ v2.toInt < 16 ∧ v6 = τ 63 (v2.toInt - 10).toNat)) → ∀ q, F_X11_cheese_161 N K len a b σ ρ v2 v3 left cuts v6 = some q → kp (F_X12_cheese_146 a b τ ρ' v2 left cuts) (fun q' => q = q'.1) := by
    intro τ v2 v3 left cuts v6 hv q hq
    unfold F_X11_cheese_161 at hq
    unfold F_X12_cheese_146
    rcases hv with ⟨z, hv⟩ | ⟨z, g1, g2, g3⟩
    · rw [if_pos z] at hq
      rcases hv with hv | hv
      · rw [if_pos hv] at hq; cases hq
        exact kp_t hv (kp_some rfl)
      · have n : ¬ v2 = 0 := by rw [hv]; decide
        rw [if_neg n] at hq; cases hq
        exact kp_f n (kp_t hv (kp_some rfl))
    · rw [if_neg z] at hq; cases hq
      refine kp_f (fun w => by rw [w] at g1; omega) (kp_f (fun w => by rw [w] at g1; omega) (kp_nm (fun x9 h9 => kp_gd (fun _ => kp_some ?_))))
      have ex : x9.toNatClampNeg = (v2.toInt - 10).toNat := cn (by rw [h9, ti_sub (by omega) (by omega), e10]; omega)
      show v6 = τ 63 x9.toNatClampNeg
      rw [ex]; exact g3
  have ansk : ∀ (v2 v3 left cuts v6 : Int32), kp (F_X11_cheese_161 N K len a b σ ρ v2 v3 left cuts v6) (fun q => ∀ τ : SG, ((v3 = 0 ∧ (v2 = 0 ∨ v2 = 1)) ∨ (¬ v3 = 0 ∧ 10 ≤ v2.toInt ∧ v2.toInt < 16 ∧ v6 = τ 63 (v2.toInt - 10).toNat)) → kp (F_X12_cheese_146 a b τ ρ' v2 left cuts) (fun q' => q = q'.1)) := fun v2 v3 left cuts v6 q hq τ hv => ans τ v2 v3 left cuts v6 hv q hq
  -- a round of the reference
  have round : ∀ (m : Nat) (τ : SG) (v2 left cuts : Int32) (P : Int32 × SG → Prop), (∀ r, r ≠ 63 → τ r = σ r) → 0 ≤ cuts.toInt → cuts.toInt ≤ 360 → ((σ 1 1 ≤ 0 ∨ ∀ j : Nat, j < 6 → (j : Int) = cuts.toInt % (σ 1 1).toInt → left < σ 55 (44 + j)) → kp (F_X12_cheese_146 a b τ ρ' v2 left cuts) P) → (¬ σ 1 1 ≤ 0 → ∀ j : Nat, j < 6 → (j : Int) = cuts.toInt % (σ 1 1).toInt → ¬ left < σ 55 (44 + j) → ∀ (m' : Nat) (τ2 : SG) (x27 x28 : Int32), τ2 = s2 τ 63 j (τ 63 j + σ 55 (44 + j)) → x27 = left - σ 55 (44 + j) → x28 = cuts + 1 → kp (F_X12_cheese_63 a b m' τ2 ρ' v2 x27 x28) P) → kp (F_X12_cheese_63 a b m τ ρ' v2 left cuts) P := by
    intro m τ v2 left cuts P hτ hc0 hc stop go
    cases m with
    | zero => exact kp_none
    | succ m =>
      have w11 : τ 55 11 = σ 1 1 := by rw [hτ 55 (by decide), t11]
      unfold F_X12_cheese_63
      rw [w11]
      refine kp_ih (fun d1 => stop (Or.inl d1)) (fun d1 => kp_gd (fun _ => kp_nm (fun x12 h12 => kp_nm (fun x13 h13 => kp_gd (fun _ => ?_)))))
      have p1 := lt_i (nle d1)
      have r12 : x12.toInt = cuts.toInt % (σ 1 1).toInt := by rw [h12, ti_rem (by omega), Int.tmod_eq_emod_of_nonneg hc0]
      have r12a : 0 ≤ x12.toInt := by rw [r12]; exact Int.emod_nonneg _ (by omega)
      have r12b : x12.toInt < (σ 1 1).toInt := by rw [r12]; exact Int.emod_lt_of_pos _ (by omega)
      obtain ⟨j, hj⟩ : ∃ j : Nat, x12.toInt = (j : Int) := ⟨x12.toInt.toNat, by omega⟩
      have j6 : j < 6 := by omega
      have x13n : x13.toNatClampNeg = 44 + j := cn (by rw [h13, ti_add (by omega) (by omega), e44, hj]; omega)
      rw [x13n, hτ 55 (by decide)]
      refine kp_ih (fun d => stop (Or.inr (fun j' _ hj' => ?_))) (fun d => kp_gd (fun _ => kp_nm (fun x17 h17 => kp_gd (fun _ => kp_nm (fun x19 h19 => kp_gd (fun _ => kp_nm (fun x21 h21 => kp_gd (fun _ => kp_nm (fun σ24 h24 => kp_nm (fun x25 h25 => kp_gd (fun _ => kp_nm (fun x27 h27 => kp_nm (fun x28 h28 => ?_)))))))))))))
      · have : j' = j := by omega
        rw [this]; exact d
      have e17 : x17 = x12 := by rw [h17, h12]
      have x17n : x17.toNatClampNeg = j := cn (by rw [e17, hj])
      have x19n : x19.toNatClampNeg = 44 + j := cn (by rw [h19, e17, ti_add (by omega) (by omega), e44, hj]; omega)
      have x25n : x25.toNatClampNeg = 44 + j := cn (by rw [h25, e17, ti_add (by omega) (by omega), e44, hj]; omega)
      rw [x17n, x19n] at h21
      rw [x17n, h21] at h24
      have h27' : x27 = left - σ 55 (44 + j) := by rw [h27, x25n, h24, sn (by omega), hτ 55 (by decide)]
      exact go d1 j j6 (by rw [← r12, hj]) d m σ24 x27 x28 h24 h27' h28
  -- the loop
  have loop : ∀ (n : Nat) (v2 v3 left cuts v6 : Int32), rg a 12 360 → 0 ≤ cuts.toInt → cuts.toInt ≤ 360 → 0 ≤ left.toInt → left.toInt ≤ a.toInt - cuts.toInt → kp (F_X11_cheese_62 N K len a b n σ ρ a v2 v3 left cuts v6 cuts) (fun q => ∀ (m : Nat) (τ : SG), (∀ r, r ≠ 63 → τ r = σ r) → ((v3 = 0 ∧ (v2 = 0 ∨ v2 = 1)) ∨ (¬ v3 = 0 ∧ 10 ≤ v2.toInt ∧ v2.toInt < 16 ∧ v6 = τ 63 (v2.toInt - 10).toNat)) → kp (F_X12_cheese_63 a b m τ ρ' v2 left cuts) (fun q' => q = q'.1)) := by
    intro n
    induction n with
    | zero => intro v2 v3 left cuts v6 _ _ _ _ _; exact kp_none
    | succ n ih =>
      intro v2 v3 left cuts v6 ra hc0 hc hl0 hl
      -- the thickness at the place that is due
      have due : ¬ σ 1 1 ≤ 0 → ∀ j : Nat, j < 6 → (j : Int) = cuts.toInt % (σ 1 1).toInt → ∃ c, ρ 2 j = some c ∧ σ c 4 = σ 55 (44 + j) ∧ rg (σ 55 (44 + j)) 1 40 := fun d1 j j6 hj => by
        have p1 := lt_i (nle d1)
        have b := Int.emod_lt_of_pos cuts.toInt (show 0 < (σ 1 1).toInt by omega)
        cases z : ρ 2 j with
        | some c => exact ⟨c, rfl, th_of (N := N) (len := len) h R ⟨c0, c6⟩ j6 z (by omega)⟩
        | none => have := (R.2.1 j j6).1.mp z; omega
      unfold F_X11_cheese_62
      refine kp_ih (fun d0 => kp_mono (ansk v2 v3 left cuts v6) (fun q hq m τ hτ hv => round m τ v2 left cuts _ hτ hc0 hc (fun _ => hq τ hv) (fun d1 j j6 hj nd => ?_))) (fun d0 => kp_ih (fun d1 => kp_mono (ansk v2 v3 left cuts v6) (fun q hq m τ hτ hv => round m τ v2 left cuts _ hτ hc0 hc (fun _ => hq τ hv) (fun d1' => absurd d1 d1'))) (fun d1 => kp_gd (fun _ => kp_nm (fun x13 h13 => kp_bn (kp_ok (at_11 (N := N) (len := len) ⟨c0, c6⟩ R)) (fun o14 h14 => ?_)))))
      · exfalso
        obtain ⟨c, -, -, t1, t40⟩ := due d1 j j6 hj
        have := le_i d0
        exact nd (i_lt (by omega))
      have p1 := lt_i (nle d1)
      have d0' := lt_i (nle d0)
      have r13 : x13.toInt = cuts.toInt % (σ 1 1).toInt := by rw [h13, ti_rem (by omega), Int.tmod_eq_emod_of_nonneg hc0]
      have r13a : 0 ≤ x13.toInt := by rw [r13]; exact Int.emod_nonneg _ (by omega)
      have r13b : x13.toInt < (σ 1 1).toInt := by rw [r13]; exact Int.emod_lt_of_pos _ (by omega)
      rcases h14 with ⟨rfl, no⟩ | ⟨c, j, rfl, v1', v2', j6, ej, hcj⟩
      · exact absurd ⟨i_le (by omega), i_lt (by omega)⟩ no
      obtain ⟨c', hc', th, t1, t40⟩ := due d1 j j6 (by rw [← r13, ej])
      rw [hcj] at hc'; cases hc'
      show kp (gd (isC N K c) _) _
      refine kp_gd (fun _ => kp_ih (fun d => kp_nm (fun x17 h17 => kp_nm (fun x18 h18 => kp_nm (fun x19 h19 => ?_)))) (fun d => kp_mono (ansk v2 v3 left cuts v6) (fun q hq m τ hτ hv => round m τ v2 left cuts _ hτ hc0 hc (fun _ => hq τ hv) (fun _ j' j6' hj' nd => ?_))))
      · rw [th] at d h17
        have dl := le_i d
        have r360 := ra.2
        have w17 : x17.toInt = left.toInt - (σ 55 (44 + j)).toInt := by rw [h17, ti_sub (by omega) (by omega)]
        have w18 : x18.toInt = cuts.toInt + 1 := by rw [h18, ti_add (by omega) (by omega), i1]
        have nx : ∀ k1 : Int32, (∀ τ : SG, (¬ v3 = 0 → 10 ≤ v2.toInt → v2.toInt < 16 → v6 = τ 63 (v2.toInt - 10).toNat → v6 + k1 = s2 τ 63 j (τ 63 j + σ 55 (44 + j)) 63 (v2.toInt - 10).toNat)) → kp (F_X11_cheese_152 N K len a b (F_X11_cheese_62 N K len a b n) σ ρ a v2 v3 x17 x18 cuts v6 k1) (fun q => ∀ (m : Nat) (τ : SG), (∀ r, r ≠ 63 → τ r = σ r) → ((v3 = 0 ∧ (v2 = 0 ∨ v2 = 1)) ∨ (¬ v3 = 0 ∧ 10 ≤ v2.toInt ∧ v2.toInt < 16 ∧ v6 = τ 63 (v2.toInt - 10).toNat)) → kp (F_X12_cheese_63 a b m τ ρ' v2 left cuts) (fun q' => q = q'.1)) := fun k1 hk => by
          unfold F_X11_cheese_152
          refine kp_nm (fun x21 h21 => kp_nm (fun x22 h22 => ?_))
          have e22 : x22 = x18 := by rw [h22, h18]
          rw [e22]
          refine kp_mono (ih v2 v3 x17 x18 x21 ra (by omega) (by omega) (by omega) (by omega)) (fun q hq m τ hτ hv => round m τ v2 left cuts _ hτ hc0 hc (fun z => ?_) (fun _ j' j6' hj' nd m' τ2 x27 x28 g1 g2 g3 => ?_))
          · exfalso
            rcases z with z | z
            · exact d1 z
            · have := lt_i (z j j6 (by rw [← r13, ej])); omega
          · have ejj : j' = j := by omega
            rw [ejj] at g1 g2
            have e27 : x27 = x17 := by rw [g2, h17]
            have e28 : x28 = x18 := by rw [g3, h18]
            rw [e27, e28]
            refine hq m' τ2 (fun r hr => by rw [g1, s2_ne r hr]; exact hτ r hr) ?_
            rcases hv with hv | ⟨z, z1, z2, z3⟩
            · exact Or.inl hv
            · exact Or.inr ⟨z, z1, z2, by rw [h21, g1]; exact hk τ z z1 z2 z3⟩
        refine kp_ih (fun w => nx _ (fun τ z z1 z2 z3 => ?_)) (fun w => nx _ (fun τ z z1 z2 z3 => ?_))
        · have w' : x13.toInt = v2.toInt - 10 := by rw [w, h19, ti_sub (by omega) (by omega), e10]
          have ek : (v2.toInt - 10).toNat = j := by omega
          rw [ek] at z3 ⊢
          rw [sv, ← z3, th]
        · have w' : x13.toInt ≠ v2.toInt - 10 := fun y => w (ieq (by rw [h19, ti_sub (by omega) (by omega), e10]; exact y))
          rw [sn (by omega), ← z3]
          exact Int32.add_zero v6
      · exfalso
        have ejj : j' = j := by omega
        rw [ejj] at nd
        rw [th] at d
        exact nd (nle d)
  -- what stands before it
  have e6 : (6 : Int32).toInt = 6 := rfl
  have body : ∀ (v3 : Int32), ((v3 = 0 ∧ (b = 0 ∨ b = 1)) ∨ (¬ v3 = 0 ∧ 10 ≤ b.toInt ∧ b.toInt < 16)) → kp (F_X11_cheese_35 N K len a b σ ρ a b v3) (fun q => kp (F_X12_cheese_22 a b σ ρ' a b) (fun q' => q = q'.1)) := fun v3 hv => by
    unfold F_X11_cheese_35
    refine kp_bn (kp_ok wi_0) (fun r6 h6 => kp_ih (fun d => kp_some ?_) (fun d => ?_))
    · have n : ¬ ((12 : Int32) ≤ a ∧ a ≤ (360 : Int32)) := fun q => h6.2.mpr q d
      unfold F_X12_cheese_22
      exact kp_bn (kp_ok in_0) (fun r g => kp_ih (fun _ => kp_some rfl) (fun z => absurd (g.2.mp z) n))
    · have y := h6.2.mp d
      have ya := rc_i y
      rw [e12, e360] at ya
      refine kp_mono (loop 1024 b v3 a 0 0 ya (by decide) (by decide) (by omega) (by omega)) (fun q hq => ?_)
      unfold F_X12_cheese_22
      refine kp_bn (kp_ok in_0) (fun r g => kp_ih (fun z => absurd z (g.2.mpr y)) (fun _ => ?_))
      refine k_ch39 (σ0 := σ) (fun τ hτ hz => hq 1024 τ hτ ?_) 1024 σ 0 (by decide) (by decide) (fun _ _ => rfl) (fun k hk => by rw [e0] at hk; omega)
      rcases hv with hv | ⟨z, z1, z2⟩
      · exact Or.inl hv
      · exact Or.inr ⟨z, z1, z2, (hz _ (by omega)).symm⟩
  unfold F_X11_cheese
  refine kp_nm (fun x1 h1 => kp_bn (kp_ok (at_11 (N := N) (len := len) ⟨c0, c6⟩ R)) (fun o2 h2 => ?_))
  have small : ∀ c : Int32, (c = 0 ∨ c = 1) → (0 : Int32) ≤ c ∧ c ≤ (1 : Int32) := fun c hc => by rcases hc with rfl | rfl <;> decide
  have in01 : ((0 : Int32) ≤ b ∧ b ≤ (1 : Int32)) → b = 0 ∨ b = 1 := fun q => by
    have g := rc_i q
    rw [e0, i1] at g
    rcases (show b.toInt = 0 ∨ b.toInt = 1 by omega) with z | z
    · exact Or.inl (ieq z)
    · exact Or.inr (ieq z)
  rcases h2 with ⟨rfl, no⟩ | ⟨c, j, rfl, v1', v2', j6, ej, hcj⟩
  · show kp (F_X11_cheese_19 N K len a b σ ρ a b 0) _
    unfold F_X11_cheese_19
    refine kp_bn (kp_ok wi_0) (fun r4 h4 => kp_ih (fun d => kp_t rfl (kp_some ?_)) (fun d => kp_mono (body 0 (Or.inl ⟨rfl, in01 (h4.2.mp d)⟩)) (fun q hq => ?_)))
    · unfold F_X12_cheese
      refine kp_bn (kp_ok in_0) (fun r g => kp_ih (fun _ => kp_nm (fun x33 h33 => ?_)) (fun z => absurd (h4.2.mpr (g.2.mp z)) (fun w => w d)))
      have ex : x33 = x1 := by rw [h33, h1]
      rw [ex]
      exact kp_bn (ic_t R ⟨c0, c6⟩ (fun _ _ _ _ => rfl : RT σ σ)) (fun r g => kp_ih (fun _ => kp_some rfl) (fun z => absurd (g.mp z) no))
    · unfold F_X12_cheese
      exact kp_bn (kp_ok in_0) (fun r g => kp_ih (fun z => absurd z (g.2.mpr (h4.2.mp d))) (fun _ => hq))
  · show kp (gd (isC N K c) _) _
    refine kp_gd (fun _ => ?_)
    unfold F_X11_cheese_19
    have a0 := le_i v1'
    have a6 := lt_i v2'
    have nb : ¬ ((0 : Int32) ≤ b ∧ b ≤ (1 : Int32)) := fun q => by
      have hb : x1.toInt = b.toInt - 10 := by
        have g := rc_i q
        rw [e0, i1] at g
        rw [h1, ti_sub (by omega) (by omega), e10]
      have g := rc_i q
      rw [e0, i1] at g
      omega
    refine kp_bn (kp_ok wi_0) (fun r4 h4 => kp_ih (fun d => kp_f (by decide) ?_) (fun d => absurd (h4.2.mp d) nb))
    have hb : b.toInt = x1.toInt + 10 := by
      have e : b = x1 + 10 := by rw [h1]; grind
      rw [e, ti_add (by omega) (by omega), e10]
    refine kp_mono (body 1 (Or.inr ⟨by decide, by omega, by omega⟩)) (fun q hq => ?_)
    unfold F_X12_cheese
    refine kp_bn (kp_ok in_0) (fun r g => kp_ih (fun _ => kp_nm (fun x33 h33 => ?_)) (fun z => absurd (g.2.mp z) nb))
    have ex : x33 = x1 := by rw [h33, h1]
    rw [ex]
    exact kp_bn (ic_t R ⟨c0, c6⟩ (fun _ _ _ _ => rfl : RT σ σ)) (fun r g => kp_f (g.mpr ⟨v1', v2'⟩) hq)
