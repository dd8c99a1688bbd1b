/-! PART 7664.ev: by hand: evener, side by side -/
theorem evener_l {N : Nat} {K len : Nat → Nat} {a w : Int32} {σ : SG} {ρ : RG} (b : BS N K len σ ρ) : kp (F_X11_evener N K len a w σ ρ) (fun q => ∀ (τ : SG) (ρ' : RG), RT σ τ → kp (F_X12_evener a w τ ρ') (fun q' => q.1 = q'.1)) := by
  have e40 : (40 : Int32).toInt = 40 := rfl
  have e5 : (5 : Int32).toInt = 5 := rfl
  have em5 : (-5 : Int32).toInt = -5 := rfl
  have t11 : σ 1 1 = σ 55 11 := b.2.1.1.1
  obtain ⟨c0, c6⟩ := b.2.2.2.2
  unfold F_X11_evener
  refine kp_bn (kp_ok wi_0) (fun r1 h1 => kp_ih (fun c => kp_some (fun τ ρ' t => ?_)) (fun c => kp_bn (kp_ok wi_0) (fun r3 h3 => kp_ih (fun d => kp_some (fun τ ρ' t => ?_)) (fun d => ?_))))
  · have n : ¬ ((0 : Int32) ≤ w ∧ w ≤ (1 : Int32)) := fun q => h1.2.mpr q c
    unfold F_X12_evener
    exact kp_bn (kp_ok in_0) (fun r g => kp_ih (fun _ => kp_some rfl) (fun z => absurd (g.2.mp z) n))
  · have n : ¬ ((0 : Int32) ≤ a ∧ a ≤ (40 : Int32)) := fun q => h3.2.mpr q d
    unfold F_X12_evener
    exact kp_bn (kp_ok in_0) (fun r g => kp_ih (fun z => absurd (h1.2.mp c) (fun y => g.2.mpr y z)) (fun _ => kp_bn (kp_ok in_0) (fun r g => kp_ih (fun _ => kp_some rfl) (fun z => absurd (g.2.mp z) n))))
  have y1 := h1.2.mp c
  have y3 := h3.2.mp d
  have g40 := rc_i y3
  refine kp_bn (go_on b (by omega)) (fun σ5 h5 => ?_)
  have w1 : σ5 1 1 = σ 1 1 := kd_lo h5.1 (by decide) (by decide)
  -- what each has eaten, behind the cuts
  have ev : ∀ (j x : Nat), j < 6 → ρ 2 j = some x → ∀ τ7 : SG, GF σ σ5 τ7 → σ5 x 5 + σ5 39 j = τ7 55 (5 + j) := fun j x hj hx τ7 g => by
    have x65 := (pr_65 b.1 (Or.inl rfl) hj hx).1
    rw [g.2.2.2.1 j hj, kd_hi h5.1 (by omega), b.2.2.2.1.1.2.2.1 j x hj hx]
  -- the reference's cells
  have jx : ∀ (v x : Int32) (j : Nat), v.toInt = (j : Int) → j < 6 → x = 5 + v → x.toNatClampNeg = 5 + j := fun v x j hv hj hx => cn (by rw [hx, ti_add (by omega) (by omega), e5, hv]; omega)
  have bkw : ∀ (τ8 : SG) (ρ' : RG) (v2 v3 x11 v : Int32), v = (if v2 = 0 then v3 else x11) → kp (bn (F_X12_goesBack τ8 ρ') fun σ12 => if v2 = 0 then some (v3, σ12) else some (x11, σ12)) (fun q' => v = q'.1) := fun τ8 ρ' v2 v3 x11 v e => kp_bn (fun _ _ => trivial : kp _ (fun _ => True)) (fun σ12 _ => kp_ih (fun z => kp_some (by rw [e, if_pos z])) (fun z => kp_some (by rw [e, if_neg z])))
  have loop : ∀ (n : Nat) (v3 v4 v5 v6 : Int32) (i k : Nat), v6.toInt = (k : Int) → 1 ≤ k → k ≤ 6 → v3.toInt = (i : Int) → i < k → (k : Int) ≤ (σ 1 1).toInt → kp (F_X11_evener_44 N K len a w n σ5 ρ w v3 v4 v5 v6) (fun q => ∀ (m : Nat) (τ7 : SG) (ρ' : RG), GF σ σ5 τ7 → v4 = τ7 55 (5 + i) → kp (F_X12_evener_61 a w m τ7 ρ' w v3 v5 v6) (fun q' => q.1 = q'.1)) := by
    intro n
    induction n with
    | zero => intro v3 v4 v5 v6 i k _ _ _ _ _ _; exact kp_none
    | succ n ih =>
      intro v3 v4 v5 v6 i k hk hk1 hk6 hi hik hkc
      have n5 : ¬ v3 = -5 := fun z => by rw [z, em5] at hi; omega
      have stop : ∀ (m : Nat) (τ7 : SG) (ρ' : RG) (v : Int32), σ 1 1 ≤ v6 → GF σ σ5 τ7 → v4 = τ7 55 (5 + i) → v = (if w = 0 then v3 else v4 - v5) → kp (F_X12_evener_61 a w m τ7 ρ' w v3 v5 v6) (fun q' => v = q'.1) := fun m τ7 ρ' v z g h4 e => by
        cases m with
        | zero => exact kp_none
        | succ m =>
          unfold F_X12_evener_61
          refine kp_t (by rw [g.2.1.1.1 11 (by decide), ← t11]; exact z) (kp_nm (fun x9 g9 => kp_gd (fun _ => kp_nm (fun x11 g11 => bkw _ _ _ _ _ _ ?_))))
          rw [jx v3 x9 i hi (by omega) g9, ← h4] at g11
          rw [e, g11]
      unfold F_X11_evener_44
      rw [w1]
      refine kp_ih (fun z => kp_ih (fun z' => kp_some (fun m τ7 ρ' g h4 => stop m τ7 ρ' _ z g h4 (by rw [if_pos z']))) (fun z' => kp_f n5 (kp_nm (fun x9 h9 => kp_some (fun m τ7 ρ' g h4 => stop m τ7 ρ' _ z g h4 (by rw [if_neg z', h9])))))) (fun z => kp_bn (at_bs (N := N) (len := len) b h5.1) (fun o10 h10 => ?_))
      have p6 := lt_i (nle z)
      rcases h10 with ⟨rfl, no⟩ | ⟨x, j, rfl, v1', v2', hj, ej, hcj⟩
      · exact absurd ⟨i_le (by rw [ti_0]; omega), i_lt p6⟩ no
      have ejk : j = k := by omega
      rw [ejk] at hcj hj ej
      show kp (gd (isC N K x) _) _
      refine kp_gd (fun _ => kp_bn (k_val (j := k) hk hj (by decide)) (fun r17 h17 => kp_nm (fun x18 h18 => ?_)))
      have hx18 : ∀ τ7 : SG, GF σ σ5 τ7 → x18 = τ7 55 (5 + k) := fun τ7 g => by rw [h18, h17]; exact ev k x hj hcj τ7 g
      -- a round of the reference
      have ref : ∀ (m : Nat) (τ7 : SG) (ρ' : RG) (P : Int32 × SG → Prop), GF σ σ5 τ7 → v4 = τ7 55 (5 + i) → (∀ (m' : Nat) (x22 : Int32), x22 = v6 + 1 → kp (F_X12_evener_61 a w m' τ7 ρ' w (if x18 ≤ v4 then v3 else v6) (if v5 ≤ x18 then v5 else x18) x22) P) → kp (F_X12_evener_61 a w m τ7 ρ' w v3 v5 v6) P := fun m τ7 ρ' P g h4 k' => by
        cases m with
        | zero => exact kp_none
        | succ m =>
          unfold F_X12_evener_61
          refine kp_f (by rw [g.2.1.1.1 11 (by decide), ← t11]; exact z) (kp_nm (fun x14 g14 => kp_gd (fun _ => kp_nm (fun x16 g16 => kp_gd (fun _ => ?_)))))
          rw [jx v6 x14 k hk hj g14, jx v3 x16 i hi (by omega) g16, ← h4, ← hx18 τ7 g]
          have rest : ∀ k0 : Int32, k0 = (if x18 ≤ v4 then v3 else v6) → kp (F_X12_evener_99 a w (F_X12_evener_61 a w m) τ7 ρ' w v5 v6 k0) P := fun k0 e0 => by
            unfold F_X12_evener_99
            refine kp_nm (fun x19 g19 => kp_gd (fun _ => ?_))
            rw [jx v6 x19 k hk hj g19, ← hx18 τ7 g]
            refine kp_ih (fun y => ?_) (fun y => kp_nm (fun x23 g23 => kp_gd (fun _ => ?_)))
            · unfold F_X12_evener_128
              refine kp_nm (fun x22 h22 => ?_)
              have := k' m x22 h22
              rw [if_pos y, ← e0] at this; exact this
            · rw [jx v6 x23 k hk hj g23, ← hx18 τ7 g]
              unfold F_X12_evener_128
              refine kp_nm (fun x22 h22 => ?_)
              have := k' m x22 h22
              rw [if_neg y, ← e0] at this; exact this
          exact kp_ih (fun y => rest v3 (by rw [if_pos y])) (fun y => rest v6 (by rw [if_neg y]))
      have nz : ¬ v6 = 0 := fun y => by rw [y, ti_0] at hk; omega
      unfold F_X11_evener_91
      refine kp_f nz (kp_nm (fun x13 h13 => ?_))
      have e13 : x13 = (if v5 ≤ x18 then v5 else x18) := by
        rw [h13]
        by_cases y : x18 < v5
        · rw [if_pos y, if_neg (fun y' => by have := le_i y'; have := lt_i y; omega)]
        · rw [if_neg y, if_pos (nlt y)]
      unfold F_X11_evener_110
      refine kp_f n5 ?_
      have nxt : ∀ (v3' v4' : Int32) (i' : Nat), v3' = (if x18 ≤ v4 then v3 else v6) → v3'.toInt = (i' : Int) → i' < k + 1 → (∀ τ7 : SG, GF σ σ5 τ7 → v4 = τ7 55 (5 + i) → v4' = τ7 55 (5 + i')) → kp (F_X11_evener_132 N K len a w (F_X11_evener_44 N K len a w n) σ5 ρ w v3' v4' x13 v6) (fun q => ∀ (m : Nat) (τ7 : SG) (ρ' : RG), GF σ σ5 τ7 → v4 = τ7 55 (5 + i) → kp (F_X12_evener_61 a w m τ7 ρ' w v3 v5 v6) (fun q' => q.1 = q'.1)) := fun v3' v4' i' e3 hi' hik' h4' => by
        unfold F_X11_evener_132
        refine kp_nm (fun x15 h15 => ?_)
        have e15 : x15.toInt = ((k + 1 : Nat) : Int) := by rw [h15, ti_add (by rw [ti_1]; omega) (by rw [ti_1]; omega), ti_1, hk]; omega
        refine kp_mono (ih v3' v4' x13 x15 i' (k + 1) e15 (by omega) (by omega) hi' hik' (by omega)) (fun q hq m τ7 ρ' g h4 => ref m τ7 ρ' _ g h4 (fun m' x22 h22 => ?_))
        rw [← e3, ← e13, h22, ← h15]
        exact hq m' τ7 ρ' g (h4' τ7 g h4)
      refine kp_ih (fun y => nxt v3 v4 i (by rw [if_pos y]) hi (by omega) (fun _ _ h => h)) (fun y => ?_)
      unfold F_X11_evener_125
      exact nxt v6 x18 k (by rw [if_neg y]) hk (by omega) (fun τ7 g _ => hx18 τ7 g)
  -- the first cutter
  have first : kp (F_X11_evener_44 N K len a w 1024 σ5 ρ w (-5) 0 0 0) (fun q => (σ 1 1 = 0 → q.1 = -5) ∧ (¬ σ 1 1 = 0 → ∀ (m : Nat) (τ7 : SG) (ρ' : RG), GF σ σ5 τ7 → kp (F_X12_evener_61 a w m τ7 ρ' w 0 (τ7 55 5) 1) (fun q' => q.1 = q'.1))) := by
    show kp (F_X11_evener_44 N K len a w (1023 + 1) σ5 ρ w (-5) 0 0 0) _
    unfold F_X11_evener_44
    rw [w1]
    refine kp_ih (fun z => ?_) (fun z => kp_bn (at_bs (N := N) (len := len) b h5.1) (fun o10 h10 => ?_))
    · have z' : σ 1 1 = 0 := ieq (by have := le_i z; rw [ti_0] at this ⊢; omega)
      refine kp_ih (fun _ => kp_some ⟨fun _ => rfl, fun y => absurd z' y⟩) (fun _ => kp_t rfl (kp_some ⟨fun _ => rfl, fun y => absurd z' y⟩))
    have p6 := lt_i (nle z)
    rw [ti_0] at p6
    rcases h10 with ⟨rfl, no⟩ | ⟨x, j, rfl, v1', v2', hj, ej, hcj⟩
    · exact absurd ⟨i_le (by omega), i_lt (by rw [ti_0]; omega)⟩ no
    have ejk : j = 0 := by rw [ti_0] at ej; omega
    rw [ejk] at hcj
    show kp (gd (isC N K x) _) _
    refine kp_gd (fun _ => kp_bn (k_val (j := 0) rfl (by decide) (by decide)) (fun r17 h17 => kp_nm (fun x18 h18 => ?_)))
    have hx18 : ∀ τ7 : SG, GF σ σ5 τ7 → x18 = τ7 55 5 := fun τ7 g => by rw [h18, h17]; exact ev 0 x (by decide) hcj τ7 g
    unfold F_X11_evener_91
    refine kp_t rfl ?_
    unfold F_X11_evener_110
    refine kp_t rfl ?_
    unfold F_X11_evener_125 F_X11_evener_132
    refine kp_nm (fun x15 h15 => ?_)
    have e15 : x15 = 1 := by rw [h15]; decide
    rw [e15]
    refine kp_mono (loop 1023 0 x18 x18 1 0 1 rfl (by decide) (by decide) rfl (by decide) (by omega)) (fun q hq => ⟨fun y => by rw [y, ti_0] at p6; omega, fun _ m τ7 ρ' g => ?_⟩)
    have := hq m τ7 ρ' g (hx18 τ7 g)
    rw [hx18 τ7 g] at this; exact this
  refine kp_mono first (fun q hq τ ρ' t => ?_)
  unfold F_X12_evener
  have w11 : τ 55 11 = σ 1 1 := (t 55 11 (by decide) (by decide)).trans t11.symm
  rw [w11]
  exact kp_bn (kp_ok in_0) (fun r g => kp_f (g.2.mpr y1) (kp_bn (kp_ok in_0) (fun r' g' => kp_f (g'.2.mpr y3) (kp_ih (fun z => kp_some (hq.1 z)) (fun z => kp_bn (home_keeps b t) (fun τ6 g6 => kp_bn (h5.2 τ6 ρ' g6) (fun τ7 g7 => hq.2 z 1024 τ7 ρ' g7)))))))
