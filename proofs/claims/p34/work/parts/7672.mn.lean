/-! PART 7672.mn: by hand: mean, side by side -/
theorem a64 {x y : Int64} (h0 : 0 ≤ x.toInt) (h1 : x.toInt ≤ 1000000000) (g0 : 0 ≤ y.toInt) (g1 : y.toInt ≤ 1000000000) : (x + y).toInt = x.toInt + y.toInt := by
  rw [Int64.toInt_add]
  exact Int.bmod_eq_of_le (by omega) (by omega)
theorem mean_l {N : Nat} {K len : Nat → Nat} {a : Int32} {σ : SG} {ρ : RG} (b : BS N K len σ ρ) : kp (F_X11_mean N K len a σ ρ) (fun q => ∀ (τ : SG) (ρ' : RG), RT σ τ → kp (F_X12_mean a τ ρ') (fun q' => q.1 = q'.1)) := by
  have t11 : σ 1 1 = σ 55 11 := b.2.1.1.1
  obtain ⟨c0, c6⟩ := b.2.2.2.2
  have z64 : (0 : Int64).toInt = 0 := rfl
  have lq := b.2.2.2.1.1.2.1
  have x := b.2.2.2.1.1.1
  have l1 : σ 3 2 = σ 55 1 := x 1 (by decide)
  have l2 : σ 3 3 = σ 55 2 := x 2 (by decide)
  have loop : ∀ (n : Nat) (σ' : SG) (v1 : Int32) (sum : Int64) (v4 : Int32) (k : Nat), v4.toInt = (k : Int) → k ≤ 6 → ¬ σ 1 1 = 0 → 0 ≤ sum.toInt → sum.toInt ≤ 2400 * (k : Int) → KD σ σ' → (∀ k, k ≤ 5 → σ' 40 k = σ 3 k) → kp (F_X11_mean_32 N K len a n σ' ρ v1 sum v4) (fun q => ∀ (m : Nat) (τ : SG) (ρ' : RG), HOME σ τ → kp (F_X12_mean_32 a m τ ρ' v1 sum v4) (fun q' => q.1 = q'.1)) := by
    intro n
    induction n with
    | zero => intro σ' v1 sum v4 k _ _ _ _ _ _ _; exact kp_none
    | succ n ih =>
      intro σ' v1 sum v4 k hk hk6 hn0 hs0 hs1 hd h40
      have w1 : σ' 1 1 = σ 1 1 := kd_lo hd (by decide) (by decide)
      have cpos : 1 ≤ (σ 1 1).toInt := by
        have : (σ 1 1).toInt ≠ 0 := fun z => hn0 (ieq (by rw [z, ti_0]))
        omega
      have c64 : ((σ 1 1).toInt64).toInt = (σ 1 1).toInt := Int32.toInt_toInt64 _
      unfold F_X11_mean_32
      rw [w1]
      refine kp_ih (fun d => kp_bn (Q := fun q => ∀ (τ : SG) (ρ' : RG), kp (F_X12_lowest sum ((σ 1 1).toInt64) v1 τ ρ') (fun q' => q = q')) (fun q hq τ ρ' => euc (τ := τ) (ρ' := ρ') hs0 (by rw [c64]; omega) (by rw [c64]; omega) q hq) (fun r6 h6 => kp_some (fun m τ ρ' hm => ?_))) (fun d => kp_bn (at_bs (N := N) (len := len) b hd) (fun o7 h7 => ?_))
      · cases m with
        | zero => exact kp_none
        | succ m =>
          unfold F_X12_mean_32
          rw [hm.1.1 11 (by decide), ← t11]
          exact kp_t d (kp_bn (h6 τ ρ') (fun r g => kp_some g))
      have p := lt_i (nle d)
      rcases h7 with ⟨rfl, no⟩ | ⟨c, j, rfl, v1', v2', hj, ej, hcj⟩
      · exact absurd ⟨i_le (by rw [ti_0]; omega), i_lt p⟩ no
      have hcc : isC N K c = true := (b.1.2.2.1 j c hj hcj).1
      have c65 := (pr_65 b.1 (Or.inl rfl) hj hcj).1
      obtain ⟨th, tr⟩ := th_bs b hj hcj (by omega)
      have tr' : rg (σ c 4) 0 100 := by rw [th]; exact ⟨by have := tr.1; omega, by have := tr.2; omega⟩
      show kp (gd (isC N K c) _) _
      refine kp_gd (fun _ => kp_bn2 (kp_and (sim_step (d := 0) (a1 := 0) (a3 := 0) (th := σ c 4) b (by decide) rfl ej hj hcj hcc hd tr' (Or.inl ⟨rfl, rfl⟩)) (wgh_step b.1.1 hcc (by rw [h40 2 (by decide), l1]; exact lq.1) (by rw [h40 3 (by decide), l2]; exact lq.2.1) (by rw [kd_hi hd (by omega)]; exact tr'))) (fun r13 σ13 h13 => ?_))
      obtain ⟨h13, w13⟩ := h13
      have hd13 : KD σ σ13 := h13.1
      have k40 : ∀ k, k ≤ 5 → σ13 40 k = σ 3 k := fun k hk => (h13.2.1 40 k (by decide) (by decide)).trans (h40 k hk)
      have w13 : r13 = 1 → 0 ≤ (σ13 42 6).toInt ∧ (σ13 42 6).toInt ≤ 2400 := w13
      -- a round of the reference
      have ref : ∀ (m : Nat) (τ : SG) (ρ' : RG) (P : Int64 × SG → Prop), HOME σ τ → (r13 = 0 ∨ r13 = 1 → ∀ (m' : Nat) (τ' : SG) (x13 : Int32), HOME σ τ' → x13 = v4 + 1 → kp (F_X12_mean_32 a m' τ' ρ' v1 (if r13 = 0 then sum else sum + (σ13 42 6).toInt64) x13) P) → kp (F_X12_mean_32 a m τ ρ' v1 sum v4) P := fun m τ ρ' P hm go => by
        cases m with
        | zero => exact kp_none
        | succ m =>
          unfold F_X12_mean_32
          rw [hm.1.1 11 (by decide), ← t11]
          refine kp_f d (kp_nm (fun x7 g7 => kp_gd (fun _ => ?_)))
          rw [jn ej hj g7, hm.1.1 (44 + j) (by omega), ← th]
          refine kp_bn2 (h13.2.2 τ ρ' 999 (by omega) hm.1 (home_le b hm h40) (home_lq b hm)) (fun r9 τ9 g9 => ?_)
          have aw : AWAY σ τ9 := away_ft hj (home_away hm) g9.1.1
          obtain ⟨-, -, -, g⟩ := g9.1
          have fin : ∀ k1 : Int64, (r13 = 0 ∨ r13 = 1) → sum + k1 = (if r13 = 0 then sum else sum + (σ13 42 6).toInt64) → kp (F_X12_mean_73 a (F_X12_mean_32 a m) τ9 ρ' v1 v4 sum k1) P := fun k1 q e => by
            unfold F_X12_mean_73
            refine kp_nm (fun x11 g11 => kp_bn (home_back aw) (fun τ12 g12 => kp_nm (fun x13 g13 => ?_)))
            rw [g11, e]
            exact go q m τ12 x13 g12.1 g13
          rcases g with ⟨q, q', -, ⟨ww, -, -⟩, -⟩ | ⟨q, q', -⟩
          · have q : r13 = 1 := q
            have ww : σ13 42 6 = τ9 54 14 := ww
            refine kp_f (by rw [show r9 = 1 from q']; decide) (fin _ (Or.inr q) ?_)
            rw [if_neg (by rw [q]; decide), ww]
          · have q : r13 = 0 := q
            exact kp_t q' (fin 0 (Or.inl q) (by rw [if_pos q]; exact Int64.add_zero sum))
      have nx : ∀ y : Int64, y = (if r13 = 0 then sum else sum + (σ13 42 6).toInt64) → (r13 = 0 ∨ r13 = 1 → 0 ≤ y.toInt ∧ y.toInt ≤ 2400 * ((k + 1 : Nat) : Int)) → kp (F_X11_mean_75 N K len a (F_X11_mean_32 N K len a n) σ13 ρ v1 y v4) (fun q => ∀ (m : Nat) (τ : SG) (ρ' : RG), HOME σ τ → kp (F_X12_mean_32 a m τ ρ' v1 sum v4) (fun q' => q.1 = q'.1)) := fun y ey hy => by
        unfold F_X11_mean_75
        refine kp_nm (fun x11 h11 => ?_)
        have e11 : x11.toInt = ((k + 1 : Nat) : Int) := by rw [h11, ti_add (by rw [ti_1]; omega) (by rw [ti_1]; omega), ti_1, hk]; omega
        by_cases q : r13 = 0 ∨ r13 = 1
        · refine kp_mono (ih σ13 v1 y x11 (k + 1) e11 (by omega) hn0 (hy q).1 (hy q).2 hd13 k40) (fun q hq m τ ρ' hm => ref m τ ρ' _ hm (fun _ m' τ' x13 hm' h13' => ?_))
          rw [h13', ← h11, ← ey]
          exact hq m' τ' ρ' hm'
        · exact fun q0 _ m τ ρ' hm => ref m τ ρ' _ hm (fun q' => absurd q' q)
      refine kp_ih (fun z => nx sum (by rw [if_pos z]) (fun _ => ⟨hs0, by omega⟩)) (fun z => kp_nm (fun x15 h15 => nx x15 (by rw [if_neg z, h15]) (fun q => ?_)))
      have q1 : r13 = 1 := by
        rcases q with q | q
        · exact absurd q z
        · exact q
      obtain ⟨g0, g1⟩ := w13 q1
      have e64 : ((σ13 42 6).toInt64).toInt = (σ13 42 6).toInt := Int32.toInt_toInt64 _
      have e15 : x15.toInt = sum.toInt + (σ13 42 6).toInt := by rw [h15, a64 hs0 (by omega) (by rw [e64]; exact g0) (by rw [e64]; omega), e64]
      exact ⟨by omega, by omega⟩
  unfold F_X11_mean
  refine kp_bn (kp_ok wi_0) (fun r1 h1 => kp_ih (fun c => kp_some (fun τ ρ' t => ?_)) (fun c => kp_ih (fun d => kp_some (fun τ ρ' t => ?_)) (fun d => kp_bn (k_start b.1.1) (fun σ4 h4 => kp_mono (loop 1024 σ4 a 0 0 0 rfl (by decide) d (by decide) (by decide) h4.1 h4.2) (fun q hq τ ρ' t => ?_)))))
  · have n : ¬ ((0 : Int32) ≤ a ∧ a ≤ (1 : Int32)) := fun q => h1.2.mpr q c
    unfold F_X12_mean
    exact kp_bn (kp_ok in_0) (fun r g => kp_ih (fun _ => kp_some rfl) (fun z => absurd (g.2.mp z) n))
  · have y := h1.2.mp c
    unfold F_X12_mean
    refine kp_bn (kp_ok in_0) (fun r g => kp_f (g.2.mpr y) (kp_t ?_ (kp_some rfl)))
    rw [t 55 11 (by decide) (by decide), ← t11]; exact d
  · have y := h1.2.mp c
    unfold F_X12_mean
    refine kp_bn (kp_ok in_0) (fun r g => kp_f (g.2.mpr y) (kp_f ?_ (kp_bn (home_keeps b t) (fun τ4 g4 => hq 1024 τ4 ρ' g4))))
    rw [t 55 11 (by decide) (by decide), ← t11]; exact d
