/-! PART 7681.rl: by hand: rows, its answers -/
theorem k_start8 {N : Nat} {K len : Nat → Nat} {σ : SG} {ρ : RG} (hL : Lay N K len ρ) : kp (F_X11_startSteps σ ρ) (fun q => KD σ q ∧ (∀ k, k ≤ 5 → q 40 k = σ 3 k) ∧ q 0 8 = 0) := by
  intro q hq
  refine ⟨(k_start hL q hq).1, (k_start hL q hq).2, ?_⟩
  have h : kp (F_X11_startSteps σ ρ) (fun q => q 0 8 = 0) := by
    unfold F_X11_startSteps
    exact kp_bx (fun σ1 => kp_nm (fun σ3 h3 => kp_nm (fun σ5 h5 => kp_nm (fun σ7 h7 => kp_some (by rw [h7, sn (by omega), h5, sn (by omega), h3, sv])))))
  exact h q hq
theorem rows_l {N : Nat} {K len : Nat → Nat} {a : Int32} {σ : SG} {ρ : RG} (b : BS N K len σ ρ) (r13 : rg (σ 55 13) 0 4) : kp (F_X11_rows N K len a σ ρ) (fun q => ∀ (τ : SG) (ρ' : RG), RT σ τ → kp (F_X12_rows a τ ρ') (fun q' => q.1 = q'.1)) := by
  have t13 : σ 1 10 = σ 55 13 := b.2.1.1.2.1
  have em1 : (-1 : Int32).toInt = -1 := rfl
  have e3 : (3 : Int32).toInt = 3 := rfl
  have e5 : (5 : Int32).toInt = 5 := rfl
  obtain ⟨u0, u4⟩ := r13
  obtain ⟨W, hW⟩ : ∃ W : Nat, (σ 1 10).toInt = (W : Int) := ⟨(σ 1 10).toInt.toNat, by rw [t13]; omega⟩
  have W4 : W ≤ 4 := by rw [t13] at hW; omega
  unfold F_X11_rows
  refine kp_bn (kp_ok wi_0) (fun r1 h1 => kp_ih (fun c => kp_some (fun τ ρ' t => ?_)) (fun c => kp_bn (k_start8 b.1.1) (fun σ3 h3 => kp_bn2 (rows_R b hW W4 8 0 0 σ3 rfl (by omega) h3.1) (fun r4 σ4 h4 => ?_))))
  · have n : ¬ ((-1 : Int32) ≤ a ∧ a ≤ (3 : Int32)) := fun q => h1.2.mpr q c
    unfold F_X12_rows
    exact kp_bn (kp_ok in_0) (fun r g => kp_ih (fun _ => kp_some rfl) (fun z => absurd (g.2.mp z) n))
  have y := h1.2.mp c
  have yg := rc_i y
  rw [em1, e3] at yg
  obtain ⟨g1, -, -, -, g6⟩ := h4
  have g1 : KD σ σ4 := g1
  have p0 : 6 ^ (W - 0) ≤ 1296 := by
    have h : ∀ w : Fin 5, 6 ^ (w.val - 0) ≤ 1296 := by decide
    exact h ⟨W, by omega⟩
  -- the reference, up to its question
  have ref : ∀ (τ : SG) (ρ' : RG) (v : Int32), RT σ τ → (∀ σ6 : SG, FO W σ4 σ6 → σ6 54 28 = 0 + r4 → kp (if a = (-1 : Int32) then some ((σ6 54 28), σ6) else gd (inb a 5) <| some ((σ6 62 (a).toNatClampNeg), σ6)) (fun q' => v = q'.1)) → kp (F_X12_rows a τ ρ') (fun q' => v = q'.1) := fun τ ρ' v t k => by
    have et := et_rt b t
    have lss := lss_t b.1 b.2.2.2.1 t
    obtain ⟨x1, x2, -⟩ := lss.1
    have loop : ∀ (n : Nat) (τ1 : SG) (v2 : Int32), 0 ≤ v2.toInt → v2.toInt ≤ 5 → (∀ r x, r ≠ 62 → τ1 r x = τ r x) → (∀ x : Nat, (x : Int) < v2.toInt → τ1 62 x = -5) → kp (F_X12_rows_13 a n τ1 ρ' a v2) (fun q' => v = q'.1) := by
      intro n
      induction n with
      | zero => intro τ1 v2 _ _ _ _; exact kp_none
      | succ n ih =>
        intro τ1 v2 n0 n5 hr hz
        unfold F_X12_rows_13
        refine kp_ih (fun d => kp_nm (fun τ5 g5 => ?_)) (fun d => kp_gd (fun _ => kp_nm (fun σ11 h11 => kp_nm (fun x12 h12 => ?_))))
        · have d5 := le_i d
          have u5 : ∀ r x, r ≠ 62 → ¬ (r = 54 ∧ x = 28) → τ5 r x = τ r x := fun r x h h' => by rw [g5, sn h']; exact hr r x h
          have z28 : τ5 54 28 = 0 := by rw [g5, sv]
          have RW0 : RWD W 0 σ σ3 τ5 := by
            refine ⟨⟨fun x hx => by rw [u5 55 x (by decide) (by omega)]; exact et.1 x hx, by rw [u5 54 17 (by decide) (by omega)]; exact et.2.1, by rw [u5 54 18 (by decide) (by omega)]; exact et.2.2⟩, ⟨?_, ?_, ?_, ?_, ?_⟩, ⟨by rw [u5 55 1 (by decide) (by omega)]; exact x2.1, by rw [u5 55 2 (by decide) (by omega)]; exact x2.2.1, by rw [u5 55 3 (by decide) (by omega)]; exact x2.2.2⟩, fun k hk => absurd hk (by omega), ⟨⟨fun _ => z28, fun _ => h3.2.2⟩, fun _ x hx => ?_, fun q => absurd h3.2.2 q⟩⟩
            · exact (h3.2.1 1 (by decide)).trans ((x1 0 (by decide)).trans (u5 55 0 (by decide) (by omega)).symm)
            · exact (h3.2.1 2 (by decide)).trans ((x1 1 (by decide)).trans (u5 55 1 (by decide) (by omega)).symm)
            · exact (h3.2.1 3 (by decide)).trans ((x1 2 (by decide)).trans (u5 55 2 (by decide) (by omega)).symm)
            · exact (h3.2.1 4 (by decide)).trans ((x1 3 (by decide)).trans (u5 55 3 (by decide) (by omega)).symm)
            · exact (h3.2.1 5 (by decide)).trans ((x1 4 (by decide)).trans (u5 55 4 (by decide) (by omega)).symm)
            · rw [g5, sn (by omega)]; exact hz x (by omega)
          unfold F_X12_rowsFrom
          refine kp_bn (g6 6 τ5 ρ' (by decide) RW0 (by rw [z28]; decide) (by rw [z28, ti_0]; omega)) (fun σ6 k6 => k σ6 k6.1.2.2.2.2 ?_)
          have := k6.2.1
          rw [z28] at this; exact this
        · have d5 := lt_i (nle d)
          have e12 : x12.toInt = v2.toInt + 1 := by rw [h12, ti_add (by rw [ti_1]; omega) (by rw [ti_1]; omega), ti_1]
          have c0 := cl0 n0
          refine ih σ11 x12 (by omega) (by omega) (fun r x h => by rw [h11, s2_ne r h]; exact hr r x h) (fun x hx => ?_)
          rw [h11]
          by_cases w : x = v2.toNatClampNeg
          · rw [w, sv]
          · rw [sn (by omega)]; exact hz x (by omega)
    unfold F_X12_rows
    exact kp_bn (kp_ok in_0) (fun r g => kp_f (g.2.mpr y) (loop 1024 τ 0 (by decide) (by decide) (fun _ _ _ => rfl) (fun x hx => by rw [ti_0] at hx; omega)))
  refine kp_ih (fun z => ?_) (fun z => kp_some (fun τ ρ' t => ref τ ρ' _ t (fun σ6 fo cnt => ?_)))
  rotate_left
  · have z := lt_i (nle z)
    rw [ti_0] at z
    refine kp_t (ieq (by omega)) (kp_some ?_)
    show r4 = σ6 54 28
    rw [cnt]; grind
  have zi := le_i z
  rw [ti_0] at zi
  obtain ⟨k, hk⟩ : ∃ k : Nat, a.toInt = (k : Int) := ⟨a.toInt.toNat, by omega⟩
  have nm1 : ¬ a = -1 := fun q => by rw [q, em1] at zi; omega
  have na : a.toNatClampNeg = k := cn hk
  have w10 : σ4 1 10 = σ 1 10 := kd_lo g1 (by decide) (by decide)
  have last : ∀ (v : Int32) (σ6 : SG), v = σ6 62 k → kp (if a = (-1 : Int32) then some ((σ6 54 28), σ6) else gd (inb a 5) <| some ((σ6 62 (a).toNatClampNeg), σ6)) (fun q' => v = q'.1) := fun v σ6 e => kp_f nm1 (kp_gd (fun _ => kp_some (by rw [na]; exact e)))
  refine kp_ih (fun z0 => kp_some (fun τ ρ' t => ref τ ρ' _ t (fun σ6 fo _ => last _ σ6 (fo.2.1 z0 k (by omega)).symm))) (fun z0 => ?_)
  rw [w10]
  refine kp_ih (fun z1 => kp_some (fun τ ρ' t => ref τ ρ' _ t (fun σ6 fo _ => last _ σ6 ((fo.2.2 z0).2 k (by omega) (by have := le_i z1; omega)).symm))) (fun z1 => kp_bn (k_val (q := 36) (n := 6) (j := k) hk (by omega) (by decide)) (fun r8 h8 => kp_some (fun τ ρ' t => ref τ ρ' _ t (fun σ6 fo _ => last _ σ6 ?_))))
  have := lt_i (nle z1)
  show r8 = σ6 62 k
  rw [h8]; exact ((fo.2.2 z0).1 k (by omega)).symm
