/-! PART 7663.ag: by hand: on, again, evener, side by side -/
theorem k_val {q n : Nat} {x : Int32} {j : Nat} {σ : SG} {ρ : RG} (hx : x.toInt = (j : Int)) (hj : j < n) (hn : n ≤ 100) : kp (F_X11_valueAt q n x σ ρ) (fun v => v = σ q j) := by
  unfold F_X11_valueAt
  have en : (Int32.ofNat n).toInt = (n : Int) := Int32.toInt_ofNat_of_lt (by omega)
  refine kp_f (fun z => by have := lt_i z; rw [ti_0] at this; omega) (kp_f (fun z => by have := le_i z; omega) (kp_gd (fun _ => kp_some ?_)))
  rw [cn hx]
theorem on_l {N : Nat} {K len : Nat → Nat} {a w : Int32} {σ : SG} {ρ : RG} (b : BS N K len σ ρ) : kp (F_X11_on N K len a w σ ρ) (fun q => ∀ (τ : SG) (ρ' : RG), RT σ τ → kp (F_X12_on a w τ ρ') (fun q' => q.1 = q'.1)) := by
  have i0 : (0 : Int32).toInt = 0 := rfl
  have i3 : (3 : Int32).toInt = 3 := rfl
  have i5 : (5 : Int32).toInt = 5 := rfl
  have e10 : (10 : Int32).toInt = 10 := rfl
  have e40 : (40 : Int32).toInt = 40 := rfl
  obtain ⟨c0, c6⟩ := b.2.2.2.2
  have s3 : ∀ s : SG, KD σ s → ∀ k, s 3 k = σ 3 k := fun s h k => kd_lo h (by decide) (by decide)
  have l3 : σ 3 4 = σ 55 3 := b.2.2.2.1.1.1 3 (by decide)
  have l4 : σ 3 5 = σ 55 4 := b.2.2.2.1.1.1 4 (by decide)
  have body : (((0 : Int32) ≤ w ∧ w ≤ (5 : Int32)) ∨ (10 ≤ w.toInt ∧ w.toInt < 10 + (σ 1 1).toInt)) → kp (F_X11_on_37 N K len a w σ ρ a w) (fun q => ∀ (τ : SG) (ρ' : RG), RT σ τ → kp (F_X12_on_24 a w τ ρ' a w) (fun q' => q.1 = q'.1)) := fun hw => by
    unfold F_X11_on_37
    refine kp_bn (kp_ok wi_0) (fun r6 h6 => kp_ih (fun d => kp_some (fun τ ρ' t => ?_)) (fun d => ?_))
    · have n : ¬ ((0 : Int32) ≤ a ∧ a ≤ (40 : Int32)) := fun q => h6.2.mpr q d
      unfold F_X12_on_24
      exact kp_bn (kp_ok in_0) (fun r g => kp_ih (fun _ => kp_some rfl) (fun z => absurd (g.2.mp z) n))
    have y := h6.2.mp d
    have g40 := rc_i y
    refine kp_bn (go_on b (by omega)) (fun σ8 h8 => ?_)
    -- the reference, up to its question
    have ref : ∀ (τ : SG) (ρ' : RG) (v : Int32), RT σ τ → (∀ τ6 : SG, GF σ σ8 τ6 → kp (if (3 : Int32) ≤ w then (if w = (3 : Int32) then nm ((τ6 55 4) - (τ6 57 4)) fun x21 => bn (F_X12_goesBack τ6 ρ') fun σ22 => some (x21, σ22) else if w = (4 : Int32) then bn (F_X12_goesBack τ6 ρ') fun σ20 => some ((τ6 54 19), σ20) else if w = (5 : Int32) then bn (F_X12_goesBack τ6 ρ') fun σ19 => some ((τ6 54 20), σ19) else nm ((5 : Int32) + w) fun x11 => nm (x11 - (10 : Int32)) fun x12 => gd (inb x12 909) <| nm ((5 : Int32) + w) fun x14 => nm (x14 - (10 : Int32)) fun x15 => gd (inb x15 11) <| nm ((τ6 55 (x12).toNatClampNeg) - (τ6 57 (x15).toNatClampNeg)) fun x17 => bn (F_X12_goesBack τ6 ρ') fun σ18 => some (x17, σ18)) else nm ((0 : Int32) + w) fun x23 => gd (inb x23 909) <| bn (F_X12_goesBack τ6 ρ') fun σ25 => some ((τ6 55 (x23).toNatClampNeg), σ25)) (fun q' => v = q'.1)) → kp (F_X12_on_24 a w τ ρ' a w) (fun q' => v = q'.1) := fun τ ρ' v t k => by
      unfold F_X12_on_24
      exact kp_bn (kp_ok in_0) (fun r g => kp_f (g.2.mpr y) (kp_bn (home_keeps b t) (fun τ5 g5 => kp_bn (h8.2 τ5 ρ' g5) (fun τ6 g6 => k τ6 g6))))
    have bk : ∀ (τ8 : SG) (ρ' : RG) (v w' : Int32), v = w' → kp (bn (F_X12_goesBack τ8 ρ') fun σ23 => some (w', σ23)) (fun q' => v = q'.1) := fun τ8 ρ' v w' e => kp_bn (fun _ _ => trivial : kp _ (fun _ => True)) (fun σ23 _ => kp_some e)
    have low : ∀ (m : Int32) (k : Nat) (τ6 : SG) (ρ' : RG) (v : Int32), w = m → ¬ (3 : Int32) ≤ m → ((0 : Int32) + m).toNatClampNeg = k → v = τ6 55 k → kp (if (3 : Int32) ≤ w then (if w = (3 : Int32) then nm ((τ6 55 4) - (τ6 57 4)) fun x21 => bn (F_X12_goesBack τ6 ρ') fun σ22 => some (x21, σ22) else if w = (4 : Int32) then bn (F_X12_goesBack τ6 ρ') fun σ20 => some ((τ6 54 19), σ20) else if w = (5 : Int32) then bn (F_X12_goesBack τ6 ρ') fun σ19 => some ((τ6 54 20), σ19) else nm ((5 : Int32) + w) fun x11 => nm (x11 - (10 : Int32)) fun x12 => gd (inb x12 909) <| nm ((5 : Int32) + w) fun x14 => nm (x14 - (10 : Int32)) fun x15 => gd (inb x15 11) <| nm ((τ6 55 (x12).toNatClampNeg) - (τ6 57 (x15).toNatClampNeg)) fun x17 => bn (F_X12_goesBack τ6 ρ') fun σ18 => some (x17, σ18)) else nm ((0 : Int32) + w) fun x23 => gd (inb x23 909) <| bn (F_X12_goesBack τ6 ρ') fun σ25 => some ((τ6 55 (x23).toNatClampNeg), σ25)) (fun q' => v = q'.1) := fun m k τ6 ρ' v e n hk hv => by
      refine kp_f (by rw [e]; exact n) (kp_nm (fun x23 h23 => kp_gd (fun _ => ?_)))
      rw [h23, e, hk]
      exact bk _ _ _ _ hv
    refine kp_ih (fun e => kp_some (fun τ ρ' t => ref τ ρ' _ t (fun τ6 g => low 0 0 τ6 ρ' _ e (by decide) (by decide) g.2.2.1.1))) (fun n0 => kp_ih (fun e => kp_some (fun τ ρ' t => ref τ ρ' _ t (fun τ6 g => low 1 1 τ6 ρ' _ e (by decide) (by decide) g.2.2.1.2.1))) (fun n1 => kp_ih (fun e => kp_some (fun τ ρ' t => ref τ ρ' _ t (fun τ6 g => low 2 2 τ6 ρ' _ e (by decide) (by decide) g.2.2.1.2.2.1))) (fun n2 => kp_ih (fun e => kp_nm (fun x10 h10 => kp_some (fun τ ρ' t => ref τ ρ' _ t (fun τ6 g => ?_)))) (fun n3 => kp_ih (fun e => kp_nm (fun x11 h11 => kp_some (fun τ ρ' t => ref τ ρ' _ t (fun τ6 g => ?_)))) (fun n4 => kp_ih (fun e => kp_some (fun τ ρ' t => ref τ ρ' _ t (fun τ6 g => ?_))) (fun n5 => kp_nm (fun x12 h12 => ?_)))))))
    · refine kp_t (by rw [e]; decide) (kp_t e (kp_nm (fun x21 h21 => bk _ _ _ _ ?_)))
      show x10 = x21
      rw [h10, h21, g.2.1.2 4 (by decide), s3 σ8 h8.1, l4, g.2.2.1.2.2.2.2]
    · refine kp_t (by rw [e]; decide) (kp_f (by rw [e]; decide) (kp_t e (bk _ _ _ _ ?_)))
      show x11 = τ6 54 19
      rw [h11, g.2.2.2.2.2.2, s3 σ8 h8.1, l3, g.2.2.1.2.2.2.1]
    · refine kp_t (by rw [e]; decide) (kp_f (by rw [e]; decide) (kp_f (by rw [e]; decide) (kp_t e (bk _ _ _ _ ?_))))
      exact g.2.2.2.2.1
    · have k : ∀ m : Int32, ¬ w = m → w.toInt ≠ m.toInt := fun m n z => n (ieq z)
      have k0 := k 0 n0
      have k1 := k 1 n1
      have k2 := k 2 n2
      have k3 := k 3 n3
      have k4 := k 4 n4
      have k5 := k 5 n5
      have i1 : (1 : Int32).toInt = 1 := rfl
      have i2 : (2 : Int32).toInt = 2 := rfl
      have i4 : (4 : Int32).toInt = 4 := rfl
      have hw' : 10 ≤ w.toInt ∧ w.toInt < 10 + (σ 1 1).toInt := by
        rcases hw with z | z
        · have g := rc_i z
          omega
        · exact z
      obtain ⟨j, hj⟩ : ∃ j : Nat, w.toInt = 10 + (j : Int) := ⟨(w.toInt - 10).toNat, by omega⟩
      have j6 : j < 6 := by omega
      have x12j : x12.toInt = (j : Int) := by rw [h12, ti_sub (by omega) (by omega), e10]; omega
      refine kp_bn (k_val (j := j) x12j j6 (by decide)) (fun r13 h13 => kp_some (fun τ ρ' t => ref τ ρ' _ t (fun τ6 g => ?_)))
      refine kp_t (i_le (by omega)) (kp_f n3 (kp_f n4 (kp_f n5 (kp_nm (fun x11 h11 => kp_nm (fun x12' h12' => kp_gd (fun _ => kp_nm (fun x14 h14 => kp_nm (fun x15 h15 => kp_gd (fun _ => kp_nm (fun x17 h17 => bk _ _ _ _ ?_)))))))))))
      have q11 : x11.toInt = 15 + (j : Int) := by rw [h11, ti_add (by omega) (by omega), i5, hj]; omega
      have q12 : x12'.toNatClampNeg = 5 + j := cn (by rw [h12', ti_sub (by omega) (by omega), q11, e10]; omega)
      have q14 : x14.toInt = 15 + (j : Int) := by rw [h14, ti_add (by omega) (by omega), i5, hj]; omega
      have q15 : x15.toNatClampNeg = 5 + j := cn (by rw [h15, ti_sub (by omega) (by omega), q14, e10]; omega)
      show r13 = x17
      rw [h13, h17, q12, q15, g.2.1.2 (5 + j) (by omega), g.2.2.2.1 j j6]
      grind
  unfold F_X11_on
  refine kp_nm (fun x1 h1 => kp_bn (at_bs (N := N) (len := len) b (kd_refl σ)) (fun o2 h2 => ?_))
  have pass : ∀ (τ : SG) (ρ' : RG) (v : Int32), RT σ τ → (((0 : Int32) ≤ w ∧ w ≤ (5 : Int32)) ∨ ((0 : Int32) ≤ x1 ∧ x1 < σ 1 1)) → kp (F_X12_on_24 a w τ ρ' a w) (fun q' => v = q'.1) → kp (F_X12_on a w τ ρ') (fun q' => v = q'.1) := fun τ ρ' v t hv k => by
    unfold F_X12_on
    refine kp_bn (kp_ok in_0) (fun r g => kp_ih (fun z => kp_nm (fun x26 h26 => ?_)) (fun _ => k))
    have ex : x26 = x1 := by rw [h26, h1]
    rw [ex]
    refine kp_bn (ic_et b (et_rt b t)) (fun r27 g27 => kp_f (g27.mpr ?_) k)
    rcases hv with hv | hv
    · exact absurd z (g.2.mpr hv)
    · exact hv
  rcases h2 with ⟨rfl, no⟩ | ⟨c, j, rfl, v1', v2', j6, ej, hcj⟩
  · show kp (F_X11_on_19 N K len a w σ ρ a w 0) _
    unfold F_X11_on_19
    refine kp_bn (kp_ok wi_0) (fun r4 h4 => kp_ih (fun d => kp_t rfl (kp_some (fun τ ρ' t => ?_))) (fun d => kp_mono (body (Or.inl (h4.2.mp d))) (fun q hq τ ρ' t => pass τ ρ' _ t (Or.inl (h4.2.mp d)) (hq τ ρ' t))))
    unfold F_X12_on
    refine kp_bn (kp_ok in_0) (fun r g => kp_ih (fun z => kp_nm (fun x26 h26 => ?_)) (fun z => absurd (h4.2.mpr (g.2.mp z)) (fun y => y d)))
    have ex : x26 = x1 := by rw [h26, h1]
    rw [ex]
    exact kp_bn (ic_et b (et_rt b t)) (fun r27 g27 => kp_ih (fun _ => kp_some rfl) (fun z => absurd (g27.mp z) no))
  · show kp (gd (isC N K c) _) _
    refine kp_gd (fun _ => ?_)
    have a0 := le_i v1'
    have a6 := lt_i v2'
    have hb : w.toInt = x1.toInt + 10 := by
      have e : w = x1 + 10 := by rw [h1]; grind
      rw [e, ti_add (by omega) (by omega), e10]
    unfold F_X11_on_19
    have go := kp_mono (body (Or.inr ⟨by omega, by omega⟩)) (fun q hq τ ρ' t => pass τ ρ' q.1 t (Or.inr ⟨v1', v2'⟩) (hq τ ρ' t))
    exact kp_bn (kp_ok wi_0) (fun r4 h4 => kp_ih (fun d => kp_f (by decide) go) (fun d => go))
/-! again -/
theorem again_l {N : Nat} {K len : Nat → Nat} {a : Int32} {σ : SG} {ρ : RG} (b : BS N K len σ ρ) : kp (F_X11_again N K len a σ ρ) (fun q => ∀ (τ : SG) (ρ' : RG), RT σ τ → kp (F_X12_again a τ ρ') (fun q' => q.1 = q'.1)) := by
  have e20 : (20 : Int32).toInt = 20 := rfl
  have e5 : (-5 : Int32).toInt = -5 := rfl
  unfold F_X11_again
  refine kp_bn (at_bs (N := N) (len := len) b (kd_refl σ)) (fun o1 h1 => ?_)
  rcases h1 with ⟨rfl, n⟩ | ⟨c, j, rfl, v1, v2, hj, ej, hcj⟩
  · refine kp_some (fun τ ρ' t => ?_)
    unfold F_X12_again
    exact kp_bn (ic_et b (et_rt b t)) (fun r1 g1 => kp_ih (fun _ => kp_some rfl) (fun z => absurd (g1.mp z) n))
  have hcc : isC N K c = true := (b.1.2.2.1 j c hj hcj).1
  have c65 := (pr_65 b.1 (Or.inl rfl) hj hcj).1
  obtain ⟨th, tr⟩ := th_bs b hj hcj (by have := lt_i v2; omega)
  have tr' : rg (σ c 4) 0 100 := by rw [th]; exact ⟨by have := tr.1; omega, by have := tr.2; omega⟩
  have x := b.2.2.2.1.1.1
  have s3 : ∀ s : SG, KD σ s → ∀ k, s 3 k = σ 3 k := fun s h k => kd_lo h (by decide) (by decide)
  -- the answer, when the reference is through
  have fin : ∀ (τ : SG) (ρ' : RG) (v2 v : Int32), v = v2 → kp (F_X12_again_106 a τ ρ' v2) (fun q' => v = q'.1) := fun τ ρ' v2 v e => by
    unfold F_X12_again_106
    exact kp_nm (fun σ8 _ => kp_bn (fun _ _ => trivial : kp _ (fun _ => True)) (fun σ9 _ => kp_some e))
  have done : ∀ (m : Nat) (τ : SG) (ρ' : RG) (v2 v3 v : Int32), v = v2 → ¬ v2 = -5 → kp (F_X12_again_24 a m τ ρ' a v2 v3) (fun q' => v = q'.1) := fun m τ ρ' v2 v3 v e n => by
    cases m with
    | zero => exact kp_none
    | succ m =>
      unfold F_X12_again_24
      exact kp_ih (fun _ => fin τ ρ' v2 v e) (fun _ => kp_f n (fin τ ρ' v2 v e))
  have loop : ∀ (n : Nat) (σ' : SG) (v3 : Int32) (k : Nat), v3.toInt = (k : Int) → 1 ≤ k → k ≤ 21 → KD σ σ' → kp (F_X11_again_31 N K len a n σ' ρ c v3) (fun q => ∀ (m : Nat) (τ : SG) (ρ' : RG), ET 1 σ τ → (∀ k, k < 11 → τ 57 k = σ 55 k) → LE 37 σ' τ → LQ (999 + (k : Int)) τ → kp (F_X12_again_24 a m τ ρ' a (-5) v3) (fun q' => q.1 = q'.1)) := by
    intro n
    induction n with
    | zero => intro σ' v3 k _ _ _ _; exact kp_none
    | succ n ih =>
      intro σ' v3 k hk hk1 hk2 hd
      unfold F_X11_again_31
      refine kp_gd (fun _ => kp_ih (fun d => kp_some (fun m τ ρ' _ _ _ _ => ?_)) (fun d => ?_))
      · cases m with
        | zero => exact kp_none
        | succ m =>
          unfold F_X12_again_24
          exact kp_t d (fin τ ρ' (-5) _ rfl)
      have d' := le_i (nlt d)
      have tc : σ' c 4 = σ c 4 := kd_hi hd (by omega)
      rw [tc]
      refine kp_bn2 (sim_try (i := 37) (a5 := 1) (e := 1) b (by decide) ej hj hcj hcc hd tr' ⟨fun z => absurd z (by decide), fun z => absurd z (by decide)⟩) (fun r5 σ5 h5 => kp_nm (fun σ7 h7 => ?_))
      have hd5 : KD σ σ5 := h5.1
      have s7 : ∀ r x, ¬ (r = 37 ∧ x = 1) → σ7 r x = σ5 r x := fun r x n => by rw [h7, sn n]
      have hd7 : KD σ σ7 := kd_trans hd5 (fun r x p => s7 r x (fun z => by rw [z.1, z.2] at p; cases p))
      have v71 : σ7 37 1 = σ 55 0 := by rw [h7, sv, s3 σ5 hd5]; exact x 0 (by decide)
      have c2 : σ7 3 2 = σ 55 1 := (s3 σ7 hd7 2).trans (x 1 (by decide))
      have c3 : σ7 3 3 = σ 55 2 := (s3 σ7 hd7 3).trans (x 2 (by decide))
      -- a round of the reference
      have ref : ∀ (m : Nat) (τ : SG) (ρ' : RG) (P : Int32 × SG → Prop), ET 1 σ τ → (∀ k, k < 11 → τ 57 k = σ 55 k) → LE 37 σ' τ → LQ (999 + (k : Int)) τ → ((σ7 37 2 = σ 55 1 ∧ σ7 37 3 = σ 55 2) → ∀ (m' : Nat) (τ' : SG) (x17 : Int32), kp (F_X12_again_24 a m' τ' ρ' a v3 x17) P) → (¬ (σ7 37 2 = σ 55 1 ∧ σ7 37 3 = σ 55 2) → ∀ (m' : Nat) (τ' : SG) (x17 : Int32), x17 = v3 + 1 → ET 1 σ τ' → (∀ k, k < 11 → τ' 57 k = σ 55 k) → LE 37 σ7 τ' → LQ (999 + ((k + 1 : Nat) : Int)) τ' → kp (F_X12_again_24 a m' τ' ρ' a (-5) x17) P) → kp (F_X12_again_24 a m τ ρ' a (-5) v3) P := fun m τ ρ' P et f57 le lq yes no => by
        cases m with
        | zero => exact kp_none
        | succ m =>
          unfold F_X12_again_24
          refine kp_f d (kp_t rfl (kp_nm (fun x11 g11 => kp_gd (fun _ => ?_))))
          rw [jn ej hj g11, et.1 (44 + j) (by omega), ← th]
          refine kp_bn2 (h5.2.2 τ ρ' (999 + (k : Int)) (by omega) et le lq) (fun r13 τ13 g13 => kp_nm (fun τ15 g15 => ?_))
          obtain ⟨⟨ft, le', lq', -⟩, et'⟩ := g13
          have ft : FT j τ τ13 := ft
          have lq' : LQ (999 + (k : Int) + 1) τ13 := lq'
          have et' : ET 1 σ τ13 := et'
          have u15 : ∀ r x, ¬ (r = 55 ∧ x = 0) → τ15 r x = τ13 r x := fun r x n => by rw [g15, sn n]
          have w57 : ∀ x, x < 11 → τ15 57 x = σ 55 x := fun x hx => by rw [u15 57 x (by omega), ft 57 x (by decide) (by decide) (by omega) (by omega)]; exact f57 x hx
          have w0 : τ15 55 0 = σ 55 0 := by rw [g15, sv, ft 57 0 (by decide) (by decide) (by omega) (by omega)]; exact f57 0 (by decide)
          have et15 : ET 1 σ τ15 := ⟨fun x hx => by rw [u15 55 x (by omega)]; exact et'.1 x hx, by rw [u15 54 17 (by omega)]; exact et'.2.1, by rw [u15 54 18 (by omega)]; exact et'.2.2⟩
          obtain ⟨m1, m2, m3, m4, m5⟩ := le'
          have m2 : σ5 37 2 = τ13 55 1 := m2
          have m3 : σ5 37 3 = τ13 55 2 := m3
          have le15 : LE 37 σ7 τ15 := ⟨v71.trans w0.symm, by rw [s7 37 2 (by omega), u15 55 1 (by omega)]; exact m2, by rw [s7 37 3 (by omega), u15 55 2 (by omega)]; exact m3, by rw [s7 37 4 (by omega), u15 55 3 (by omega)]; exact m4, by rw [s7 37 5 (by omega), u15 55 4 (by omega)]; exact m5⟩
          have lq15 : LQ (999 + ((k + 1 : Nat) : Int)) τ15 := ⟨by rw [u15 55 1 (by omega)]; exact lq'.1, by rw [u15 55 2 (by omega)]; exact lq'.2.1, by rw [u15 55 3 (by omega)]; exact ⟨lq'.2.2.1, by have := lq'.2.2.2; omega⟩⟩
          have q1 : τ15 55 1 = σ7 37 2 := le15.2.1.symm
          have q2 : τ15 55 2 = σ7 37 3 := le15.2.2.1.symm
          rw [q1, q2, w57 1 (by decide), w57 2 (by decide)]
          have nope : ¬ (σ7 37 2 = σ 55 1 ∧ σ7 37 3 = σ 55 2) → kp (F_X12_again_97 a (F_X12_again_24 a m) τ15 ρ' a v3) P := fun z => by
            unfold F_X12_again_97 F_X12_again_99
            exact kp_nm (fun x17 h17 => no z m τ15 x17 h17 et15 w57 le15 lq15)
          refine kp_ih (fun z1 => kp_ih (fun z2 => ?_) (fun z2 => nope (fun q => z2 q.2))) (fun z1 => nope (fun q => z1 q.1))
          unfold F_X12_again_99
          exact kp_nm (fun x17 _ => yes ⟨z1, z2⟩ m τ15 x17)
      have n5 : ¬ v3 = -5 := fun z => by rw [z, e5] at hk; omega
      have nx : ¬ (σ7 37 2 = σ 55 1 ∧ σ7 37 3 = σ 55 2) → kp (F_X11_again_118 N K len a (F_X11_again_31 N K len a n) σ7 ρ c v3) (fun q => ∀ (m : Nat) (τ : SG) (ρ' : RG), ET 1 σ τ → (∀ k, k < 11 → τ 57 k = σ 55 k) → LE 37 σ' τ → LQ (999 + (k : Int)) τ → kp (F_X12_again_24 a m τ ρ' a (-5) v3) (fun q' => q.1 = q'.1)) := fun z => by
        unfold F_X11_again_118
        refine kp_gd (fun _ => kp_nm (fun x9 h9 => ?_))
        have e9 : x9.toInt = ((k + 1 : Nat) : Int) := by rw [h9, ti_add (by rw [ti_1]; omega) (by rw [ti_1]; omega), ti_1, hk]; omega
        refine kp_mono (ih σ7 x9 (k + 1) e9 (by omega) (by omega) hd7) (fun q hq m τ ρ' et f57 le lq => ref m τ ρ' _ et f57 le lq (fun y => absurd y z) (fun _ m' τ' x17 h17 et' f57' le' lq' => ?_))
        rw [h17, ← h9]; exact hq m' τ' ρ' et' f57' le' lq'
      rw [c2, c3]
      exact kp_ih (fun z1 => kp_ih (fun z2 => kp_some (fun m τ ρ' et f57 le lq => ref m τ ρ' _ et f57 le lq (fun _ m' τ' x17 => done m' τ' ρ' v3 x17 v3 rfl n5) (fun y => absurd ⟨z1, z2⟩ y))) (fun z2 => nx (fun q => z2 q.2))) (fun z1 => nx (fun q => z1 q.1))
  show kp (gd (isC N K c) _) _
  refine kp_gd (fun _ => kp_bn (k_tk (by decide)) (fun σ3 h3 => ?_))
  have hd3 : KD σ σ3 := fun r k p => h3.1 r k (fun z => by rw [z.1] at p; cases p)
  refine kp_mono (loop 1024 σ3 1 1 rfl (by decide) (by decide) hd3) (fun q hq τ ρ' t => ?_)
  unfold F_X12_again
  refine kp_bn (ic_et b (et_rt b t)) (fun r1 g1 => kp_f (g1.mpr ⟨v1, v2⟩) (kp_bn (home_keeps b t) (fun τ3 g3 => kp_nm (fun τ5 g5 => ?_))))
  have u5 : ∀ r x, ¬ (r = 54 ∧ x = 18) → τ5 r x = τ3 r x := fun r x n => by rw [g5, sn n]
  have le := home_le (i := 37) b g3 h3.2
  have lq := home_lq b g3
  obtain ⟨m1, m2, m3, m4, m5⟩ := le
  exact hq 1024 τ5 ρ' ⟨fun x hx => by rw [u5 55 x (by omega)]; exact g3.1.1 x hx, by rw [u5 54 17 (by omega)]; exact g3.1.2.1, by rw [g5, sv]⟩ (fun x hx => by rw [u5 57 x (by omega)]; exact g3.2.2 x hx) ⟨by rw [u5 55 0 (by omega)]; exact m1, by rw [u5 55 1 (by omega)]; exact m2, by rw [u5 55 2 (by omega)]; exact m3, by rw [u5 55 3 (by omega)]; exact m4, by rw [u5 55 4 (by omega)]; exact m5⟩ ⟨by rw [u5 55 1 (by omega)]; exact lq.1, by rw [u5 55 2 (by omega)]; exact lq.2.1, by rw [u5 55 3 (by omega)]; exact ⟨lq.2.2.1, by have := lq.2.2.2; omega⟩⟩
