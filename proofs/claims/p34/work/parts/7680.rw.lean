/-! PART 7680.rw: by hand: rows, side by side -/
theorem ak_ft {k j : Nat} {τ τ1 τ2 : SG} (hj : j < 6) (h : AK k τ τ1) (f : FT j τ1 τ2) : AK k τ τ2 := ⟨fun x hx => by rw [f 60 _ (by decide) (by decide) (by omega) (by omega)]; exact h.1 x hx, fun y hy => by rw [f 60 y (by decide) (by decide) (by omega) (by omega)]; exact h.2.1 y hy, by rw [f 54 17 (by decide) (by decide) (by omega) (by omega)]; exact h.2.2.1, by rw [f 54 18 (by decide) (by decide) (by omega) (by omega)]; exact h.2.2.2⟩
/-- what is found so far: the class's flag and path, the reference's count and path -/
def FO (W : Nat) (s τ : SG) : Prop := (s 0 8 = 0 ↔ τ 54 28 = 0) ∧ (s 0 8 = 0 → ∀ k, k < 5 → τ 62 k = -5) ∧ (¬ s 0 8 = 0 → (∀ k, k < W → τ 62 k = s 36 k) ∧ ∀ k, k < 5 → W ≤ k → τ 62 k = -5)
/-- as the two stand when depth d begins -/
def RWD (W d : Nat) (σ s τ : SG) : Prop := ET 0 σ τ ∧ LE (40 + 2 * d) s τ ∧ LQ (999 + (d : Int)) τ ∧ (∀ k, k < d → τ 61 k = s 35 k) ∧ FO W s τ
theorem fo_eq {W : Nat} {s τ s' τ' : SG} (h : FO W s τ) (a : s' 0 8 = s 0 8) (b : ∀ k, k < W → s' 36 k = s 36 k) (c : τ' 54 28 = τ 54 28) (d : ∀ k, k < 5 → τ' 62 k = τ 62 k) (hW : W ≤ 4) : FO W s' τ' := by
  obtain ⟨x, y, z⟩ := h
  refine ⟨by rw [a, c]; exact x, fun q k hk => ?_, fun q => ⟨fun k hk => ?_, fun k hk hw => ?_⟩⟩
  · rw [a] at q; rw [d k hk]; exact y q k hk
  · rw [a] at q; rw [d k (by omega), b k hk]; exact (z q).1 k hk
  · rw [a] at q; rw [d k hk]; exact (z q).2 k hk hw
theorem k_path7 {a1 : Int32} {ρ : RG} {D : Nat} (hD : D ≤ 6) : ∀ (n : Nat) (s : SG) (v1 v2 : Int32), v1.toInt = (D : Int) → 0 ≤ v2.toInt → v2.toInt ≤ 6 → kp (F_X11_keepPath_7 a1 n s ρ v1 v2) (fun q => (∀ r, r ≠ 36 → q r = s r) ∧ ∀ k : Nat, k < D → (v2.toInt ≤ (k : Int) ∨ s 36 k = s 35 k) → q 36 k = s 35 k) := by
  have e6 : (6 : Int32).toInt = 6 := rfl
  intro n
  induction n with
  | zero => intro s v1 v2 _ _ _; exact kp_none
  | succ n ih =>
    intro s v1 v2 h1 h0 h6
    unfold F_X11_keepPath_7
    refine kp_ih (fun c => kp_some ⟨fun _ _ => rfl, fun k hk q => ?_⟩) (fun c => kp_ih (fun c' => kp_some ⟨fun _ _ => rfl, fun k hk q => ?_⟩) (fun c' => kp_f c' (kp_gd (fun _ => kp_gd (fun _ => kp_nm (fun σ9 h9 => kp_nm (fun x10 h10 => ?_)))))))
    · have := le_i c
      rcases q with q | q
      · omega
      · exact q
    · have := le_i c'
      rcases q with q | q
      · omega
      · exact q
    · have := lt_i (nle c)
      have := lt_i (nle c')
      have ex : x10.toInt = v2.toInt + 1 := by rw [h10, ti_add (by rw [ti_1]; omega) (by rw [ti_1]; omega), ti_1]
      have c0 := cl0 h0
      have r9 : ∀ r, r ≠ 36 → σ9 r = s r := fun r hr => by rw [h9, s2_ne r hr]
      refine kp_mono (ih σ9 v1 x10 h1 (by omega) (by omega)) (fun q hq => ⟨fun r hr => (hq.1 r hr).trans (r9 r hr), fun k hk y => ?_⟩)
      rw [← r9 35 (by decide)]
      refine hq.2 k hk ?_
      by_cases e : k = v2.toNatClampNeg
      · refine Or.inr ?_
        rw [e, r9 35 (by decide), h9, sv]
      · rcases y with y | y
        · exact Or.inl (by omega)
        · refine Or.inr ?_
          rw [r9 35 (by decide), h9, sn (by omega)]; exact y
theorem k_path {a1 : Int32} {s : SG} {ρ : RG} {D : Nat} (hD : D ≤ 6) (h1 : a1.toInt = (D : Int)) : kp (F_X11_keepPath a1 s ρ) (fun q => (∀ r k, ¬ (r = 0 ∧ k = 8) → r ≠ 36 → q r k = s r k) ∧ q 0 8 = 1 ∧ ∀ k : Nat, k < D → q 36 k = s 35 k) := by
  unfold F_X11_keepPath
  refine kp_nm (fun σ2 h2 => kp_mono (k_path7 hD 1024 σ2 a1 0 h1 (by decide) (by decide)) (fun q hq => ⟨fun r k n n' => ?_, ?_, fun k hk => ?_⟩))
  · rw [hq.1 r n', h2, sn n]
  · rw [hq.1 0 (by decide), h2, sv]
  · rw [hq.2 k hk (Or.inl (by rw [ti_0]; omega)), h2, sn (by omega)]
theorem k_rw13 {R : Int32 → SG → RG → Option SG} {a1 : Int32} {ρ : RG} {W : Nat} (hW : W ≤ 4) : ∀ (n : Nat) (τ : SG) (v1 v2 : Int32), v1.toInt = (W : Int) → 0 ≤ v2.toInt → v2.toInt ≤ 4 → kp (F_X12_rowsFrom_B_13 R a1 n τ ρ v1 v2) (fun q => (∀ r, r ≠ 54 → r ≠ 62 → q r = τ r) ∧ (∀ x, x ≠ 28 → q 54 x = τ 54 x) ∧ q 54 28 = τ 54 28 + 1 ∧ (¬ τ 54 28 = 0 → q 62 = τ 62) ∧ (τ 54 28 = 0 → (∀ k : Nat, k < W → (v2.toInt ≤ (k : Int) ∨ τ 62 k = τ 61 k) → q 62 k = τ 61 k) ∧ ∀ k : Nat, W ≤ k → q 62 k = τ 62 k)) := by
  intro n
  induction n with
  | zero => intro τ v1 v2 _ _ _; exact kp_none
  | succ n ih =>
    intro τ v1 v2 h1 h0 h4
    have fin : ∀ P : SG → Prop, (∀ q : SG, q = s2 τ 54 28 (τ 54 28 + 1) → P q) → kp (F_X12_rowsFrom_B_43 R a1 τ ρ) P := fun P k => by
      unfold F_X12_rowsFrom_B_43
      exact kp_nm (fun x19 h19 => kp_nm (fun σ21 h21 => kp_some (k σ21 (by rw [h21, h19]))))
    unfold F_X12_rowsFrom_B_13
    refine kp_ih (fun c => fin _ (fun q e => ?_)) (fun c => kp_ih (fun z => kp_gd (fun _ => kp_gd (fun _ => kp_nm (fun σ26 h26 => kp_nm (fun x27 h27 => ?_))))) (fun z => fin _ (fun q e => ?_)))
    · have := le_i c
      refine ⟨fun r n _ => by rw [e, s2_ne r n], fun x n => by rw [e, sn (by omega)], by rw [e, sv], fun _ => by rw [e, s2_ne 62 (by decide)], fun _ => ⟨fun k hk y => ?_, fun k _ => by rw [e, sn (by omega)]⟩⟩
      rw [e, sn (by omega)]
      rcases y with y | y
      · omega
      · exact y
    · have := lt_i (nle c)
      have ex : x27.toInt = v2.toInt + 1 := by rw [h27, ti_add (by rw [ti_1]; omega) (by rw [ti_1]; omega), ti_1]
      have c0 := cl0 h0
      have r26 : ∀ r, r ≠ 62 → σ26 r = τ r := fun r hr => by rw [h26, s2_ne r hr]
      refine kp_mono (ih σ26 v1 x27 h1 (by omega) (by omega)) (fun q hq => ?_)
      obtain ⟨q1, q2, q3, q4, q5⟩ := hq
      have z26 : σ26 54 28 = 0 := by rw [r26 54 (by decide)]; exact z
      refine ⟨fun r n n' => (q1 r n n').trans (r26 r n'), fun x n => by rw [q2 x n, r26 54 (by decide)], by rw [q3, r26 54 (by decide)], fun y => absurd z y, fun _ => ⟨fun k hk y => ?_, fun k hk => ?_⟩⟩
      · rw [← r26 61 (by decide)]
        refine (q5 z26).1 k hk ?_
        by_cases e : k = v2.toNatClampNeg
        · refine Or.inr ?_
          rw [e, r26 61 (by decide), h26, sv]
        · rcases y with y | y
          · exact Or.inl (by omega)
          · refine Or.inr ?_
            rw [r26 61 (by decide), h26, sn (by omega)]; exact y
      · rw [(q5 z26).2 k hk, h26, sn (by omega)]
    · refine ⟨fun r n _ => by rw [e, s2_ne r n], fun x n => by rw [e, sn (by omega)], by rw [e, sv], fun _ => by rw [e, s2_ne 62 (by decide)], fun y => absurd y z⟩
theorem rows_R {N : Nat} {K len : Nat → Nat} {σ : SG} {ρ : RG} (b : BS N K len σ ρ) {W : Nat} (hW : (σ 1 10).toInt = (W : Int)) (hW4 : W ≤ 4) : ∀ (f d : Nat) (a1 : Int32) (s : SG), a1.toInt = (d : Int) → d ≤ W → KD σ s → kp (F_X11_weekRows_R N K len f a1 s ρ) (fun q => KD σ q.2 ∧ (∀ r k, 40 ≤ r → r ≤ 41 + 2 * d → q.2 r k = s r k) ∧ (∀ k, k < d → q.2 35 k = s 35 k) ∧ (0 ≤ q.1.toInt ∧ q.1.toInt ≤ ((6 ^ (W - d) : Nat) : Int)) ∧ ∀ (e : Nat) (τ : SG) (ρ' : RG), e ≤ 50 → RWD W d σ s τ → 0 ≤ (τ 54 28).toInt → (τ 54 28).toInt + ((6 ^ (W - d) : Nat) : Int) ≤ 10000 → kp (F_X12_rowsFrom_R e a1 τ ρ') (fun q' => RWD W d σ q.2 q' ∧ q' 54 28 = τ 54 28 + q.1 ∧ RK d τ q')) := by
  have t11 : σ 1 1 = σ 55 11 := b.2.1.1.1
  have t13 : σ 1 10 = σ 55 13 := b.2.1.1.2.1
  obtain ⟨c0, c6⟩ := b.2.2.2.2
  intro f
  induction f with
  | zero => intro d a1 s _ _ _; exact kp_none
  | succ f ihf =>
    intro d a1 s ha hdW hd
    have w10 : ∀ s : SG, KD σ s → s 1 10 = σ 1 10 := fun s h => kd_lo h (by decide) (by decide)
    have w1 : ∀ s : SG, KD σ s → s 1 1 = σ 1 1 := fun s h => kd_lo h (by decide) (by decide)
    show kp (F_X11_weekRows_B N K len (F_X11_weekRows_R N K len f) a1 s ρ) _
    unfold F_X11_weekRows_B
    rw [w10 s hd]
    -- what the reference does at this depth
    have refB : ∀ (e : Nat) (τ : SG) (ρ' : RG) (P : SG → Prop), ET 0 σ τ → (∀ e', e' ≤ e → (d = W → kp (F_X12_rowsFrom_B_13 (F_X12_rowsFrom_R e') a1 1024 τ ρ' a1 0) P) ∧ (¬ d = W → kp (bn (F_X12_stands a1 τ ρ') fun σ2 => F_X12_rowsFrom_B_61 (F_X12_rowsFrom_R e') a1 1024 σ2 ρ' a1 0) P)) → kp (F_X12_rowsFrom_R e a1 τ ρ') P := fun e τ ρ' P et k => by
      cases e with
      | zero => exact kp_none
      | succ e =>
        show kp (F_X12_rowsFrom_B (F_X12_rowsFrom_R e) a1 τ ρ') P
        unfold F_X12_rowsFrom_B
        rw [et.1 13 (by decide), ← t13]
        refine kp_ih (fun z => (k e (by omega)).1 ?_) (fun z => (k e (by omega)).2 (fun y => z (ieq ?_)))
        · have := congrArg Int32.toInt z
          omega
        · omega
    refine kp_ih (fun z => ?_) (fun z => ?_)
    rotate_left
    · -- a row is full
      have zi := le_i (nlt z)
      have edW : d = W := by omega
      have p0 : 6 ^ (W - d) = 1 := by rw [edW, Nat.sub_self]
      have one : ∀ (s' : SG), KD σ s' → (∀ r k, ¬ (r = 0 ∧ k = 8) → r ≠ 36 → s' r k = s r k) → ((s 0 8 = 0 ∧ s' 0 8 = 1 ∧ ∀ k, k < W → s' 36 k = s 35 k) ∨ (¬ s 0 8 = 0 ∧ s' 0 8 = s 0 8 ∧ ∀ k, s' 36 k = s 36 k)) → (KD σ s' ∧ (∀ r k, 40 ≤ r → r ≤ 41 + 2 * d → s' r k = s r k) ∧ (∀ k, k < d → s' 35 k = s 35 k) ∧ (0 ≤ (1 : Int32).toInt ∧ (1 : Int32).toInt ≤ ((6 ^ (W - d) : Nat) : Int)) ∧ ∀ (e : Nat) (τ : SG) (ρ' : RG), e ≤ 50 → RWD W d σ s τ → 0 ≤ (τ 54 28).toInt → (τ 54 28).toInt + ((6 ^ (W - d) : Nat) : Int) ≤ 10000 → kp (F_X12_rowsFrom_R e a1 τ ρ') (fun q' => RWD W d σ s' q' ∧ q' 54 28 = τ 54 28 + 1 ∧ RK d τ q')) := by
        intro s' hd' fr cs
        refine ⟨hd', fun r k h1 h2 => fr r k (by omega) (by omega), fun k hk => fr 35 k (by omega) (by decide), ⟨by decide, by rw [p0]; decide⟩, fun e τ ρ' _ rw' n0 n1 => ?_⟩
        obtain ⟨et, le, lq, pa, fo⟩ := rw'
        refine refB e τ ρ' _ et (fun e' _ => ⟨fun _ => ?_, fun n => absurd edW n⟩)
        rw [p0] at n1
        refine kp_mono (k_rw13 hW4 1024 τ a1 0 (by omega) (by decide) (by decide)) (fun q hq => ?_)
        obtain ⟨q1, q2, q3, q4, q5⟩ := hq
        obtain ⟨l1, l2, l3, l4, l5⟩ := le
        obtain ⟨f1, f2, f3⟩ := fo
        have nz : ¬ q 54 28 = 0 := fun y => by
          rw [q3] at y
          have := congrArg Int32.toInt y
          rw [ti_add (by rw [ti_1]; omega) (by rw [ti_1]; omega), ti_1, ti_0] at this
          omega
        have u : ∀ r x, r ≠ 54 → r ≠ 62 → q r x = τ r x := fun r x h1 h2 => by rw [q1 r h1 h2]
        have v : ∀ k, s' (40 + 2 * d) k = s (40 + 2 * d) k := fun k => fr (40 + 2 * d) k (by omega) (by omega)
        refine ⟨⟨⟨fun k hk => by rw [u 55 k (by decide) (by decide)]; exact et.1 k hk, by rw [q2 17 (by decide)]; exact et.2.1, by rw [q2 18 (by decide)]; exact et.2.2⟩, ⟨by rw [v, u 55 0 (by decide) (by decide)]; exact l1, by rw [v, u 55 1 (by decide) (by decide)]; exact l2, by rw [v, u 55 2 (by decide) (by decide)]; exact l3, by rw [v, u 55 3 (by decide) (by decide)]; exact l4, by rw [v, u 55 4 (by decide) (by decide)]; exact l5⟩, ⟨by rw [u 55 1 (by decide) (by decide)]; exact lq.1, by rw [u 55 2 (by decide) (by decide)]; exact lq.2.1, by rw [u 55 3 (by decide) (by decide)]; exact lq.2.2⟩, fun k hk => ?_, ?_⟩, q3, ⟨⟨fun k _ => u 55 k (by decide) (by decide), q2 17 (by decide), q2 18 (by decide)⟩, fun y _ => u 60 y (by decide) (by decide)⟩⟩
        · rw [u 61 k (by decide) (by decide), fr 35 k (by omega) (by decide)]; exact pa k hk
        rcases cs with ⟨z0, z1, z2⟩ | ⟨z0, z1, z2⟩
        · have y0 := f1.mp z0
          refine ⟨⟨fun y => absurd (z1.symm.trans y) (by decide), fun y => absurd y nz⟩, fun y => absurd (z1.symm.trans y) (by decide), fun _ => ⟨fun k hk => ?_, fun k hk hw => ?_⟩⟩
          · rw [(q5 y0).1 k hk (Or.inl (by rw [ti_0]; omega)), z2 k hk]; exact pa k (by omega)
          · rw [(q5 y0).2 k hw]; exact f2 z0 k hk
        · have y0 : ¬ τ 54 28 = 0 := fun y => z0 (f1.mpr y)
          refine ⟨⟨fun y => absurd (z1.symm.trans y) z0, fun y => absurd y nz⟩, fun y => absurd (z1.symm.trans y) z0, fun _ => ⟨fun k hk => ?_, fun k hk hw => ?_⟩⟩
          · rw [q4 y0, z2 k]; exact (f3 z0).1 k hk
          · rw [q4 y0]; exact (f3 z0).2 k hk hw
      refine kp_ih (fun y => kp_bn (k_path (D := W) (by omega) (by omega)) (fun σ34 h34 => kp_some ?_)) (fun y => kp_some ?_)
      · obtain ⟨g1, g2, g3⟩ := h34
        refine one σ34 (kd_trans hd (fun r k p => g1 r k (fun y => by rw [y.1, y.2] at p; cases p) (fun y => by rw [y] at p; cases p))) g1 (Or.inl ⟨y, g2, g3⟩)
      · exact one s hd (fun _ _ _ _ => rfl) (Or.inr ⟨y, rfl, fun _ => rfl⟩)
    -- a place of the row
    have zi := lt_i z
    have dW : d < W := by omega
    have nW : ¬ d = W := by omega
    have pw : 6 ^ (W - d) = 6 * 6 ^ (W - (d + 1)) := by
      have e : W - d = (W - (d + 1)) + 1 := by omega
      rw [e, Nat.pow_succ, Nat.mul_comm]
    obtain ⟨T, hT⟩ : ∃ T : Nat, T = 6 ^ (W - (d + 1)) := ⟨_, rfl⟩
    rw [← hT] at pw
    have d6 : d < 6 := by omega
    obtain ⟨C, hC⟩ : ∃ C : Nat, (σ 1 1).toInt = (C : Int) := ⟨(σ 1 1).toInt.toNat, by omega⟩
    have C6 : C ≤ 6 := by omega
    rw [pw]
    have loop : ∀ (n : Nat) (s1 : SG) (v2 v3 : Int32) (j : Nat), v3.toInt = (j : Int) → j ≤ C → KD σ s1 → (∀ r k, 40 ≤ r → r ≤ 41 + 2 * d → s1 r k = s r k) → (∀ k, k < d → s1 35 k = s 35 k) → 0 ≤ v2.toInt → v2.toInt ≤ ((j * T : Nat) : Int) → kp (F_X11_weekRows_B_29 N K len (F_X11_weekRows_R N K len f) a1 n s1 ρ a1 v2 v3) (fun q => KD σ q.2 ∧ (∀ r k, 40 ≤ r → r ≤ 41 + 2 * d → q.2 r k = s r k) ∧ (∀ k, k < d → q.2 35 k = s 35 k) ∧ (0 ≤ q.1.toInt ∧ q.1.toInt ≤ ((6 * T : Nat) : Int)) ∧ ∀ (e m : Nat) (τ0 τ : SG) (ρ' : RG), e ≤ 50 → RWD W d σ s τ0 → HK d τ0 τ → ET 0 σ τ → (∀ k, k < d → τ 61 k = s 35 k) → FO W s1 τ → 0 ≤ (τ0 54 28).toInt → (τ0 54 28).toInt + ((6 * T : Nat) : Int) ≤ 10000 → τ 54 28 = τ0 54 28 + v2 → kp (F_X12_rowsFrom_B_61 (F_X12_rowsFrom_R e) a1 m τ ρ' a1 v3) (fun q' => RWD W d σ q.2 q' ∧ q' 54 28 = τ0 54 28 + q.1 ∧ RK d τ0 q')) := by
      intro n
      induction n with
      | zero => intro s1 v2 v3 j _ _ _ _ _ _ _; exact kp_none
      | succ n ih =>
        intro s1 v2 v3 j hv3 hjC hd1 l40 p35 n0 n1
        obtain ⟨p, hp⟩ : ∃ p : Nat, j * T = p := ⟨_, rfl⟩
        rw [hp] at n1
        have jT6 : p ≤ 6 * T := by rw [← hp]; exact Nat.mul_le_mul_right T (by omega)
        unfold F_X11_weekRows_B_29
        rw [w1 s1 hd1]
        refine kp_ih (fun y => kp_some ⟨hd1, l40, p35, ⟨n0, Int.le_trans n1 (Int.ofNat_le.mpr jT6)⟩, fun e m τ0 τ ρ' _ rw0 hk et pa fo _ _ cnt => ?_⟩) (fun y => kp_f (fun y' => by have := le_i y'; have e6 : (6 : Int32).toInt = 6 := rfl; omega) (kp_bn (at_bs (N := N) (len := len) b hd1) (fun o4 h4 => ?_)))
        · cases m with
          | zero => exact kp_none
          | succ m =>
            unfold F_X12_rowsFrom_B_61
            refine kp_t (by rw [et.1 11 (by decide), ← t11]; exact y) (kp_some ⟨⟨et, ?_, ?_, fun k hk' => ?_, fo⟩, cnt, hk_rk hk⟩)
            · obtain ⟨l1, l2, l3, l4, l5⟩ := rw0.2.1
              exact show LE (40 + 2 * d) s1 τ from ⟨by rw [l40 _ 1 (by omega) (by omega), hk.1 0 (by decide)]; exact l1, by rw [l40 _ 2 (by omega) (by omega), hk.1 1 (by decide)]; exact l2, by rw [l40 _ 3 (by omega) (by omega), hk.1 2 (by decide)]; exact l3, by rw [l40 _ 4 (by omega) (by omega), hk.1 3 (by decide)]; exact l4, by rw [l40 _ 5 (by omega) (by omega), hk.1 4 (by decide)]; exact l5⟩
            · obtain ⟨l1, l2, l3⟩ := rw0.2.2.1
              exact ⟨by rw [hk.1 1 (by decide)]; exact l1, by rw [hk.1 2 (by decide)]; exact l2, by rw [hk.1 3 (by decide)]; exact l3⟩
            · show τ 61 k = s1 35 k
              rw [p35 k hk']; exact pa k hk'
        have yi := lt_i (nle y)
        rcases h4 with ⟨rfl, no⟩ | ⟨c, j', rfl, v1', v2', hj, ej, hcj⟩
        · exact absurd ⟨i_le (by rw [ti_0]; omega), i_lt yi⟩ no
        have ejj : j' = j := by omega
        rw [ejj] at hj ej hcj
        have jC : j < C := by omega
        have hcc : isC N K c = true := (b.1.2.2.1 j c hj hcj).1
        have c65 := (pr_65 b.1 (Or.inl rfl) hj hcj).1
        obtain ⟨th, tr⟩ := th_bs b hj hcj (by omega)
        have tr' : rg (σ c 4) 0 100 := by rw [th]; exact ⟨by have := tr.1; omega, by have := tr.2; omega⟩
        show kp (gd (isC N K c) _) _
        refine kp_gd (fun _ => kp_bn2 (sim_step (d := d) (th := σ c 4) b d6 ha hv3 hj hcj hcc hd1 tr' (Or.inl ⟨rfl, rfl⟩)) (fun r20 σ20 h20 => ?_))
        have hd20 : KD σ σ20 := h20.1
        have l20 : ∀ r k, 40 ≤ r → r ≤ 41 + 2 * d → σ20 r k = s r k := fun r k h1 h2 => (h20.2.1 r k (by omega) (by omega)).trans (l40 r k h1 h2)
        have a20 : ∀ r k, r < 40 → σ20 r k = s1 r k := fun r k h => h20.2.1 r k (by omega) (by omega)
        -- the cut of this round on the reference's side, then its continuation
        have ref : ∀ (e m : Nat) (τ0 τ : SG) (ρ' : RG) (P : SG → Prop), e ≤ 50 → RWD W d σ s τ0 → HK d τ0 τ → ET 0 σ τ → (∀ m' (τ' : SG), (∀ (r6 : Int32) , CUT (42 + 2 * d) j (999 + (d : Int)) τ (r20, σ20) (r6, τ') → ET 0 σ τ' → AK d τ0 τ' → kp (if r6 = 0 then F_X12_rowsFrom_B_121 (F_X12_rowsFrom_R e) a1 (F_X12_rowsFrom_B_61 (F_X12_rowsFrom_R e) a1 m') τ' ρ' a1 v3 else nm ((74 : Int32) + a1) fun x10 => gd (inb x10 909) <| if (τ' 55 1) = (τ' 55 (x10).toNatClampNeg) then gd (inb a1 5) <| nm (s2 τ' 61 (a1).toNatClampNeg v3) fun σ15 => nm (a1 + (1 : Int32)) fun x16 => bn ((F_X12_rowsFrom_R e) x16 σ15 ρ') fun σ17 => F_X12_rowsFrom_B_121 (F_X12_rowsFrom_R e) a1 (F_X12_rowsFrom_B_61 (F_X12_rowsFrom_R e) a1 m') σ17 ρ' a1 v3 else F_X12_rowsFrom_B_121 (F_X12_rowsFrom_R e) a1 (F_X12_rowsFrom_B_61 (F_X12_rowsFrom_R e) a1 m') τ' ρ' a1 v3) P)) → kp (F_X12_rowsFrom_B_61 (F_X12_rowsFrom_R e) a1 m τ ρ' a1 v3) P := fun e m τ0 τ ρ' P _ rw0 hk et k => by
          cases m with
          | zero => exact kp_none
          | succ m =>
            unfold F_X12_rowsFrom_B_61
            refine kp_f (by rw [et.1 11 (by decide), ← t11]; exact y) (kp_nm (fun x4 g4 => kp_gd (fun _ => ?_)))
            rw [jn hv3 hj g4, et.1 (44 + j) (by omega), ← th]
            have le1 : LE (40 + 2 * d) s1 τ := by
              obtain ⟨l1, l2, l3, l4, l5⟩ := rw0.2.1
              exact ⟨by rw [l40 _ 1 (by omega) (by omega), hk.1 0 (by decide)]; exact l1, by rw [l40 _ 2 (by omega) (by omega), hk.1 1 (by decide)]; exact l2, by rw [l40 _ 3 (by omega) (by omega), hk.1 2 (by decide)]; exact l3, by rw [l40 _ 4 (by omega) (by omega), hk.1 3 (by decide)]; exact l4, by rw [l40 _ 5 (by omega) (by omega), hk.1 4 (by decide)]; exact l5⟩
            have lq1 : LQ (999 + (d : Int)) τ := by
              obtain ⟨l1, l2, l3⟩ := rw0.2.2.1
              exact ⟨by rw [hk.1 1 (by decide)]; exact l1, by rw [hk.1 2 (by decide)]; exact l2, by rw [hk.1 3 (by decide)]; exact l3⟩
            exact kp_bn2 (h20.2.2 τ ρ' (999 + (d : Int)) (by omega) et le1 lq1) (fun r6 τ6 g => k m τ6 r6 g.1 g.2 (ak_ft hj hk.2 g.1.1))
        -- back to the face of this depth
        have back : ∀ (e m : Nat) (τ0 τ' : SG) (ρ' : RG) (P : SG → Prop), AK d τ0 τ' → ET 0 σ τ' → (∀ (τ7 : SG) (x9 : Int32), HK d τ0 τ7 → ET 0 σ τ7 → (∀ r, r ≠ 55 → τ7 r = τ' r) → x9 = v3 + 1 → kp (F_X12_rowsFrom_B_61 (F_X12_rowsFrom_R e) a1 m τ7 ρ' a1 x9) P) → kp (F_X12_rowsFrom_B_121 (F_X12_rowsFrom_R e) a1 (F_X12_rowsFrom_B_61 (F_X12_rowsFrom_R e) a1 m) τ' ρ' a1 v3) P := fun e m τ0 τ' ρ' P ak et k => by
          unfold F_X12_rowsFrom_B_121
          refine kp_bn (kp_and (hk_back (k := d) (by omega) ha ak) (k_standsB (k := d) (by omega) ha)) (fun τ7 g7 => kp_nm (fun x9 g9 => k τ7 x9 g7.1 ⟨fun x hx => by rw [g7.2.2.1 x hx]; exact et.1 x hx, by rw [g7.2.1 54 (by decide)]; exact et.2.1, by rw [g7.2.1 54 (by decide)]; exact et.2.2⟩ g7.2.1 g9))
        -- no row here
        have skip : (r20 = 0 ∨ ¬ σ20 (42 + 2 * d) 2 = σ 55 (74 + d)) → kp (F_X11_weekRows_B_108 N K len (F_X11_weekRows_R N K len f) a1 (F_X11_weekRows_B_29 N K len (F_X11_weekRows_R N K len f) a1 n) σ20 ρ a1 v2 v3) (fun q => KD σ q.2 ∧ (∀ r k, 40 ≤ r → r ≤ 41 + 2 * d → q.2 r k = s r k) ∧ (∀ k, k < d → q.2 35 k = s 35 k) ∧ (0 ≤ q.1.toInt ∧ q.1.toInt ≤ ((6 * T : Nat) : Int)) ∧ ∀ (e m : Nat) (τ0 τ : SG) (ρ' : RG), e ≤ 50 → RWD W d σ s τ0 → HK d τ0 τ → ET 0 σ τ → (∀ k, k < d → τ 61 k = s 35 k) → FO W s1 τ → 0 ≤ (τ0 54 28).toInt → (τ0 54 28).toInt + ((6 * T : Nat) : Int) ≤ 10000 → τ 54 28 = τ0 54 28 + v2 → kp (F_X12_rowsFrom_B_61 (F_X12_rowsFrom_R e) a1 m τ ρ' a1 v3) (fun q' => RWD W d σ q.2 q' ∧ q' 54 28 = τ0 54 28 + q.1 ∧ RK d τ0 q')) := fun zz => by
          unfold F_X11_weekRows_B_108
          refine kp_nm (fun x8 h8 => ?_)
          have e8 : x8.toInt = ((j + 1 : Nat) : Int) := by rw [h8, ti_add (by rw [ti_1]; omega) (by rw [ti_1]; omega), ti_1, hv3]; omega
          have jT : p ≤ (j + 1) * T := by rw [← hp]; exact Nat.mul_le_mul_right T (by omega)
          refine kp_mono (ih σ20 v2 x8 (j + 1) e8 (by omega) hd20 l20 (fun k hk => (a20 35 k (by decide)).trans (p35 k hk)) n0 (Int.le_trans n1 (Int.ofNat_le.mpr jT))) (fun q hq => ⟨hq.1, hq.2.1, hq.2.2.1, hq.2.2.2.1, fun e m τ0 τ ρ' he rw0 hk et pa fo m0 m1 cnt => ref e m τ0 τ ρ' _ he rw0 hk et (fun m' τ' r6 cut et' ak => ?_)⟩)
          obtain ⟨ft, le', lq', g⟩ := cut
          have ft : FT j τ τ' := ft
          have le' : LE (42 + 2 * d) σ20 τ' := le'
          have f61 : ∀ k, τ' 61 k = τ 61 k := fun k => ft 61 k (by decide) (by decide) (by omega) (by omega)
          have f62 : ∀ k, τ' 62 k = τ 62 k := fun k => ft 62 k (by decide) (by decide) (by omega) (by omega)
          have f28 : τ' 54 28 = τ 54 28 := ft 54 28 (by decide) (by decide) (by omega) (by omega)
          have nope : kp (F_X12_rowsFrom_B_121 (F_X12_rowsFrom_R e) a1 (F_X12_rowsFrom_B_61 (F_X12_rowsFrom_R e) a1 m') τ' ρ' a1 v3) (fun q' => RWD W d σ q.2 q' ∧ q' 54 28 = τ0 54 28 + q.1 ∧ RK d τ0 q') := back e m' τ0 τ' ρ' _ ak et' (fun τ7 x9 hk7 et7 r7 h9 => by
            rw [h9, ← h8]
            exact hq.2.2.2.2 e m' τ0 τ7 ρ' he rw0 hk7 et7 (fun k hk' => by rw [r7 61 (by decide), f61]; exact pa k hk') (fo_eq fo (a20 0 8 (by decide)) (fun k _ => a20 36 k (by decide)) (by rw [r7 54 (by decide), f28]) (fun k _ => by rw [r7 62 (by decide), f62]) hW4) m0 m1 (by rw [r7 54 (by decide), f28]; exact cnt))
          rcases g with ⟨q1, q2, -⟩ | ⟨q1, q2, -⟩
          · have q1 : r20 = 1 := q1
            refine kp_f (by rw [show r6 = 1 from q2]; decide) (kp_nm (fun x10 g10 => kp_gd (fun _ => ?_)))
            have e74 : (74 : Int32).toInt = 74 := rfl
            have n10 : x10.toNatClampNeg = 74 + d := cn (by rw [g10, ti_add (by omega) (by omega), e74, ha]; omega)
            rw [n10, et'.1 (74 + d) (by omega), ← le'.2.1]
            refine kp_f (fun yy => ?_) nope
            rcases zz with zz | zz
            · rw [q1] at zz; exact absurd zz (by decide)
            · exact zz yy
          · exact kp_t q2 nope
        refine kp_ih (fun y0 => skip (Or.inl y0)) (fun y0 => kp_nm (fun x22 h22 => kp_gd (fun _ => ?_)))
        have n22 : x22.toNatClampNeg = d + 1 := cn (by rw [h22, ti_add (by rw [ti_1]; omega) (by rw [ti_1]; omega), ti_1, ha]; omega)
        rw [n22, ly34 b.1.1 (by omega : d + 1 < 7)]
        show kp (gd (isLb _) _) _
        have ed : 40 + 2 * (d + 1) = 42 + 2 * d := by omega
        rw [ed]
        refine kp_gd (fun _ => kp_bn (k_val (q := 11) (n := 4) (j := d) ha (by omega) (by decide)) (fun r25 h25 => ?_))
        have c11 : r25 = σ 55 (74 + d) := by rw [h25, kd_lo hd20 (r := 11) (k := d) (by decide) (by decide)]; exact b.2.2.2.1.1.2.2.2.2.2.1 d (by omega)
        rw [c11]
        refine kp_ih (fun y1 => kp_gd (fun _ => kp_nm (fun σ29 h29 => kp_nm (fun x30 h30 => ?_)))) (fun y1 => skip (Or.inr y1))
        have na : a1.toNatClampNeg = d := cn ha
        rw [na] at h29
        have e30 : x30.toInt = ((d + 1 : Nat) : Int) := by rw [h30, ti_add (by rw [ti_1]; omega) (by rw [ti_1]; omega), ti_1, ha]; omega
        have s29 : ∀ r k, ¬ (r = 35 ∧ k = d) → σ29 r k = σ20 r k := fun r k nn => by rw [h29, sn nn]
        have hd29 : KD σ σ29 := kd_trans hd20 (fun r k p => s29 r k (fun y => by rw [y.1] at p; cases p))
        refine kp_bn2 (ihf (d + 1) x30 σ29 e30 (by omega) hd29) (fun r31 σ31 h31 => kp_nm (fun x32 h32 => ?_))
        rw [← hT] at h31
        obtain ⟨g1, g2, g3, ⟨g4, g5⟩, g6⟩ := h31
        have g1 : KD σ σ31 := g1
        have g2 : ∀ r k, 40 ≤ r → r ≤ 41 + 2 * (d + 1) → σ31 r k = σ29 r k := g2
        have g3 : ∀ k, k < d + 1 → σ31 35 k = σ29 35 k := g3
        have g4 : 0 ≤ r31.toInt := g4
        have g5 : r31.toInt ≤ (T : Int) := g5
        have jT1 : (j + 1) * T = p + T := by rw [Nat.succ_mul, hp]
        have jT16 : p + T ≤ 6 * T := by rw [← jT1]; exact Nat.mul_le_mul_right T (by omega)
        have T4 : 6 * T ≤ 1296 := by
          have h : ∀ w : Fin 5, ∀ e : Fin 5, e.val < w.val → 6 * 6 ^ (w.val - (e.val + 1)) ≤ 1296 := by decide
          rw [hT]; exact h ⟨W, by omega⟩ ⟨d, by omega⟩ dW
        have x32i : x32.toInt = v2.toInt + r31.toInt := by rw [h32, ti_add (by omega) (by omega)]
        unfold F_X11_weekRows_B_108
        refine kp_nm (fun x8 h8 => ?_)
        have e8 : x8.toInt = ((j + 1 : Nat) : Int) := by rw [h8, ti_add (by rw [ti_1]; omega) (by rw [ti_1]; omega), ti_1, hv3]; omega
        have l31 : ∀ r k, 40 ≤ r → r ≤ 41 + 2 * d → σ31 r k = s r k := fun r k h1 h2 => by rw [g2 r k h1 (by omega), s29 r k (by omega)]; exact l20 r k h1 h2
        have p31 : ∀ k, k < d → σ31 35 k = s 35 k := fun k hk => by rw [g3 k (by omega), s29 35 k (by omega), a20 35 k (by decide)]; exact p35 k hk
        refine kp_mono (ih σ31 x32 x8 (j + 1) e8 (by omega) g1 l31 p31 (by omega) (by rw [jT1]; omega)) (fun q hq => ⟨hq.1, hq.2.1, hq.2.2.1, hq.2.2.2.1, fun e m τ0 τ ρ' he rw0 hk et pa fo m0 m1 cnt => ref e m τ0 τ ρ' _ he rw0 hk et (fun m' τ' r6 cut et' ak => ?_)⟩)
        obtain ⟨ft, le', lq', g⟩ := cut
        have ft : FT j τ τ' := ft
        have le' : LE (42 + 2 * d) σ20 τ' := le'
        have lq' : LQ (999 + (d : Int) + 1) τ' := lq'
        have f61 : ∀ k, τ' 61 k = τ 61 k := fun k => ft 61 k (by decide) (by decide) (by omega) (by omega)
        have f62 : ∀ k, τ' 62 k = τ 62 k := fun k => ft 62 k (by decide) (by decide) (by omega) (by omega)
        have f28 : τ' 54 28 = τ 54 28 := ft 54 28 (by decide) (by decide) (by omega) (by omega)
        rcases g with ⟨q1, q2, -⟩ | ⟨q1, q2, -⟩
        rotate_left
        · exact absurd q1 y0
        refine kp_f (by rw [show r6 = 1 from q2]; decide) (kp_nm (fun x10 g10 => kp_gd (fun _ => ?_)))
        have e74 : (74 : Int32).toInt = 74 := rfl
        have n10 : x10.toNatClampNeg = 74 + d := cn (by rw [g10, ti_add (by omega) (by omega), e74, ha]; omega)
        rw [n10, et'.1 (74 + d) (by omega), ← le'.2.1]
        refine kp_t y1 (kp_gd (fun _ => kp_nm (fun τ15 k15 => kp_nm (fun x16 k16 => ?_))))
        rw [na] at k15
        have ex : x16 = x30 := by rw [k16, h30]
        rw [ex]
        have u15 : ∀ r k, ¬ (r = 61 ∧ k = d) → τ15 r k = τ' r k := fun r k nn => by rw [k15, sn nn]
        have et15 : ET 0 σ τ15 := ⟨fun x hx => by rw [u15 55 x (by omega)]; exact et'.1 x hx, by rw [u15 54 17 (by omega)]; exact et'.2.1, by rw [u15 54 18 (by omega)]; exact et'.2.2⟩
        have ak15 : AK d τ0 τ15 := ak_s2 ak k15 (by decide) (by omega)
        obtain ⟨m1', m2', m3', m4', m5'⟩ := le'
        have cnt15 : τ15 54 28 = τ0 54 28 + v2 := by rw [u15 54 28 (by omega), f28]; exact cnt
        have c15i : (τ15 54 28).toInt = (τ0 54 28).toInt + v2.toInt := by rw [cnt15, ti_add (by omega) (by omega)]
        have fo20 : FO W σ29 τ15 := fo_eq fo (by rw [s29 0 8 (by omega)]; exact a20 0 8 (by decide)) (fun k _ => by rw [s29 36 k (by omega)]; exact a20 36 k (by decide)) (by rw [u15 54 28 (by omega), f28]) (fun k _ => by rw [u15 62 k (by omega), f62]) hW4
        have RWn : RWD W (d + 1) σ σ29 τ15 := by
          refine ⟨et15, ?_, ⟨by rw [u15 55 1 (by omega)]; exact lq'.1, by rw [u15 55 2 (by omega)]; exact lq'.2.1, by rw [u15 55 3 (by omega)]; exact ⟨lq'.2.2.1, by have := lq'.2.2.2; omega⟩⟩, fun k hk' => ?_, fo20⟩
          · rw [ed]
            exact ⟨by rw [s29 _ 1 (by omega), u15 55 0 (by omega)]; exact m1', by rw [s29 _ 2 (by omega), u15 55 1 (by omega)]; exact m2', by rw [s29 _ 3 (by omega), u15 55 2 (by omega)]; exact m3', by rw [s29 _ 4 (by omega), u15 55 3 (by omega)]; exact m4', by rw [s29 _ 5 (by omega), u15 55 4 (by omega)]; exact m5'⟩
          · by_cases w : k = d
            · rw [w, k15, sv, h29, sv]
            · rw [u15 61 k (by omega), f61, s29 35 k (by omega), a20 35 k (by decide), p35 k (by omega)]; exact pa k (by omega)
        refine kp_bn (g6 e τ15 ρ' he RWn (by omega) (by omega)) (fun τ17 k17 => ?_)
        obtain ⟨⟨et17, -, -, pa17, fo17⟩, cnt17, rk17⟩ := k17
        refine back e m' τ0 τ17 ρ' _ (ak_rk ak15 rk17) et17 (fun τ7 x9 hk7 et7 r7 h9 => ?_)
        rw [h9, ← h8]
        refine hq.2.2.2.2 e m' τ0 τ7 ρ' he rw0 hk7 et7 (fun k hk' => ?_) (fo_eq fo17 rfl (fun _ _ => rfl) (by rw [r7 54 (by decide)]) (fun k _ => by rw [r7 62 (by decide)]) hW4) m0 m1 ?_
        · rw [r7 61 (by decide), pa17 k (by omega)]; exact p31 k hk'
        · rw [r7 54 (by decide), cnt17, cnt15, h32]; grind
    refine kp_mono (loop 1024 s 0 0 0 rfl (by omega) hd (fun _ _ _ _ => rfl) (fun _ _ => rfl) (by decide) (by rw [Nat.zero_mul]; decide)) (fun q hq => ⟨hq.1, hq.2.1, hq.2.2.1, hq.2.2.2.1, fun e τ ρ' he rw' n0 n1 => ?_⟩)
    refine refB e τ ρ' _ rw'.1 (fun e' he' => ⟨fun y => absurd y nW, fun _ => kp_bn (kp_and (hk_stands (k := d) (by omega) ha) (k_stands (k := d) (by omega) ha)) (fun τ2 g2 => ?_)⟩)
    refine hq.2.2.2.2 e' 1024 τ τ2 ρ' (by omega) rw' g2.1 ⟨fun x hx => by rw [g2.2.1 55 (by decide)]; exact rw'.1.1 x hx, by rw [g2.2.1 54 (by decide)]; exact rw'.1.2.1, by rw [g2.2.1 54 (by decide)]; exact rw'.1.2.2⟩ (fun k hk => by rw [g2.2.1 61 (by decide)]; exact rw'.2.2.2.1 k hk) (fo_eq rw'.2.2.2.2 rfl (fun _ _ => rfl) (by rw [g2.2.1 54 (by decide)]) (fun k _ => by rw [g2.2.1 62 (by decide)]) hW4) n0 n1 ?_
    rw [g2.2.1 54 (by decide)]; grind
