/-! PART 7630.cw: by hand: tryCut and cuts side by side; a step; keeps, goesBack -/
/-- the outcome of one cut on both sides -/
def CUR (i j : Nat) (M : Int) (σ τ : SG) (q q' : Int32 × SG) : Prop := FC i σ q.2 ∧ FT j τ q'.2 ∧ LE i q.2 q'.2 ∧ ((q.1 = 1 ∧ q'.1 = 1 ∧ LQ (M + 1) q'.2 ∧ q'.2 55 3 = τ 55 3 + 1 ∧ (q.2 i 6 = q'.2 54 14 ∧ q.2 i 7 = q'.2 54 15 ∧ q.2 i 8 = q'.2 54 16) ∧ q'.2 55 (5 + j) = τ 55 (5 + j) + q'.2 54 14) ∨ (q.1 = 0 ∧ q'.1 = 0 ∧ (∀ k, k ≤ 4 → q'.2 55 k = τ 55 k) ∧ q'.2 55 (5 + j) = τ 55 (5 + j)))
theorem ti_10 : (10 : Int32).toInt = 10 := rfl
theorem sim_cut {N : Nat} {K len : Nat → Nat} {i j c : Nat} {th a5 J : Int32} {σ τ : SG} {ρ ρ' : RG} {M : Int} (hM : M ≤ 100000) (hL : Lay N K len ρ) (hi : isLb i = true) (hJ : J.toInt = (j : Int)) (hj : j < 6) (hX : CX N K j c σ ρ τ) (hH : HB 5 55 σ τ) (hE : LE i σ τ) (hq : LQ M τ) (ht : rg th 0 100) (h17 : τ 54 17 = 0) (h18 : τ 54 18 = 0 ↔ a5 = 0) : kp (F_X3_tryCut N K len i c th 0 a5 σ ρ) (fun q => kp (F_X12_cuts J th τ ρ') (fun q' => CUR i j M σ τ q q')) := by
  obtain ⟨hc, c0, ck, cu, cs, ct, cd⟩ := id hX
  obtain ⟨l1, l2, l3, l4, l5⟩ := id hE
  obtain ⟨q1, q2, q3⟩ := id hq
  obtain ⟨i54, i3⟩ := lb_54 hi
  have c65 := ck_65 hL hc
  have kk := isC_7 hc
  have e20 : (20 : Int32).toInt = 20 := rfl
  obtain ⟨ca, ca10, e52, W⟩ := hb_ca hH
  have s0 : 0 ≤ (σ i 4).toInt := by rw [l4]; exact q3.1
  unfold F_X3_tryCut
  refine kp_bn (k_note hc (by omega)) (fun σ1 h1 => ?_)
  obtain ⟨f1, g0, g1, g2, g3, g4, g5⟩ := h1
  have r5 : ∀ k, σ1 5 k = σ 5 k := fun k => f1 5 k (by omega)
  have r6 : σ1 6 = σ 6 := funext (fun k => f1 6 k (by omega))
  have r7 : σ1 7 = σ 7 := funext (fun k => f1 7 k (by omega))
  have r8 : σ1 8 = σ 8 := funext (fun k => f1 8 k (by omega))
  have r9 : σ1 9 = σ 9 := funext (fun k => f1 9 k (by omega))
  have add : ∀ p : Int32, kp (F_X0_added p (i + 1) 6 0 σ1 ρ) (fun q => q = asum (σ1 (i + 1)) (σ 9) (σ 6) (σ 7) (σ 8) p ca) := fun p => by
    have := k_added (p := p) (qa := i + 1) (σ := σ1) (ρ := ρ) (ca := ca) (by rw [r5]; exact e52) ca10 (by rw [r9, r8]; exact W)
    rw [r9, r6, r7, r8] at this
    exact this
  refine kp_bn (add 0) (fun r2 h2 => kp_bn (add 1) (fun r3 h3 => ?_))
  -- what the cutter prepares
  have prep : kp (F_v_prepare N K len c i σ1 ρ) (fun q => FC i σ q ∧ q i 4 = σ i 4 ∧ ((K c = 5 ∧ q i 1 = σ i 1 - (babs (σ i 2) + babs (σ i 3)) ∧ q i 2 = 0 ∧ q i 3 = 0 ∧ q i 5 = σ i 5 + 4 * (babs (σ i 2) + babs (σ i 3))) ∨ (K c = 4 ∧ q i 1 = σ i 1 ∧ q i 2 = -(σ i 2) ∧ q i 3 = σ i 3 ∧ q i 5 = σ i 5) ∨ (¬ K c = 5 ∧ ¬ K c = 4 ∧ ∀ k, q i k = σ i k))) := by
    have same : ¬ K c = 5 → ¬ K c = 4 → FC i σ σ1 ∧ σ1 i 4 = σ i 4 ∧ ((K c = 5 ∧ σ1 i 1 = σ i 1 - (babs (σ i 2) + babs (σ i 3)) ∧ σ1 i 2 = 0 ∧ σ1 i 3 = 0 ∧ σ1 i 5 = σ i 5 + 4 * (babs (σ i 2) + babs (σ i 3))) ∨ (K c = 4 ∧ σ1 i 1 = σ i 1 ∧ σ1 i 2 = -(σ i 2) ∧ σ1 i 3 = σ i 3 ∧ σ1 i 5 = σ i 5) ∨ (¬ K c = 5 ∧ ¬ K c = 4 ∧ ∀ k, σ1 i k = σ i k)) := fun n5 n4 => ⟨fun r k _ n => f1 r k n, f1 i 4 (by omega), Or.inr (Or.inr ⟨n5, n4, fun k => f1 i k (by omega)⟩)⟩
    unfold F_v_prepare
    rcases kk with e | e | e | e | e | e | e
    · rw [if_pos e]; exact kp_bx (fun _ => kp_some (same (by omega) (by omega)))
    · rw [if_neg (by omega), if_pos e]; exact kp_bx (fun _ => kp_some (same (by omega) (by omega)))
    · rw [if_neg (by omega), if_neg (by omega), if_pos e]
      unfold F_X4_prepare
      refine kp_nm (fun x1 y1 => kp_nm (fun σ3 y3 => kp_some ⟨fun r k n n' => ?_, ?_, Or.inr (Or.inl ⟨e, ?_, ?_, ?_, ?_⟩)⟩))
      · rw [y3, sn (by omega), f1 r k n']
      · rw [y3, sn (by omega), f1 i 4 (by omega)]
      · rw [y3, sn (by omega), f1 i 1 (by omega)]
      · rw [y3, sv, y1, f1 i 2 (by omega)]
      · rw [y3, sn (by omega), f1 i 3 (by omega)]
      · rw [y3, sn (by omega), f1 i 5 (by omega)]
    · rw [if_neg (by omega), if_neg (by omega), if_neg (by omega), if_pos e]
      unfold F_X5_prepare
      refine kp_bn2 k_straight (fun r1 σ3 y => kp_some ?_)
      obtain ⟨-, y1, y2, y3, y4, y5⟩ := y
      have y1 : ∀ r k, ¬ (r = i ∧ (k = 1 ∨ k = 2 ∨ k = 3 ∨ k = 5)) → σ3 r k = σ1 r k := y1
      have z1 := f1 i 1 (by omega)
      have z2 := f1 i 2 (by omega)
      have z3 := f1 i 3 (by omega)
      have z5 := f1 i 5 (by omega)
      refine ⟨fun r k n n' => by rw [y1 r k (by omega), f1 r k n'], by rw [y1 i 4 (by omega), f1 i 4 (by omega)], Or.inl ⟨e, ?_, y3, y4, ?_⟩⟩
      · show σ3 i 1 = _
        exact (show σ3 i 1 = _ from y2).trans (by rw [z1, z2, z3])
      · show σ3 i 5 = _
        exact (show σ3 i 5 = _ from y5).trans (by rw [z5, z2, z3])
    · rw [if_neg (by omega), if_neg (by omega), if_neg (by omega), if_neg (by omega), if_pos e]; exact kp_bx (fun _ => kp_some (same (by omega) (by omega)))
    · rw [if_neg (by omega), if_neg (by omega), if_neg (by omega), if_neg (by omega), if_neg (by omega), if_pos e]; exact kp_bx (fun _ => kp_some (same (by omega) (by omega)))
    · rw [if_neg (by omega), if_neg (by omega), if_neg (by omega), if_neg (by omega), if_neg (by omega), if_neg (by omega), if_pos e]; exact kp_bx (fun _ => kp_some (same (by omega) (by omega)))
  refine kp_bn prep (fun σ4 h4 => kp_t rfl ?_)
  obtain ⟨f4, s4, cases4⟩ := h4
  have cN : ∀ k, σ4 c k = σ c k := fun k => f4 c k (by omega) (by omega)
  rw [l1, l2, l3, l5]
  intro q hq
  -- the reference
  unfold F_X12_cuts
  refine kp_bn (k_looks hH hJ hj) (fun τ1 k1 => ?_)
  obtain ⟨lf, ⟨b0, b1, b2, b3, b4, b5⟩, a12, a13⟩ := k1
  have u55 : ∀ k, τ1 55 k = τ 55 k := fun k => lf 55 k (by decide) (by decide) (by omega)
  have nca : (σ 5 2).toNatClampNeg = ca := cn e52
  have gm : ∀ m, m < 6 → τ1 58 m = σ1 (i + 1) m := by
    intro m hm
    rcases (show m = 0 ∨ m = 1 ∨ m = 2 ∨ m = 3 ∨ m = 4 ∨ m = 5 by omega) with rfl | rfl | rfl | rfl | rfl | rfl
    · rw [b0, g0]; exact ieq (by rw [hJ, c0])
    · rw [b1, g1, ck]
    · rw [b2, g2]
    · rw [b3, g3, l2]
    · rw [b4, g4, l1]
    · rw [b5, g5, l4]
  have slip : r2 = τ1 54 12 := by rw [h2, a12, nca, asum_congr gm W ca (Nat.le_refl _)]
  have pull : r3 = τ1 54 13 := by rw [h3, a13, nca, asum_congr gm W ca (Nat.le_refl _)]
  -- on with the face as it is prepared
  have on : ∀ τ2 : SG, (∀ r k, ¬ (r = 55 ∧ k ≤ 4) → τ2 r k = τ1 r k) → τ2 55 3 = τ 55 3 → LE i σ4 τ2 → rg (τ2 55 1) (-99) 99 → rg (τ2 55 2) (-99) 99 → kp (F_X12_cuts_83 J th τ2 ρ' J th (τ 55 0) (τ 55 1) (τ 55 2) (τ 55 4)) (fun q' => CUR i j M σ τ q q') := by
    intro τ2 n2 t3 le2 ru rs
    have w55 : ∀ k, ¬ k ≤ 4 → τ2 55 k = τ 55 k := fun k hk => by rw [n2 55 k (by omega), u55]
    have X2 : CX N K j c σ4 ρ τ2 := ⟨hc, by rw [cN]; exact c0, by rw [w55 _ (by omega)]; exact ck, by rw [cN, w55 _ (by omega)]; exact cu, by rw [cN, w55 _ (by omega)]; exact cs, by rw [cN, w55 _ (by omega)]; exact ct, fun k9 d hd => ⟨(cd k9 d hd).1, fun k hk => by rw [f4 d k (by have := (cd k9 d hd).1.2; omega) (by have := (cd k9 d hd).1.2; omega), w55 _ (by omega)]; exact (cd k9 d hd).2 k hk⟩⟩
    have H2 : HB 5 55 σ4 τ2 := hb_congr hH (fun k _ => f4 5 k (by omega) (by omega)) (fun k _ => f4 6 k (by omega) (by omega)) (fun k _ => f4 7 k (by omega) (by omega)) (fun k _ => f4 8 k (by omega) (by omega)) (fun k _ => f4 9 k (by omega) (by omega)) (fun k _ hk => w55 k (by omega))
    have S := sim_new (ρ' := ρ') (a2 := th) (a4 := 0) (a5 := a5) (slip := r2) (pull := r3) (w1 := τ 55 0) (w2 := τ 55 1) (w3 := τ 55 2) (w5 := τ 55 4) (J := J) (x2' := 0) (M := M) hM hL hi hJ hj X2 H2 le2 ⟨ru, rs, by rw [t3]; exact q3⟩ ht (by rw [slip, n2 54 12 (by omega)]) (by rw [pull, n2 54 13 (by omega)]) (by rw [n2 54 17 (by omega), lf 54 17 (by decide) (by decide) (by omega)]; exact h17) (by rw [n2 54 18 (by omega), lf 54 18 (by decide) (by decide) (by omega)]; exact h18) q hq
    refine kp_mono S (fun q' hq' => ?_)
    obtain ⟨y1, y2, y3⟩ := hq'
    have ft : FT j τ q'.2 := fun r k a1 a2 a3 a4 => by
      rw [y2 r k a1 a2 a3 a4, n2 r k (by omega), lf r k a1 a2 (by omega)]
    refine ⟨fc_trans f4 y1, ft, ?_, ?_⟩
    · rcases y3 with ⟨-, -, ⟨y, -, -⟩, -, -⟩ | ⟨-, -, ⟨z1, z2, z3, z4, z5⟩, ⟨v1, v2, v3, v4, v5⟩, -⟩
      · exact y
      · exact ⟨z1.trans v1.symm, z2.trans v2.symm, z3.trans v3.symm, by rw [z4, v4, s4, t3]; exact l4, z5.trans v5.symm⟩
    · rcases y3 with ⟨x1, x2, ⟨_, x3, x4⟩, x5, x6⟩ | ⟨x1, x2, _, ⟨v1, v2, v3, v4, v5⟩, x6⟩
      · exact Or.inl ⟨x1, x2, x3, by rw [x4, t3], x5, by rw [x6, w55 _ (by omega)]⟩
      · refine Or.inr ⟨x1, x2, fun k hk => ?_, by rw [x6, w55 _ (by omega)]⟩
        rcases (show k = 0 ∨ k = 1 ∨ k = 2 ∨ k = 3 ∨ k = 4 by omega) with rfl | rfl | rfl | rfl | rfl
        · exact v1
        · exact v2
        · exact v3
        · rw [v4, t3]
        · exact v5
  refine kp_nm (fun x2 y2 => kp_gd (fun _ => ?_))
  have n20 : ∀ x : Int32, x = 20 + J → x.toNatClampNeg = 20 + j := fun x hx => cn (by rw [hx, ti_add (by omega) (by omega), e20, hJ]; omega)
  rw [n20 x2 y2, u55, ← ck]
  refine kp_ih (fun d => kp_bn k_rights (fun τ86 g86 => ?_)) (fun d => kp_nm (fun x5 y5 => kp_gd (fun _ => ?_)))
  · have k5 : K c = 5 := (kno_at kk).2.1.mp d
    rcases cases4 with ⟨_, v1, v2, v3, v5⟩ | ⟨e, _⟩ | ⟨e, _⟩
    rotate_left
    · omega
    · exact absurd k5 e
    obtain ⟨p1, p2, p3, p4, p5⟩ := g86
    refine on τ86 (fun r k n => p1 r k (by omega)) (by rw [p1 55 3 (by omega), u55]) ⟨?_, ?_, ?_, ?_, ?_⟩ (by rw [p3]; exact ⟨by decide, by decide⟩) (by rw [p4]; exact ⟨by decide, by decide⟩)
    · rw [v1, p2, u55, u55, u55, l1, l2, l3]
    · rw [v2, p3]
    · rw [v3, p4]
    · rw [s4, p1 55 3 (by omega), u55, l4]
    · rw [v5, p5, u55, u55, u55, l5, l2, l3]
  · rw [n20 x5 y5, u55, ← ck]
    have n5 : ¬ K c = 5 := fun z => d ((kno_at kk).2.1.mpr z)
    refine kp_ih (fun d' => kp_nm (fun x83 y83 => kp_nm (fun τ85 g85 => ?_))) (fun d' => ?_)
    · have k4 : K c = 4 := (kno_at kk).2.2.mp d'
      rcases cases4 with ⟨e, _⟩ | ⟨_, v1, v2, v3, v5⟩ | ⟨_, e, _⟩
      · exact absurd e n5
      rotate_left
      · exact absurd k4 e
      refine on τ85 (fun r k n => by rw [g85, sn (by omega)]) (by rw [g85, sn (by omega), u55]) ⟨?_, ?_, ?_, ?_, ?_⟩ ?_ ?_
      · rw [v1, g85, sn (by omega), u55, l1]
      · rw [v2, g85, sv, y83, u55, l2]
      · rw [v3, g85, sn (by omega), u55, l3]
      · rw [s4, g85, sn (by omega), u55, l4]
      · rw [v5, g85, sn (by omega), u55, l5]
      · rw [g85, sv, y83, u55]; exact rg_neg q1 (by decide) (by decide) (by decide) (by decide)
      · rw [g85, sn (by omega), u55]; exact q2
    · have n4 : ¬ K c = 4 := fun z => d' ((kno_at kk).2.2.mpr z)
      rcases cases4 with ⟨e, _⟩ | ⟨e, _⟩ | ⟨_, _, v⟩
      · exact absurd e n5
      · exact absurd e n4
      exact on τ1 (fun _ _ _ => rfl) (u55 3) ⟨by rw [v, u55]; exact l1, by rw [v, u55]; exact l2, by rw [v, u55]; exact l3, by rw [v, u55]; exact l4, by rw [v, u55]; exact l5⟩ (by rw [u55]; exact q1) (by rw [u55]; exact q2)
/-! the face kept, and back -/
theorem k_keeps2 {ρ : RG} : ∀ (n : Nat) (τ : SG) (v1 : Int32), 0 ≤ v1.toInt → v1.toInt ≤ 11 → kp (F_X12_keeps_2 n τ ρ v1) (fun q => (∀ r, r ≠ 57 → q r = τ r) ∧ ∀ k : Nat, k < 11 → (v1.toInt ≤ (k : Int) ∨ τ 57 k = τ 55 k) → q 57 k = τ 55 k) := by
  have e11 : (11 : Int32).toInt = 11 := rfl
  intro n
  induction n with
  | zero => intro τ v1 _ _; exact kp_none
  | succ n ih =>
    intro τ v1 h0 h1
    unfold F_X12_keeps_2
    refine kp_ih (fun c => kp_some ⟨fun _ _ => rfl, fun k hk q => ?_⟩) (fun c => kp_gd (fun _ => kp_gd (fun _ => kp_nm (fun σ5 h5 => kp_nm (fun x6 h6 => ?_)))))
    · have := le_i c
      rcases q with q | q
      · omega
      · exact q
    · have lt := lt_i (nle c)
      have ex : x6.toInt = v1.toInt + 1 := by rw [h6, ti_add (by rw [ti_1]; omega) (by rw [ti_1]; omega), ti_1]
      have c0 := cl0 h0
      have r5 : ∀ r, r ≠ 57 → σ5 r = τ r := fun r hr => by rw [h5, s2_ne r hr]
      refine kp_mono (ih σ5 x6 (by omega) (by omega)) (fun q hq => ⟨fun r hr => (hq.1 r hr).trans (r5 r hr), fun k hk y => ?_⟩)
      rw [← r5 55 (by decide)]
      refine hq.2 k hk ?_
      by_cases e : k = v1.toNatClampNeg
      · refine Or.inr ?_
        rw [e, r5 55 (by decide), h5, sv]
      · rcases y with y | y
        · exact Or.inl (by omega)
        · refine Or.inr ?_
          rw [r5 55 (by decide), h5, sn (by omega)]; exact y
theorem k_keeps {τ : SG} {ρ : RG} : kp (F_X12_keeps τ ρ) (fun q => (∀ r, r ≠ 57 → q r = τ r) ∧ ∀ k : Nat, k < 11 → q 57 k = τ 55 k) := by
  unfold F_X12_keeps
  exact kp_mono (k_keeps2 1024 τ 0 (by decide) (by decide)) (fun q h => ⟨h.1, fun k hk => h.2 k hk (Or.inl (by rw [ti_0]; omega))⟩)
theorem k_back2 {ρ : RG} : ∀ (n : Nat) (τ : SG) (v1 : Int32), 0 ≤ v1.toInt → v1.toInt ≤ 11 → kp (F_X12_goesBack_2 n τ ρ v1) (fun q => (∀ r, r ≠ 55 → q r = τ r) ∧ (∀ k : Nat, 11 ≤ k → q 55 k = τ 55 k) ∧ ∀ k : Nat, k < 11 → (v1.toInt ≤ (k : Int) ∨ τ 55 k = τ 57 k) → q 55 k = τ 57 k) := by
  have e11 : (11 : Int32).toInt = 11 := rfl
  intro n
  induction n with
  | zero => intro τ v1 _ _; exact kp_none
  | succ n ih =>
    intro τ v1 h0 h1
    unfold F_X12_goesBack_2
    refine kp_ih (fun c => kp_some ⟨fun _ _ => rfl, fun _ _ => rfl, fun k hk q => ?_⟩) (fun c => kp_gd (fun _ => kp_gd (fun _ => kp_nm (fun σ5 h5 => kp_nm (fun x6 h6 => ?_)))))
    · have := le_i c
      rcases q with q | q
      · omega
      · exact q
    · have lt := lt_i (nle c)
      have ex : x6.toInt = v1.toInt + 1 := by rw [h6, ti_add (by rw [ti_1]; omega) (by rw [ti_1]; omega), ti_1]
      have c0 := cl0 h0
      have r5 : ∀ r, r ≠ 55 → σ5 r = τ r := fun r hr => by rw [h5, s2_ne r hr]
      refine kp_mono (ih σ5 x6 (by omega) (by omega)) (fun q hq => ⟨fun r hr => (hq.1 r hr).trans (r5 r hr), fun k hk => by rw [hq.2.1 k hk, h5, sn (by omega)], fun k hk y => ?_⟩)
      rw [← r5 57 (by decide)]
      refine hq.2.2 k hk ?_
      by_cases e : k = v1.toNatClampNeg
      · refine Or.inr ?_
        rw [e, r5 57 (by decide), h5, sv]
      · rcases y with y | y
        · exact Or.inl (by omega)
        · refine Or.inr ?_
          rw [r5 57 (by decide), h5, sn (by omega)]; exact y
theorem k_back {τ : SG} {ρ : RG} : kp (F_X12_goesBack τ ρ) (fun q => (∀ r, r ≠ 55 → q r = τ r) ∧ (∀ k : Nat, 11 ≤ k → q 55 k = τ 55 k) ∧ ∀ k : Nat, k < 11 → q 55 k = τ 57 k) := by
  unfold F_X12_goesBack
  exact kp_mono (k_back2 1024 τ 0 (by decide) (by decide)) (fun q h => ⟨h.1, h.2.1, fun k hk => h.2.2 k hk (Or.inl (by rw [ti_0]; omega))⟩)
