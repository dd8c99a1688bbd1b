/-! PART 7641.lm: by hand: thick, row, right, turn, cut, told, of: side by side -/
theorem ic_t {a : Int32} {K : Nat → Nat} {σ τ : SG} {ρ ρ' : RG} (R : RA K σ ρ) (hB0 : rg (σ 1 1) 0 6) (t : RT σ τ) : kp (F_X12_isCutter a τ ρ') (fun q => ¬ q = 0 ↔ (0 : Int32) ≤ a ∧ a < σ 1 1) := by
  have t11 : σ 1 1 = σ 55 11 := R.1.1
  have z := t 55 11 (by decide) (by decide)
  refine kp_mono (kp_ok (ic_12 (by rw [z, ← t11]; exact hB0))) (fun q hq => ?_)
  rw [z, ← t11] at hq; exact hq
theorem lss_t {N : Nat} {K len : Nat → Nat} {σ τ : SG} {ρ : RG} (hQ : PR N K len ρ) (h : LSS σ σ ρ) (t : RT σ τ) : LSS σ τ ρ := lss_keep hQ h cl_refl (rlv_rt t)
theorem thick_l {N : Nat} {K len : Nat → Nat} {a b : Int32} {σ : SG} {ρ : RG} (hQ : PR N K len ρ) (h : LSS σ σ ρ) (R : RA K σ ρ) (hB0 : rg (σ 1 1) 0 6) : kp (F_X11_thick N K len a b σ ρ) (fun q => ∀ (τ : SG) (ρ' : RG), RT σ τ → kp (F_X12_thick a b τ ρ') (fun q' => LSS q.2 q'.2 ρ)) := by
  have t11 : σ 1 1 = σ 55 11 := R.1.1
  refine kp_mono (thick_11 hB0 R) (fun q hq τ ρ' t => ?_)
  have z : τ 55 11 = σ 1 1 := (t 55 11 (by decide) (by decide)).trans t11.symm
  have e := lss_t hQ h t
  refine kp_mono (thick_12 (by rw [z]; exact hB0)) (fun q' hq' => ?_)
  rw [z] at hq'
  rcases hq with ⟨n, y⟩ | ⟨n, n', y⟩ | ⟨c, j, n, n', hj, ej, hc, y⟩
  · rcases hq' with ⟨-, y'⟩ | ⟨m, -, -⟩ | ⟨m, -, -⟩
    · rw [y, y']; exact e
    · exact absurd m n
    · exact absurd m n
  · rcases hq' with ⟨m, -⟩ | ⟨-, -, y'⟩ | ⟨-, m, -⟩
    · exact absurd n m
    · rw [y, y']; exact e
    · exact absurd m n'
  · rcases hq' with ⟨m, -⟩ | ⟨-, m, -⟩ | ⟨-, -, y'⟩
    · exact absurd n m
    · exact absurd n' m
    · rw [y, y' j ej]
      have c65 := (pr_65 hQ (Or.inl rfl) hj hc).1
      obtain ⟨⟨x1, x2, x3, x4, x5, x6, x7⟩, f, i⟩ := e
      have g := rc_i n'
      have u : ∀ r k, ¬ (r = 55 ∧ k = 44 + j) → s2 τ 55 (44 + j) b r k = τ r k := fun r k n => sn (by omega)
      have s : ∀ r k, ¬ (r = c ∧ k = 4) → s2 σ c 4 b r k = σ r k := fun r k n => sn (by omega)
      refine ⟨⟨fun k hk => ?_, ?_, fun j' c' hj' hc' => ?_, fun j' hj' hl => ?_, ⟨?_, ?_⟩, fun k hk => ?_, fun k hk => ?_⟩, ⟨?_, ?_⟩, lss_im hQ ⟨⟨x1, x2, x3, x4, x5, x6, x7⟩, f, i⟩ (fun k _ _ => s 16 k (by omega)) (s 14 7 (by omega)) (s 14 8 (by omega)) (fun r k _ _ => s r k (by omega)) (fun c _ _ => s c 5 (by omega)) (fun k _ => u 56 k (by omega)) (u 54 4 (by omega))⟩
      · show s2 σ c 4 b 3 (1 + k) = s2 τ 55 (44 + j) b 55 k
        rw [s 3 _ (by omega), u 55 k (by omega)]; exact x1 k hk
      · show rg (s2 τ 55 (44 + j) b 55 1) _ _ ∧ rg (s2 τ 55 (44 + j) b 55 2) _ _ ∧ rg (s2 τ 55 (44 + j) b 55 3) _ _
        rw [u 55 1 (by omega), u 55 2 (by omega), u 55 3 (by omega)]; exact x2
      · show s2 σ c 4 b c' 5 = s2 τ 55 (44 + j) b 55 (5 + j')
        rw [s c' 5 (by omega), u 55 _ (by omega)]; exact x3 j' c' hj' hc'
      · change (j' : Int) < (s2 τ 55 (44 + j) b 55 11).toInt at hl
        show rg (s2 τ 55 (44 + j) b 55 (44 + j')) 1 40
        by_cases w : j' = j
        · rw [w, sv]; exact g
        · rw [u 55 11 (by omega)] at hl
          rw [u 55 (44 + j') (by omega)]; exact x4 j' hj' hl
      · show s2 σ c 4 b 1 7 = s2 τ 55 (44 + j) b 55 18
        rw [s 1 7 (by omega), u 55 _ (by omega)]; exact x5.1
      · show s2 σ c 4 b 1 8 = s2 τ 55 (44 + j) b 55 19
        rw [s 1 8 (by omega), u 55 _ (by omega)]; exact x5.2
      · show s2 σ c 4 b 11 k = s2 τ 55 (44 + j) b 55 (74 + k)
        rw [s 11 k (by omega), u 55 _ (by omega)]; exact x6 k hk
      · show s2 σ c 4 b 12 k = s2 τ 55 (44 + j) b 55 (78 + k) ∧ s2 σ c 4 b 13 k = s2 τ 55 (44 + j) b 55 (86 + k)
        rw [s 12 k (by omega), s 13 k (by omega), u 55 _ (by omega), u 55 _ (by omega)]; exact x7 k hk
      · show s2 τ 55 (44 + j) b 54 17 = 0
        rw [u 54 17 (by omega)]; exact f.1
      · show s2 τ 55 (44 + j) b 54 18 = 0
        rw [u 54 18 (by omega)]; exact f.2
theorem row_l {N : Nat} {K len : Nat → Nat} {a b d : Int32} {σ : SG} {ρ : RG} (hQ : PR N K len ρ) (h : LSS σ σ ρ) (R : RA K σ ρ) (hB0 : rg (σ 1 1) 0 6) : kp (F_X11_row N K len a b d σ ρ) (fun q => ∀ (τ : SG) (ρ' : RG), RT σ τ → kp (F_X12_row a b d τ ρ') (fun q' => LSS q.2 q'.2 ρ)) := by
  have t11 : σ 1 1 = σ 55 11 := R.1.1
  refine kp_mono (row_11 hQ hB0 R) (fun q hq τ ρ' t => ?_)
  have z : τ 55 11 = σ 1 1 := (t 55 11 (by decide) (by decide)).trans t11.symm
  have e := lss_t hQ h t
  refine kp_mono (row_12 (by rw [z]; exact hB0)) (fun q' hq' => ?_)
  rw [z] at hq'
  have hc : CL σ q.2 := by
    rcases hq with ⟨n, y⟩ | ⟨n, n', y⟩ | ⟨n, n', n'', y⟩ | ⟨c, j, n, n', n'', hj, ej, hc, y⟩
    · rw [y]; exact cl_refl
    · rw [y]; exact cl_refl
    · rw [y]; exact cl_refl
    · rcases y with ⟨-, y⟩ | ⟨k9, x, hx, y⟩
      · rw [y]; exact cl_refl
      · rw [y]
        obtain ⟨x', hx', -, x65⟩ := (hQ.2.2.1 j c hj hc).2 k9
        rw [hx] at hx'; cases hx'
        have g := rc_i n'
        have e3 : (3 : Int32).toInt = 3 := rfl
        have e0 : (0 : Int32).toInt = 0 := rfl
        have := cl0 (x := b) (by omega)
        intro r k p
        unfold CLP at p
        show s2 σ x b.toNatClampNeg d r k = σ r k
        rw [sn (by omega)]
  have hr : ∀ r k, ¬ (r = 55 ∧ 50 ≤ k ∧ k < 74) → q'.2 r k = τ r k := by
    rcases hq' with ⟨m, y⟩ | ⟨m, m', y⟩ | ⟨m, m', m'', y⟩ | ⟨m, m', m'', y⟩
    · rw [y]; exact fun _ _ _ => rfl
    · rw [y]; exact fun _ _ _ => rfl
    · rw [y]; exact fun _ _ _ => rfl
    · have g := rc_i m'
      have a0 := le_i m.1
      have a6 := lt_i m.2
      have r6 := hB0.2
      have e3 : (3 : Int32).toInt = 3 := rfl
      have e0 : (0 : Int32).toInt = 0 := rfl
      have := cl0 (x := b) (by omega)
      rcases y a.toNatClampNeg (cl0 (by omega)).symm with ⟨-, y⟩ | ⟨-, y⟩
      · rw [y]; exact fun _ _ _ => rfl
      · rw [y]
        intro r k n
        have := cl0 (x := a) (by omega)
        show s2 τ 55 (50 + 4 * a.toNatClampNeg + b.toNatClampNeg) d r k = τ r k
        rw [sn (by omega)]
  exact lss_keep hQ e hc ⟨fun k p => hr 55 k (by unfold LV at p; omega), fun k _ => hr 56 k (by omega), hr 54 4 (by omega), hr 54 17 (by omega), hr 54 18 (by omega)⟩
theorem hb_t {σ τ : SG} (B : RB σ) (t : RT σ τ) : HB 5 55 σ τ := hb_congr B.1.2.2.2 (fun _ _ => rfl) (fun _ _ => rfl) (fun _ _ => rfl) (fun _ _ => rfl) (fun _ _ => rfl) (fun k _ _ => t 55 k (by decide) (by decide))
theorem right_l {N : Nat} {K len : Nat → Nat} {σ : SG} {ρ : RG} (hQ : PR N K len ρ) (h : LSS σ σ ρ) (B : RB σ) : kp (F_X11_right σ ρ) (fun q => ∀ (τ : SG) (ρ' : RG), RT σ τ → kp (F_X12_right τ ρ') (fun q' => q.1 = q'.1 ∧ LSS q.2 q'.2 ρ)) := by
  unfold F_X11_right
  refine kp_bn k_leastC (fun r1 h1 => kp_ih (fun c => kp_bn2 k_straight (fun r3 σ3 h3 => kp_some (fun τ ρ' t => ?_))) (fun c => kp_some (fun τ ρ' t => ?_)))
  all_goals
    have e := lss_t hQ h t
    obtain ⟨⟨x1, x2, x3, x4, x5, x6, x7⟩, f, i⟩ := id e
    have l0 : σ 3 1 = τ 55 0 := x1 0 (by decide)
    have l1 : σ 3 2 = τ 55 1 := x1 1 (by decide)
    have l2 : σ 3 3 = τ 55 2 := x1 2 (by decide)
    have l3 : σ 3 4 = τ 55 3 := x1 3 (by decide)
    have l4 : σ 3 5 = τ 55 4 := x1 4 (by decide)
    unfold F_X12_right
    refine kp_bn k_leastR (fun r1' h1' => kp_bn (k_tells (hb_t B t) (Or.inr ⟨rfl, rfl, rfl⟩)) (fun r2' h2' => ?_))
    have er : r1' = r1 := by rw [h1, h1', l0, l1, l2]
    rw [er, h2']
  · refine kp_t c (kp_bn k_rights (fun τ4 g4 => kp_nm (fun x5' e5 => kp_some ?_)))
    obtain ⟨a1, a2, a3, a4, a5, a6⟩ := h3
    obtain ⟨b1, b2, b3, b4, b5⟩ := g4
    have s : ∀ r k, ¬ (r = 3 ∧ (k = 1 ∨ k = 2 ∨ k = 3 ∨ k = 5)) → σ3 r k = σ r k := a2
    refine ⟨?_, ⟨fun k hk => ?_, ⟨?_, ?_, ?_⟩, fun j c hj hc => ?_, fun j hj hl => ?_, ⟨?_, ?_⟩, fun k hk => ?_, fun k hk => ?_⟩, ⟨?_, ?_⟩, lss_im hQ e (fun k _ _ => s 16 k (by omega)) (s 14 7 (by omega)) (s 14 8 (by omega)) (fun r k _ _ => s r k (by omega)) (fun c hc _ => s c 5 (by omega)) (fun k _ => b1 56 k (by omega)) (b1 54 4 (by omega))⟩
    · show r3 = x5'
      have a1 : r3 = 4 * (babs (σ 3 2) + babs (σ 3 3)) := a1
      rw [a1, e5, b5, l1, l2]
      grind
    · show σ3 3 (1 + k) = τ4 55 k
      rcases (show k = 0 ∨ k = 1 ∨ k = 2 ∨ k = 3 ∨ k = 4 by omega) with rfl | rfl | rfl | rfl | rfl
      · exact (show σ3 3 1 = _ from a3).trans (by rw [b2, l0, l1, l2])
      · exact (show σ3 3 2 = _ from a4).trans b3.symm
      · exact (show σ3 3 3 = _ from a5).trans b4.symm
      · exact (s 3 4 (by omega)).trans (l3.trans (b1 55 3 (by omega)).symm)
      · exact (show σ3 3 5 = _ from a6).trans (by rw [b5, l4, l1, l2])
    · show rg (τ4 55 1) _ _
      rw [b3]; exact ⟨by decide, by decide⟩
    · show rg (τ4 55 2) _ _
      rw [b4]; exact ⟨by decide, by decide⟩
    · show rg (τ4 55 3) _ _
      rw [b1 55 3 (by omega)]; exact x2.2.2
    · show σ3 c 5 = τ4 55 (5 + j)
      have := (pr_65 hQ (Or.inl rfl) hj hc).1
      rw [s c 5 (by omega), b1 55 _ (by omega)]; exact x3 j c hj hc
    · change (j : Int) < (τ4 55 11).toInt at hl
      show rg (τ4 55 (44 + j)) 1 40
      rw [b1 55 11 (by omega)] at hl; rw [b1 55 _ (by omega)]; exact x4 j hj hl
    · show σ3 1 7 = τ4 55 18
      rw [s 1 7 (by omega), b1 55 _ (by omega)]; exact x5.1
    · show σ3 1 8 = τ4 55 19
      rw [s 1 8 (by omega), b1 55 _ (by omega)]; exact x5.2
    · show σ3 11 k = τ4 55 (74 + k)
      rw [s 11 k (by omega), b1 55 _ (by omega)]; exact x6 k hk
    · show σ3 12 k = τ4 55 (78 + k) ∧ σ3 13 k = τ4 55 (86 + k)
      rw [s 12 k (by omega), s 13 k (by omega), b1 55 _ (by omega), b1 55 _ (by omega)]; exact x7 k hk
    · show τ4 54 17 = 0
      rw [b1 54 17 (by omega)]; exact f.1
    · show τ4 54 18 = 0
      rw [b1 54 18 (by omega)]; exact f.2
  · exact kp_f c (kp_some ⟨rfl, e⟩)
theorem rg_ng {a : Int32} (h : rg a (-99) 99) : rg (-a) (-99) 99 := rg_neg h (by decide) (by decide) (by decide) (by decide)
theorem turn_l {N : Nat} {K len : Nat → Nat} {a : Int32} {σ : SG} {ρ : RG} (hQ : PR N K len ρ) (h : LSS σ σ ρ) : kp (F_X11_turn a σ ρ) (fun q => ∀ (τ : SG) (ρ' : RG), RT σ τ → kp (F_X12_turn a τ ρ') (fun q' => q.1 = q'.1 ∧ LSS q.2 q'.2 ρ)) := by
  have go : ∀ (w : Nat) (σ4 τ4 τ : SG), (w = 1 ∨ w = 2) → RT σ τ → σ4 = s2 σ 3 (1 + w) (-(σ 3 (1 + w))) → τ4 = s2 τ 55 w (-(τ 55 w)) → σ4 3 (1 + w) = τ4 55 w ∧ LSS σ4 τ4 ρ := by
    intro w σ4 τ4 τ hw t h4 g4
    have e := lss_t hQ h t
    obtain ⟨⟨x1, x2, x3, x4, x5, x6, x7⟩, f, i⟩ := id e
    have s : ∀ r k, ¬ (r = 3 ∧ k = 1 + w) → σ4 r k = σ r k := fun r k n => by rw [h4, sn n]
    have u : ∀ r k, ¬ (r = 55 ∧ k = w) → τ4 r k = τ r k := fun r k n => by rw [g4, sn n]
    have c0 : σ4 3 (1 + w) = τ4 55 w := by rw [h4, g4, sv, sv, x1 w (by omega)]
    refine ⟨c0, ⟨fun k hk => ?_, ⟨?_, ?_, ?_⟩, fun j c hj hc => ?_, fun j hj hl => ?_, ⟨?_, ?_⟩, fun k hk => ?_, fun k hk => ?_⟩, ⟨?_, ?_⟩, lss_im hQ e (fun k _ _ => s 16 k (by omega)) (s 14 7 (by omega)) (s 14 8 (by omega)) (fun r k _ _ => s r k (by omega)) (fun c hc _ => s c 5 (by omega)) (fun k _ => u 56 k (by omega)) (u 54 4 (by omega))⟩
    · by_cases z : k = w
      · rw [z]; exact c0
      · rw [s 3 _ (by omega), u 55 k (by omega)]; exact x1 k hk
    · by_cases z : w = 1
      · rw [g4, z, sv]; exact rg_ng x2.1
      · rw [u 55 1 (by omega)]; exact x2.1
    · by_cases z : w = 2
      · rw [g4, z, sv]; exact rg_ng x2.2.1
      · rw [u 55 2 (by omega)]; exact x2.2.1
    · rw [u 55 3 (by omega)]; exact x2.2.2
    · have := (pr_65 hQ (Or.inl rfl) hj hc).1
      rw [s c 5 (by omega), u 55 _ (by omega)]; exact x3 j c hj hc
    · rw [u 55 11 (by omega)] at hl; rw [u 55 _ (by omega)]; exact x4 j hj hl
    · rw [s 1 7 (by omega), u 55 _ (by omega)]; exact x5.1
    · rw [s 1 8 (by omega), u 55 _ (by omega)]; exact x5.2
    · rw [s 11 k (by omega), u 55 _ (by omega)]; exact x6 k hk
    · rw [s 12 k (by omega), s 13 k (by omega), u 55 _ (by omega), u 55 _ (by omega)]; exact x7 k hk
    · rw [u 54 17 (by omega)]; exact f.1
    · rw [u 54 18 (by omega)]; exact f.2
  unfold F_X11_turn
  refine kp_ih (fun c => kp_nm (fun x2 e2 => kp_nm (fun σ4 h4 => kp_some (fun τ ρ' t => ?_)))) (fun c => kp_nm (fun x5 e5 => kp_nm (fun σ7 h7 => kp_some (fun τ ρ' t => ?_))))
  · unfold F_X12_turn F_X12_turn_9
    exact kp_t c (kp_gd (fun _ => kp_nm (fun x3 e3 => kp_gd (fun _ => kp_nm (fun τ6 g6 => kp_gd (fun _ => kp_some (go 1 σ4 τ6 τ (Or.inl rfl) t (by rw [h4, e2]) (by rw [g6, e3]; rfl))))))))
  · unfold F_X12_turn F_X12_turn_9
    exact kp_f c (kp_gd (fun _ => kp_nm (fun x3 e3 => kp_gd (fun _ => kp_nm (fun τ6 g6 => kp_gd (fun _ => kp_some (go 2 σ7 τ6 τ (Or.inr rfl) t (by rw [h7, e5]) (by rw [g6, e3]; rfl))))))))
theorem cx_of {N : Nat} {K len : Nat → Nat} {j c : Nat} {σ τ : SG} {ρ : RG} (hQ : PR N K len ρ) (R : RA K σ ρ) (t : ∀ k, 20 ≤ k → k ≤ 73 → τ 55 k = σ 55 k) (hj : j < 6) (hc : ρ 2 j = some c) : CX N K j c σ ρ τ := by
  have k := hQ.2.2.1 j c hj hc
  obtain ⟨⟨a1, a2, a3, a4, a5, a6⟩, a7⟩ := (R.2.1 j hj).2 c hc
  refine ⟨k.1, a7, by rw [t _ (by omega) (by omega)]; exact a1, by rw [t _ (by omega) (by omega)]; exact a3, by rw [t _ (by omega) (by omega)]; exact a4, by rw [t _ (by omega) (by omega)]; exact a5, fun k9 d hd => ?_⟩
  obtain ⟨d', e', hd', d65⟩ := k.2 k9
  rw [hd] at e'; cases e'
  exact ⟨⟨by omega, d65⟩, fun k hk => by rw [t _ (by omega) (by omega)]; exact a6 k9 d hd k hk⟩
theorem cut_l {N : Nat} {K len : Nat → Nat} {a : Int32} {σ : SG} {ρ : RG} (hQ : PR N K len ρ) (h : LSS σ σ ρ) (R : RA K σ ρ) (B : RB σ) (hB0 : rg (σ 1 1) 0 6) : kp (F_X11_cut N K len a σ ρ) (fun q => ∀ (τ : SG) (ρ' : RG), RT σ τ → kp (F_X12_cut a τ ρ') (fun q' => q.1 = q'.1 ∧ LSS q.2 q'.2 ρ)) := by
  have e44 : (44 : Int32).toInt = 44 := rfl
  have e999 : (999 : Int32).toInt = 999 := rfl
  unfold F_X11_cut
  refine kp_bn (kp_ok (at_11 (N := N) (len := len) hB0 R)) (fun o1 h1 => ?_)
  rcases h1 with ⟨rfl, n⟩ | ⟨c, j, rfl, v1, v2, hj, ej, hcj⟩
  · refine kp_some (fun τ ρ' t => ?_)
    unfold F_X12_cut
    exact kp_bn (ic_t R hB0 t) (fun r1 g1 => kp_ih (fun _ => kp_some ⟨rfl, lss_t hQ h t⟩) (fun z => absurd (g1.mp z) n))
  show kp (gd (isC N K c) _) _
  refine kp_gd (fun hcc => ?_)
  have X0 := h.1.2.1
  have c65 := (pr_65 hQ (Or.inl rfl) hj hcj).1
  have l3 : ∀ τ : SG, RT σ τ → σ 3 4 = τ 55 3 := fun τ t => (lss_t hQ h t).1.1 3 (by decide)
  have l3' : σ 3 4 = σ 55 3 := h.1.1 3 (by decide)
  have iy : ∀ (τ : SG) (ρ' : RG), RT σ τ → ∀ {β : Type} {X Y : Option β} {P : β → Prop}, kp Y P → kp (bn (F_X12_isCutter a τ ρ') fun r2 => if r2 = 0 then X else Y) P := fun τ ρ' t _ X Y P y => kp_bn (ic_t R hB0 t) (fun r2 g2 => kp_f (g2.mpr ⟨v1, v2⟩) y)
  refine kp_ih (fun d => kp_some (fun τ ρ' t => ?_)) (fun d => ?_)
  · have l := le_i d
    rw [l3'] at l
    have u := X0.2.2.2
    have z : τ 55 3 = (999 : Int32) := by rw [t 55 3 (by decide) (by decide)]; exact ieq (by rw [e999]; omega)
    unfold F_X12_cut
    exact iy τ ρ' t (kp_t z (kp_some ⟨rfl, lss_t hQ h t⟩))
  have l := lt_i (nle d)
  rw [l3', e999] at l
  have th : σ c 4 = σ 55 (44 + j) := ((R.2.1 j hj).2 c hcj).1.2.2.2.2.1
  have a6 := lt_i v2
  rw [ej] at a6
  have ht : rg (σ c 4) 0 100 := by
    have w := h.1.2.2.2.1 j hj (by rw [← R.1.1]; exact a6)
    rw [th]; exact ⟨by have := w.1; omega, by have := w.2; omega⟩
  have t20 : ∀ τ : SG, RT σ τ → CX N K j c σ ρ τ := fun τ t => cx_of hQ R (fun k _ _ => t 55 k (by decide) (by decide)) hj hcj
  have sim : ∀ (τ : SG) (ρ' : RG), RT σ τ → kp (F_X3_tryCut N K len 3 c (σ c 4) 0 0 σ ρ) (fun q => kp (F_X12_cuts a (σ c 4) τ ρ') (fun q' => CUR 3 j 998 σ τ q q')) := fun τ ρ' t => by
    have e := lss_t hQ h t
    have x := e.1.1
    refine sim_cut (ρ' := ρ') (by omega) hQ.1 (by decide) ej hj (t20 τ t) (hb_t B t) ⟨x 0 (by decide), x 1 (by decide), x 2 (by decide), x 3 (by decide), x 4 (by decide)⟩ ⟨e.1.2.1.1, e.1.2.1.2.1, ?_⟩ ht e.2.1.1 ⟨fun _ => rfl, fun _ => e.2.1.2⟩
    rw [t 55 3 (by decide) (by decide)]
    exact ⟨X0.2.2.1, by omega⟩
  refine kp_bn2 (Q := fun q => ∀ (τ : SG) (ρ' : RG), RT σ τ → kp (F_X12_cuts a (σ c 4) τ ρ') (fun q' => CUR 3 j 998 σ τ q q')) (fun q hq τ ρ' t => sim τ ρ' t q hq) (fun r4 σ4 h4 => ?_)
  have ref : ∀ (τ : SG) (ρ' : RG) (P : Int32 × SG → Prop), RT σ τ → (∀ r6 τ6, CUR 3 j 998 σ τ (r4, σ4) (r6, τ6) → kp (if r6 = 0 then some ((-3 : Int32), τ6) else some ((τ6 54 14), τ6)) P) → kp (F_X12_cut a τ ρ') P := fun τ ρ' P t k => by
    unfold F_X12_cut
    refine iy τ ρ' t (kp_f (fun z => ?_) (kp_nm (fun x4 e4 => kp_gd (fun _ => ?_))))
    · rw [t 55 3 (by decide) (by decide)] at z; rw [z] at l; omega
    have q4 : x4.toNatClampNeg = 44 + j := cn (by rw [e4, ti_add (by omega) (by omega), e44, ej]; omega)
    rw [q4, t 55 (44 + j) (by decide) (by decide), ← th]
    exact kp_bn2 (h4 τ ρ' t) (fun r6 τ6 g => k r6 τ6 g)
  -- what the cut leaves
  have fin : ∀ (τ τ6 σ7 : SG), RT σ τ → FC 3 σ σ4 → FT j τ τ6 → LE 3 σ4 τ6 → LQ 999 τ6 → (∀ r k, ¬ (r = c ∧ k = 5) → σ7 r k = σ4 r k) → σ7 c 5 = τ6 55 (5 + j) → LSS σ7 τ6 ρ := by
    intro τ τ6 σ7 t fc ft le lq s7 ea
    have e := lss_t hQ h t
    obtain ⟨⟨x1, x2, x3, x4, x5, x6, x7⟩, f, i⟩ := id e
    have s : ∀ r k, ¬ (r = c ∧ k = 5) → r ≠ 3 → r ≠ 4 → σ7 r k = σ r k := fun r k n n' n'' => by rw [s7 r k n, fc r k (by omega) (by omega)]
    have u : ∀ k, ¬ (k ≤ 4 ∨ k = 5 + j) → τ6 55 k = τ 55 k := fun k n => ft 55 k (by decide) (by decide) (by omega) (by omega)
    have ne : ∀ a' j' c', (a' = 2 ∨ a' = 15) → j' < 6 → ρ a' j' = some c' → c' = c → a' = 2 ∧ j' = j := fun a' j' c' ha hj' hc' ec => by
      rw [ec] at hc'
      exact R.2.2.1.1 a' j' 2 j c ha (Or.inl rfl) hj' hj hc' hcj
    obtain ⟨m1, m2, m3, m4, m5⟩ := le
    refine ⟨⟨fun k hk => ?_, lq, fun j' c' hj' hc' => ?_, fun j' hj' hl => ?_, ⟨?_, ?_⟩, fun k hk => ?_, fun k hk => ?_⟩, ⟨?_, ?_⟩, lss_im hQ e (fun k _ _ => s 16 k (by omega) (by omega) (by omega)) (s 14 7 (by omega) (by omega) (by omega)) (s 14 8 (by omega) (by omega) (by omega)) (fun r k _ _ => s r k (by omega) (by omega) (by omega)) (fun c' hc' he => ?_) (fun k _ => ft 56 k (by decide) (by decide) (by omega) (by omega)) (ft 54 4 (by decide) (by decide) (by omega) (by omega))⟩
    · rcases (show k = 0 ∨ k = 1 ∨ k = 2 ∨ k = 3 ∨ k = 4 by omega) with rfl | rfl | rfl | rfl | rfl
      · exact (s7 3 1 (by omega)).trans m1
      · exact (s7 3 2 (by omega)).trans m2
      · exact (s7 3 3 (by omega)).trans m3
      · exact (s7 3 4 (by omega)).trans m4
      · exact (s7 3 5 (by omega)).trans m5
    · by_cases z : j' = j
      · rw [z] at hc' ⊢
        rw [hcj] at hc'; cases hc'; exact ea
      · have n : c' ≠ c := fun ec => z (ne 2 j' c' (Or.inl rfl) hj' hc' ec).2
        have := (pr_65 hQ (Or.inl rfl) hj' hc').1
        rw [s c' 5 (by omega) (by omega) (by omega), u (5 + j') (by omega)]; exact x3 j' c' hj' hc'
    · rw [u 11 (by omega)] at hl; rw [u (44 + j') (by omega)]; exact x4 j' hj' hl
    · rw [s 1 7 (by omega) (by omega) (by omega), u 18 (by omega)]; exact x5.1
    · rw [s 1 8 (by omega) (by omega) (by omega), u 19 (by omega)]; exact x5.2
    · rw [s 11 k (by omega) (by omega) (by omega), u (74 + k) (by omega)]; exact x6 k hk
    · rw [s 12 k (by omega) (by omega) (by omega), s 13 k (by omega) (by omega) (by omega), u (78 + k) (by omega), u (86 + k) (by omega)]; exact x7 k hk
    · rw [ft 54 17 (by decide) (by decide) (by omega) (by omega)]; exact f.1
    · rw [ft 54 18 (by decide) (by decide) (by omega) (by omega)]; exact f.2
    · obtain ⟨j', hj', hx⟩ := he
      have n : c' ≠ c := fun ec => absurd (ne 15 j' c' (Or.inr rfl) hj' hx ec).1 (by decide)
      exact s c' 5 (by omega) (by omega) (by omega)
  have l5 : ∀ τ : SG, RT σ τ → σ c 5 = τ 55 (5 + j) := fun τ t => (lss_t hQ h t).1.2.2.1 j c hj hcj
  refine kp_ih (fun z => kp_some (fun τ ρ' t => ref τ ρ' _ t (fun r6 τ6 g => ?_))) (fun z => kp_nm (fun x6 e6 => kp_nm (fun σ7 e7 => kp_some (fun τ ρ' t => ref τ ρ' _ t (fun r6 τ6 g => ?_)))))
  · obtain ⟨fc, ft, le, g⟩ := g
    rcases g with ⟨w, -⟩ | ⟨-, w, g1, g2⟩
    · exact absurd (z.symm.trans (show r4 = 1 from w)) (by decide)
    have w : r6 = 0 := w
    refine kp_t w (kp_some ⟨rfl, ?_⟩)
    have e := (lss_t hQ h t).1.2.1
    refine fin τ τ6 σ4 t fc ft le ⟨?_, ?_, ?_⟩ (fun _ _ _ => rfl) ?_
    · exact (show τ6 55 1 = _ from g1 1 (by decide)) ▸ e.1
    · exact (show τ6 55 2 = _ from g1 2 (by decide)) ▸ e.2.1
    · exact (show τ6 55 3 = _ from g1 3 (by decide)) ▸ e.2.2
    · have g2 : τ6 55 (5 + j) = _ := g2
      have fc : FC 3 σ σ4 := fc
      rw [g2, fc c 5 (by omega) (by omega)]; exact l5 τ t
  · obtain ⟨fc, ft, le, g⟩ := g
    rcases g with ⟨-, w, g1, g2, ⟨g3, -, -⟩, g4⟩ | ⟨w, -⟩
    rotate_left
    · exact absurd (show r4 = 0 from w) z
    have w : r6 = 1 := w
    have fc : FC 3 σ σ4 := fc
    have g3 : σ4 3 6 = τ6 54 14 := g3
    have g4 : τ6 55 (5 + j) = _ := g4
    refine kp_f (by rw [w]; decide) (kp_some ⟨?_, ?_⟩)
    · show σ7 3 6 = τ6 54 14
      rw [e7, sn (by omega)]; exact g3
    · refine fin τ τ6 σ7 t fc ft le g1 (fun r k n => by rw [e7, sn n]) ?_
      rw [e7, sv, e6, g4, fc c 5 (by omega) (by omega), g3, l5 τ t]
