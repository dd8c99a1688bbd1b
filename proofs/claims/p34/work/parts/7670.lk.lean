/-! PART 7670.lk: by hand (its first rows out of 7620 by wip/gen/lk36.py): booked places are cutters' places; looked -/
def bq (k : Nat) : Prop := k = 11 ∨ k = 14 ∨ (78 ≤ k ∧ k ≤ 85)
theorem bq_11 {k : Nat} (h : bq k) : k = 11 ∨ k = 14 ∨ (78 ≤ k ∧ k ≤ 85) := h
theorem bq_lv {k : Nat} (h : bq k) : k = 14 ∨ LV k := by
  rcases h with h | h | h
  · exact Or.inr (Or.inl (by omega))
  · exact Or.inl h
  · exact Or.inr (Or.inr (Or.inr (Or.inr (Or.inr (by omega)))))
def BQ (σ : SG) (q : Int32 × SG) : Prop := ∀ k, k < 909 → bq k → q.2 55 k = σ 55 k
theorem bq_some {σ : SG} {v : Int32} : BQ σ (v, σ) := fun _ _ _ => rfl
theorem fq_see {a1 a2 : Int32} {σ : SG} {ρ : RG} : kp (F_X12_see a1 a2 σ ρ) (BQ σ) := by
  unfold F_X12_see
  refine kp_bx (fun r1 => kp_if (kp_some bq_some) (kp_bx (fun r3 => kp_if (kp_some bq_some) (kp_nm (fun σ6 h6 => kp_nm (fun σ8 h8 => kp_some (fun k _ q => ?_)))))))
  have := bq_11 q
  show σ8 55 k = _
  rw [h8, sn (by omega), h6, sn (by omega)]
theorem fq_loaf {a1 : Int32} {σ : SG} {ρ : RG} : kp (F_X12_loaf a1 σ ρ) (BQ σ) := by
  unfold F_X12_loaf
  refine kp_bx (fun r1 => kp_if (kp_some bq_some) (kp_nm (fun σ4 h4 => kp_nm (fun σ6 h6 => kp_nm (fun σ8 h8 => kp_nm (fun σ10 h10 => kp_nm (fun σ12 h12 => kp_nm (fun σ14 h14 => kp_some (fun k _ q => ?_)))))))))
  have := bq_11 q
  show σ14 55 k = _
  rw [h14, sn (by omega), h12, sn (by omega), h10, sn (by omega), h8, sn (by omega), h6, sn (by omega), h4, sn (by omega)]
theorem fq_week {a1 : Int32} {σ : SG} {ρ : RG} (r13 : rg (σ 55 13) 0 4) : kp (F_X12_week a1 σ ρ) (BQ σ) := by
  have e74 : (74 : Int32).toInt = 74 := rfl
  unfold F_X12_week
  refine kp_bx (fun r1 => kp_if (kp_some bq_some) (kp_ih (fun _ => kp_some bq_some) (fun c4 => kp_nm (fun x4 h4 => kp_gd (fun _ => kp_nm (fun σ7 h7 => kp_nm (fun x8 h8 => kp_nm (fun σ10 h10 => kp_some (fun k _ q => ?_)))))))))
  have b := bq_11 q
  have c4' : (σ 55 13).toInt ≠ 4 := fun z => c4 (ieq (by rw [z]; rfl))
  have u := r13.1
  have u' := r13.2
  have v4 : x4.toInt = 74 + (σ 55 13).toInt := by rw [h4, ti_add (by omega) (by omega), e74]
  have n4 := cl0 (x := x4) (by omega)
  show σ10 55 k = _
  rw [h10, sn (by omega), h7, sn (by omega)]
theorem fq_clear {σ : SG} {ρ : RG} : kp (F_X12_clear σ ρ) (BQ σ) := by
  unfold F_X12_clear
  refine kp_nm (fun σ2 h2 => kp_some (fun k _ q => ?_))
  have := bq_11 q
  show σ2 55 k = _
  rw [h2, sn (by omega)]
theorem fq_thick {a1 a2 : Int32} {σ : SG} {ρ : RG} (hc : rg (σ 55 11) 0 6) : kp (F_X12_thick a1 a2 σ ρ) (BQ σ) := by
  refine kp_mono (thick_12 hc) (fun q h k hk b => ?_)
  have b' := bq_11 b
  rcases h with ⟨_, e⟩ | ⟨_, _, e⟩ | ⟨⟨n1, n2⟩, _, e⟩
  · rw [e]
  · rw [e]
  · have l1 := le_i n1
    have l2 := lt_i n2
    have := hc.2
    rw [ti_0] at l1
    rw [e a1.toNatClampNeg (cl0 l1).symm]
    have := cl0 l1
    show s2 σ 55 (44 + a1.toNatClampNeg) a2 55 k = _
    rw [sn (by omega)]
theorem fq_row {a1 a2 a3 : Int32} {σ : SG} {ρ : RG} (hc : rg (σ 55 11) 0 6) : kp (F_X12_row a1 a2 a3 σ ρ) (BQ σ) := by
  refine kp_mono (row_12 hc) (fun q h k hk b => ?_)
  have b' := bq_11 b
  rcases h with ⟨_, e⟩ | ⟨_, _, e⟩ | ⟨_, _, _, e⟩ | ⟨⟨n1, n2⟩, ⟨m1, m2⟩, _, e⟩
  · rw [e]
  · rw [e]
  · rw [e]
  · have l1 := le_i n1
    have l2 := lt_i n2
    have := hc.2
    rw [ti_0] at l1
    have c1 := cl0 l1
    have l3 := le_i m1
    have l4 := le_i m2
    rw [ti_0] at l3
    have c2 := cl0 l3
    have e3 : (3 : Int32).toInt = 3 := rfl
    rcases e a1.toNatClampNeg c1.symm with ⟨_, e⟩ | ⟨_, e⟩
    · rw [e]
    · rw [e]
      show s2 σ 55 (50 + 4 * a1.toNatClampNeg + a2.toNatClampNeg) a3 55 k = _
      rw [sn (by omega)]
def BKR (row : Nat) (τ : SG) : Prop := ∀ k : Nat, k < 8 → (k : Int) < (τ row 14).toInt → 0 ≤ (τ row (78 + k)).toInt ∧ (τ row (78 + k)).toInt < (τ row 11).toInt
def BKS (τ : SG) : Prop := BKR 55 τ ∧ (¬ τ 54 4 = 0 → BKR 56 τ)
theorem bkr_eq {row row' : Nat} {τ τ' : SG} (h : BKR row τ) (e : ∀ k, bq k → τ' row' k = τ row k) : BKR row' τ' := fun k hk hl => by
  rw [e 14 (Or.inr (Or.inl rfl))] at hl
  rw [e (78 + k) (Or.inr (Or.inr (by omega))), e 11 (Or.inl rfl)]
  exact h k hk hl
theorem bq_lt {k : Nat} (h : bq k) : k < 909 := by unfold bq at h; omega
theorem bks_keep {τ τ' : SG} (h : BKS τ) (e : ∀ k, bq k → τ' 55 k = τ 55 k) (e6 : ∀ k, τ' 56 k = τ 56 k) (e4 : τ' 54 4 = τ 54 4) : BKS τ' := ⟨bkr_eq h.1 e, fun n => by
  rw [e4] at n
  exact bkr_eq (h.2 n) (fun k _ => e6 k)⟩
theorem bks_call {σ σ3 σ6 : SG} (h : BKS σ) (x : KX σ σ3) (hr : KR σ3 σ6) (e : ∀ k, bq k → σ6 55 k = σ3 55 k) : BKS σ6 := bks_keep h (fun k z => (e k z).trans (x 55 k rfl)) (fun k => (hr 56 k rfl).trans (x 56 k rfl)) ((hr 54 4 rfl).trans (x 54 4 rfl))
theorem bks_book {σ σ3 σ6 : SG} (h : BKS σ) (x : KX σ σ3) (hr : KR σ3 σ6) (m : BKR 55 σ3 → BKR 55 σ6) : BKS σ6 := ⟨m (bkr_eq h.1 (fun k _ => x 55 k rfl)), fun n => by
  rw [(hr 54 4 rfl).trans (x 54 4 rfl)] at n
  exact bkr_eq (h.2 n) (fun k _ => (hr 56 k rfl).trans (x 56 k rfl))⟩
theorem bk_book {a1 a2 : Int32} {σ : SG} {ρ : RG} (hc : rg (σ 55 11) 0 6) (r14 : rg (σ 55 14) 0 8) : kp (F_X12_book a1 a2 σ ρ) (fun q => BKR 55 σ → BKR 55 q.2) := by
  have e78 : (78 : Int32).toInt = 78 := rfl
  have e86 : (86 : Int32).toInt = 86 := rfl
  have u := r14.1
  have u' := r14.2
  unfold F_X12_book
  refine kp_if (kp_nm (fun σ19 h19 => kp_some (fun _ k _ hl => ?_))) (kp_bn (kp_ok (ic_12 hc)) (fun r2 g2 => kp_ih (fun _ => kp_some id) (fun c2 => kp_bx (fun r4 => kp_if (kp_some id) (kp_ih (fun _ => kp_some id) (fun c8 => kp_nm (fun x7 h7 => kp_gd (fun _ => kp_nm (fun σ10 h10 => kp_nm (fun x11 h11 => kp_gd (fun _ => kp_nm (fun σ14 h14 => kp_nm (fun x15 h15 => kp_nm (fun σ17 h17 => kp_some (fun B k hk hl => ?_))))))))))))))) 
  · exfalso
    change (k : Int) < (σ19 55 14).toInt at hl
    rw [h19, sv, ti_0] at hl
    omega
  · have y := g2.mp c2
    have y1 := le_i y.1
    have y2 := lt_i y.2
    rw [ti_0] at y1
    have c8' : (σ 55 14).toInt ≠ 8 := fun z => c8 (ieq (by rw [z]; rfl))
    have v7 : x7.toInt = 78 + (σ 55 14).toInt := by rw [h7, ti_add (by omega) (by omega), e78]
    have n7 := cl0 (x := x7) (by omega)
    have e10 : σ10 55 14 = σ 55 14 := by rw [h10, sn (by omega)]
    have v11 : x11.toInt = 86 + (σ 55 14).toInt := by rw [h11, e10, ti_add (by omega) (by omega), e86]
    have n11 := cl0 (x := x11) (by omega)
    have e14 : σ14 55 14 = σ 55 14 := by rw [h14, sn (by omega), e10]
    have v15 : x15.toInt = (σ 55 14).toInt + 1 := by rw [h15, e14, ti_add (by rw [ti_1]; omega) (by rw [ti_1]; omega), ti_1]
    change (k : Int) < (σ17 55 14).toInt at hl
    show 0 ≤ (σ17 55 (78 + k)).toInt ∧ (σ17 55 (78 + k)).toInt < (σ17 55 11).toInt
    have w11 : σ17 55 11 = σ 55 11 := by rw [h17, sn (by omega), h14, sn (by omega), h10, sn (by omega)]
    rw [h17, sv, v15] at hl
    rw [w11]
    by_cases z : (k : Int) = (σ 55 14).toInt
    · have ez : 78 + k = x7.toNatClampNeg := by omega
      rw [h17, sn (by omega), h14, sn (by omega), h10, ez, sv]
      exact ⟨y1, y2⟩
    · have w : σ17 55 (78 + k) = σ 55 (78 + k) := by rw [h17, sn (by omega), h14, sn (by omega), h10, sn (by omega)]
      rw [w]
      exact B k hk (by omega)
theorem bks_cutter {N N1 : Nat} {K len K1 L1 : Nat → Nat} {ρ ρ1 : RG} {a1 a2 a3 a4 a5 b1 b2 b3 b4 b5 r3 r6 : Int32} {σ σ3 σ6 : SG} (r0 : rg (σ 1 1) 0 6) (hQ : PR N K len ρ) (B : BKS σ)
    (h3 : (¬ OKC a1 a2 a3 a4 a5 (σ 1 1) ∧ (r3, N1, K1, L1, σ3, ρ1) = (cuE a1 a2 a3 a4 a5, N, K, len, σ, ρ)) ∨ (OKC a1 a2 a3 a4 a5 (σ 1 1) ∧ r3 = σ 1 1 ∧ ∀ n : Nat, (σ 1 1).toInt = (n : Int) → NEWC a1 a2 a3 a4 a5 n N K len σ ρ (N1, K1, L1, σ3, ρ1)))
    (rc : rg (σ3 55 11) 0 6) (h6 : (¬ OKC b1 b2 b3 b4 b5 (σ3 55 11) ∧ (r6, σ6) = (cuE b1 b2 b3 b4 b5, σ3)) ∨ (OKC b1 b2 b3 b4 b5 (σ3 55 11) ∧ r6 = σ3 55 11 ∧ ∀ n : Nat, (σ3 55 11).toInt = (n : Int) → n < 6 ∧ σ6 55 11 = σ3 55 11 + 1 ∧ σ6 55 (20 + n) = b1 ∧ σ6 55 (26 + n) = b2 ∧ σ6 55 (32 + n) = b3 ∧ σ6 55 (38 + n) = b4 ∧ σ6 55 (44 + n) = b5 ∧ (∀ k, k < 4 → σ6 55 (50 + 4 * n + k) = 4) ∧ ∀ k, 11 < k → k ≠ 20 + n → k ≠ 26 + n → k ≠ 32 + n → k ≠ 38 + n → k ≠ 44 + n → (k < 50 + 4 * n ∨ 50 + 4 * n + 4 ≤ k) → σ6 55 k = σ3 55 k))
    (hr : KR σ3 σ6) : BKS σ6 := by
  have n65 := hQ.1.1
  have f : ∀ r k, r < 65 → ¬ (r = 1 ∧ k = 1) → σ3 r k = σ r k := by
    rcases h3 with ⟨_, e⟩ | ⟨_, _, e⟩
    · cases e; exact fun _ _ _ _ => rfl
    · have E := e (σ 1 1).toNatClampNeg (cl0 r0.1).symm
      exact fun r k l n => E.2.1 r k (by omega) n
  have B3 : BKS σ3 := bks_keep B (fun k _ => f 55 k (by decide) (by omega)) (fun k => f 56 k (by decide) (by omega)) (f 54 4 (by decide) (by omega))
  have im : ¬ σ6 54 4 = 0 → BKR 56 σ6 := fun n => by
    rw [hr 54 4 rfl] at n
    exact bkr_eq (B3.2 n) (fun k _ => hr 56 k rfl)
  rcases h6 with ⟨-, e⟩ | ⟨-, -, e⟩
  · cases e; exact B3
  · have c := (cl0 rc.1).symm
    obtain ⟨n6, d11, -, -, -, -, -, -, d7⟩ := e (σ3 55 11).toNatClampNeg c
    refine ⟨fun k hk hl => ?_, im⟩
    rw [d7 14 (by omega) (by omega) (by omega) (by omega) (by omega) (by omega) (by omega)] at hl
    rw [d7 (78 + k) (by omega) (by omega) (by omega) (by omega) (by omega) (by omega) (by omega), d11]
    have i1 : (1 : Int32).toInt = 1 := rfl
    have r2 := rc.2
    have r1 := rc.1
    rw [ti_add (by omega) (by omega), i1]
    have := B3.1 k hk hl
    exact ⟨this.1, by have := this.2; omega⟩
theorem bks_image {N N1 : Nat} {K len K1 L1 : Nat → Nat} {ρ ρ1 : RG} {r3 r6 : Int32} {σ σ3 σ6 : SG} (hQ : PR N K len ρ) (B : BKS σ) (h3 : r3 = σ3 1 1 ∧ ∃ σ1, CPE 15 2 N 14 1 16 3 K (s2 σ 14 1 (σ 1 1)) ρ ((), N1, K1, L1, σ1, ρ1) ∧ σ3 = s2 σ1 0 2 1) (h6 : r6 = σ3 55 11 ∧ σ6 54 4 = 1 ∧ σ6 55 = σ3 55 ∧ (∀ r, r ≠ 54 → r ≠ 56 → σ6 r = σ3 r) ∧ ∀ k : Nat, k < 909 → σ6 56 k = σ3 55 k) : BKS σ6 := by
  have n65 := hQ.1.1
  obtain ⟨e3, σ1, ⟨σ5, cp, hQ1, tk, tm⟩, e1⟩ := h3
  change CP 15 2 N 6 K (s2 σ 14 1 (σ 1 1)) ρ N1 K1 σ5 ρ1 at cp
  change TKM 14 1 σ5 σ1 at tm
  obtain ⟨-, -, -, -, -, -, -, -, -, -, -, m11⟩ := tm
  have f : ∀ k, σ3 55 k = σ 55 k := fun k => by rw [e1, s2_ne 55 (by decide), m11 55 k (by omega) (by omega), cp.1.2.2.1 55 (by omega), s2_ne 55 (by decide)]
  obtain ⟨g1, g2, g3, g4, g5⟩ := h6
  exact ⟨bkr_eq B.1 (fun k _ => by rw [g3, f]), fun _ => bkr_eq B.1 (fun k z => by rw [g5 k (bq_lt z), f])⟩
theorem bks_undo {N N1 : Nat} {K len K1 L1 : Nat → Nat} {ρ ρ1 : RG} {r3 : Int32} {σ σ3 : SG} (hQ : PR N K len ρ) (RA' : RA K σ ρ) (B : BKS σ) (h3 : (σ 0 2 = 0 ∧ (r3, N1, K1, L1, σ3, ρ1) = (-3, N, K, len, σ, ρ)) ∨ (¬ σ 0 2 = 0 ∧ r3 = σ3 1 1 ∧ CPE 2 15 N 1 14 3 16 K (s2 σ 1 1 (σ 14 1)) ρ ((), N1, K1, L1, σ3, ρ1))) : kp (F_X12_undo σ3 ρ1) (fun q => BKS q.2) := by
  have n65 := hQ.1.1
  rcases h3 with ⟨c0, e⟩ | ⟨c0, e3, σ5, cp, hQ1, tk, tm⟩
  · cases e
    unfold F_X12_undo
    rw [if_pos (RA'.2.2.2.1.mp c0)]
    exact kp_some B
  · change CP 2 15 N 6 K (s2 σ 1 1 (σ 14 1)) ρ N1 K1 σ5 ρ1 at cp
    change TKM 1 14 σ5 σ3 at tm
    have n4 : ¬ σ 54 4 = 0 := fun q => c0 (RA'.2.2.2.1.mpr q)
    obtain ⟨-, -, -, -, -, -, -, -, -, -, -, m11⟩ := tm
    have f : ∀ r k, r < 65 → 14 ≤ r → σ3 r k = σ r k := fun r k l g => by rw [m11 r k (by omega) (by omega), cp.1.2.2.1 r (by omega), s2_ne r (by omega)]
    refine kp_mono (un_12r (σ := σ3) (by rw [f 54 4 (by decide) (by decide)]; exact n4)) (fun q z => ?_)
    obtain ⟨g1, g2, g3, g4, g5⟩ := z
    have T := B.2 n4
    exact ⟨bkr_eq T (fun k z => by rw [g5 k (bq_lt z), f 56 k (by decide) (by decide)]), fun _ => bkr_eq T (fun k _ => by rw [g3, f 56 k (by decide) (by decide)])⟩
/-! looked -/
theorem looked_l {N : Nat} {K len : Nat → Nat} {σ : SG} {ρ : RG} (b : BS N K len σ ρ) (B : BKR 55 σ) (r14 : rg (σ 55 14) 0 8) : kp (F_X11_looked N K len σ ρ) (fun q => ∀ (τ : SG) (ρ' : RG), RT σ τ → kp (F_X12_looked τ ρ') (fun q' => q.1 = q'.1)) := by
  have t11 : σ 1 1 = σ 55 11 := b.2.1.1.1
  have t14 : σ 1 13 = σ 55 14 := b.2.1.1.2.2.1
  have e78 : (78 : Int32).toInt = 78 := rfl
  have e86 : (86 : Int32).toInt = 86 := rfl
  have em5 : (-5 : Int32).toInt = -5 := rfl
  obtain ⟨u0, u8⟩ := r14
  have bkw : ∀ (τ8 : SG) (ρ' : RG) (v w' : Int32), v = w' → kp (bn (F_X12_goesBack τ8 ρ') fun σ23 => some (w', σ23)) (fun q' => v = q'.1) := fun τ8 ρ' v w' e => kp_bn (fun _ _ => trivial : kp _ (fun _ => True)) (fun σ23 _ => kp_some e)
  -- the answer is found: the reference goes once more round, and stops
  have done : ∀ (m : Nat) (τ : SG) (ρ' : RG) (v1 v2 v : Int32), v = v1 → ¬ v1 = -5 → kp (F_X12_looked_9 m τ ρ' v1 v2) (fun q' => v = q'.1) := fun m τ ρ' v1 v2 v e n => by
    cases m with
    | zero => exact kp_none
    | succ m =>
      unfold F_X12_looked_9
      exact kp_ih (fun _ => bkw _ _ _ _ e) (fun _ => kp_f n (bkw _ _ _ _ e))
  have loop : ∀ (n : Nat) (σ' : SG) (v : Int32) (k : Nat), v.toInt = (k : Int) → k ≤ 8 → KD σ σ' → kp (F_X11_looked_16 N K len n σ' ρ v) (fun q => ∀ (m : Nat) (τ : SG) (ρ' : RG), AWAY σ τ → LE 37 σ' τ → LQ (999 + (k : Int)) τ → kp (F_X12_looked_9 m τ ρ' (-5) v) (fun q' => q.1 = q'.1)) := by
    intro n
    induction n with
    | zero => intro σ' v k _ _ _; exact kp_none
    | succ n ih =>
      intro σ' v k hk hk8 hd
      have w13 : σ' 1 13 = σ 55 14 := (kd_lo hd (by decide) (by decide)).trans t14
      unfold F_X11_looked_16
      rw [w13]
      refine kp_ih (fun d => kp_some (fun m τ ρ' aw _ _ => ?_)) (fun d => ?_)
      · cases m with
        | zero => exact kp_none
        | succ m =>
          unfold F_X12_looked_9
          exact kp_t (by rw [aw.1.1 14 (by decide)]; exact d) (bkw _ _ _ _ rfl)
      have p := lt_i (nle d)
      have k8 : k < 8 := by omega
      obtain ⟨q0, q1⟩ := B k k8 (by omega)
      rw [← t11] at q1
      have c12 : σ' 12 k = σ 55 (78 + k) := (kd_lo hd (by decide) (by decide)).trans (b.2.2.2.1.1.2.2.2.2.2.2 k k8).1
      refine kp_bn (k_val (j := k) hk k8 (by decide)) (fun r3 h3 => kp_bn (at_bs (N := N) (len := len) b hd) (fun o4 h4 => ?_))
      rw [c12] at h3
      rcases h4 with ⟨rfl, no⟩ | ⟨c, j, rfl, v1', v2', hj, ej, hcj⟩
      · exact absurd ⟨i_le (by rw [ti_0, h3]; exact q0), i_lt (by rw [h3]; exact q1)⟩ no
      have hcc : isC N K c = true := (b.1.2.2.1 j c hj hcj).1
      have c65 := (pr_65 b.1 (Or.inl rfl) hj hcj).1
      obtain ⟨th, tr⟩ := th_bs b hj hcj (by have := lt_i v2'; omega)
      have tr' : rg (σ c 4) 0 100 := by rw [th]; exact ⟨by have := tr.1; omega, by have := tr.2; omega⟩
      have tc : σ' c 4 = σ c 4 := kd_hi hd (by omega)
      show kp (gd (isC N K c) _) _
      rw [tc]
      refine kp_gd (fun _ => kp_bn2 (sim_try (i := 37) (a5 := 0) (e := 0) b (by decide) ej hj hcj hcc hd tr' ⟨fun _ => rfl, fun _ => rfl⟩) (fun r6 σ6 h6 => ?_))
      have hd6 : KD σ σ6 := h6.1
      have nv : ¬ v = -5 := fun z => by rw [z, em5] at hk; omega
      have c13 : σ6 13 k = σ 55 (86 + k) := (kd_lo hd6 (by decide) (by decide)).trans (b.2.2.2.1.1.2.2.2.2.2.2 k k8).2
      -- a round of the reference
      have ref : ∀ (m : Nat) (τ : SG) (ρ' : RG) (P : Int32 × SG → Prop), AWAY σ τ → LE 37 σ' τ → LQ (999 + (k : Int)) τ → ((r6 = 0 ∨ ¬ σ6 37 7 = σ 55 (86 + k)) → ∀ (m' : Nat) (τ' : SG) (x : Int32), kp (F_X12_looked_9 m' τ' ρ' v x) P) → (¬ r6 = 0 → σ6 37 7 = σ 55 (86 + k) → ∀ (m' : Nat) (τ' : SG) (x : Int32), x = v + 1 → AWAY σ τ' → LE 37 σ6 τ' → LQ (999 + ((k + 1 : Nat) : Int)) τ' → kp (F_X12_looked_9 m' τ' ρ' (-5) x) P) → kp (F_X12_looked_9 m τ ρ' (-5) v) P := fun m τ ρ' P aw le lq stop go => by
        cases m with
        | zero => exact kp_none
        | succ m =>
          unfold F_X12_looked_9
          refine kp_f (by rw [aw.1.1 14 (by decide)]; exact d) (kp_t rfl (kp_nm (fun x6 g6 => kp_gd (fun _ => kp_nm (fun x8 g8 => kp_gd (fun _ => ?_))))))
          have n6 : x6.toNatClampNeg = 78 + k := cn (by rw [g6, ti_add (by omega) (by omega), e78, hk]; omega)
          rw [n6, aw.1.1 (78 + k) (by omega), ← h3] at g8 ⊢
          rw [jn ej hj g8, aw.1.1 (44 + j) (by omega), ← th]
          refine kp_bn2 (h6.2.2 τ ρ' (999 + (k : Int)) (by omega) aw.1 le lq) (fun r10 τ10 g10 => ?_)
          obtain ⟨⟨ft, le', lq', g⟩, et⟩ := g10
          have ft : FT j τ τ10 := ft
          have lq' : LQ (999 + (k : Int) + 1) τ10 := lq'
          have aw' : AWAY σ τ10 := away_ft hj aw ft
          have halt : (r6 = 0 ∨ ¬ σ6 37 7 = σ 55 (86 + k)) → kp (F_X12_looked_69 (F_X12_looked_9 m) τ10 ρ' v) P := fun z => by
            unfold F_X12_looked_69 F_X12_looked_75
            exact kp_nm (fun x12 _ => stop z m τ10 x12)
          rcases g with ⟨q, q', -, ⟨-, ww, -⟩, -⟩ | ⟨q, q', -⟩
          · have q : r6 = 1 := q
            have ww : σ6 37 7 = τ10 54 15 := ww
            refine kp_f (by rw [show r10 = 1 from q']; decide) (kp_nm (fun x13 g13 => kp_gd (fun _ => ?_)))
            have n13 : x13.toNatClampNeg = 86 + k := cn (by rw [g13, ti_add (by omega) (by omega), e86, hk]; omega)
            rw [n13, aw'.1.1 (86 + k) (by omega), ← ww]
            refine kp_ih (fun z => ?_) (fun z => halt (Or.inr z))
            unfold F_X12_looked_75
            exact kp_nm (fun x12 g12 => go (by rw [q]; decide) z m τ10 x12 g12 aw' le' ⟨lq'.1, lq'.2.1, lq'.2.2.1, by have := lq'.2.2.2; omega⟩)
          · exact kp_t q' (halt (Or.inl q))
      refine kp_ih (fun z => kp_some (fun m τ ρ' aw le lq => ref m τ ρ' _ aw le lq (fun _ m' τ' x => done m' τ' ρ' v x v rfl nv) (fun y => absurd z y))) (fun z => kp_bn (k_val (j := k) hk k8 (by decide)) (fun r8 h8 => ?_))
      rw [c13] at h8
      rw [h8]
      refine kp_ih (fun z' => kp_nm (fun x10 h10 => ?_)) (fun z' => kp_some (fun m τ ρ' aw le lq => ref m τ ρ' _ aw le lq (fun _ m' τ' x => done m' τ' ρ' v x v rfl nv) (fun _ y => absurd y z')))
      have e10 : x10.toInt = ((k + 1 : Nat) : Int) := by rw [h10, ti_add (by rw [ti_1]; omega) (by rw [ti_1]; omega), ti_1, hk]; omega
      refine kp_mono (ih σ6 x10 (k + 1) e10 (by omega) hd6) (fun q hq m τ ρ' aw le lq => ref m τ ρ' _ aw le lq (fun y => ?_) (fun _ _ m' τ' x hx aw' le' lq' => ?_))
      · rcases y with y | y
        · exact absurd y z
        · exact absurd z' y
      · rw [hx, ← h10]; exact hq m' τ' ρ' aw' le' lq'
  unfold F_X11_looked
  refine kp_bn (k_tk (by decide)) (fun σ1 h1 => ?_)
  have hd1 : KD σ σ1 := fun r k p => h1.1 r k (fun z => by rw [z.1] at p; cases p)
  refine kp_mono (loop 1024 σ1 0 0 rfl (by decide) hd1) (fun q hq τ ρ' t => ?_)
  unfold F_X12_looked
  exact kp_bn (home_keeps b t) (fun τ1 g1 => hq 1024 τ1 ρ' (home_away g1) (home_le b g1 h1.2) (home_lq b g1))
