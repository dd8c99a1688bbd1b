/-! PART 7662.on: by hand: on, when, enough, again, evener, side by side -/
theorem go_on2 {N : Nat} {K len : Nat → Nat} {v1 v2 v4 : Int32} {σ σ' : SG} {ρ : RG} (b : BS N K len σ ρ) (hd0 : KD σ σ') (hv : v1.toInt ≤ 1000) : kp (F_X11_goOn N K len v1 v2 0 v4 σ' ρ) (fun q => KD σ q ∧ ∀ (τ : SG) (ρ' : RG), HOME σ τ → kp (F_X12_goesOn v1 v4 v2 τ ρ') (fun q' => GF σ q q')) := by
  unfold F_X11_goOn
  refine kp_bn (k_tk (by decide)) (fun σ1 h1 => kp_nm (fun σ3 h3 => kp_nm (fun σ5 h5 => ?_)))
  have s5 : ∀ r k, ¬ (r = 37 ∧ k ≤ 8) → ¬ (r = 0 ∧ (k = 13 ∨ k = 14)) → σ5 r k = σ' r k := fun r k n n' => by rw [h5, sn (by omega), h3, sn (by omega)]; exact h1.1 r k n
  have t5 : ∀ k, k ≤ 5 → σ5 37 k = σ 3 k := fun k hk => by rw [h5, sn (by omega), h3, sn (by omega)]; exact (h1.2 k hk).trans (kd_lo hd0 (by decide) (by decide))
  have z13 : σ5 0 13 = 0 := by rw [h5, sn (by omega), h3, sv]
  have z14 : σ5 0 14 = 0 := by rw [h5, sv]
  refine k_z39 (σ0 := σ5) (fun s hs hz => ?_) 1024 σ5 0 (by decide) (by decide) (fun _ _ => rfl) (fun k hk => by rw [ti_0] at hk; omega)
  have hd : KD σ s := kd_trans hd0 (fun r k p => by
    have n37 : ¬ (r = 37 ∧ k ≤ 8) := fun z => by rw [z.1] at p; cases p
    have n39 : r ≠ 39 := fun z => by rw [z] at p; cases p
    have n0 : ¬ (r = 0 ∧ (k = 13 ∨ k = 14)) := fun z => by rcases z with ⟨z, z' | z'⟩ <;> rw [z, z'] at p <;> cases p
    rw [hs r n39]; exact s5 r k n37 n0)
  refine kp_mono (go_loop (b1 := v1) (b2 := v4) (b3 := v2) b hv 1024 s 0 0 rfl (by decide) hd) (fun q hq => ⟨hq.1, fun τ ρ' hm => ?_⟩)
  unfold F_X12_goesOn
  refine kp_nm (fun τ2 g2 => kp_nm (fun τ4 g4 => kp_nm (fun τ6 g6 => ?_)))
  have u6 : ∀ r k, ¬ (r = 54 ∧ (k = 19 ∨ k = 20 ∨ k = 21)) → τ6 r k = τ r k := fun r k n => by rw [g6, sn (by omega), g4, sn (by omega), g2, sn (by omega)]
  have lq := home_lq b hm
  have le := home_le (i := 37) b hm (σ' := s) (fun k hk => by rw [hs 37 (by decide)]; exact t5 k hk)
  obtain ⟨l1, l2, l3, l4, l5⟩ := le
  refine hq.2 1024 τ6 ρ' ⟨hd, ⟨⟨fun k hk => by rw [u6 55 k (by omega)]; exact hm.1.1 k hk, by rw [u6 54 17 (by omega)]; exact hm.1.2.1, by rw [u6 54 18 (by omega)]; exact hm.1.2.2⟩, fun k hk => by rw [u6 57 k (by omega)]; exact hm.2.2 k hk⟩, ⟨by rw [u6 55 0 (by omega)]; exact l1, by rw [u6 55 1 (by omega)]; exact l2, by rw [u6 55 2 (by omega)]; exact l3, by rw [u6 55 3 (by omega)]; exact l4, by rw [u6 55 4 (by omega)]; exact l5⟩, fun j hj => ?_, ?_, ?_, ?_⟩ ⟨by rw [u6 55 1 (by omega)]; exact lq.1, by rw [u6 55 2 (by omega)]; exact lq.2.1, by rw [u6 55 3 (by omega)]; exact lq.2.2⟩
  · rw [u6 55 (5 + j) (by omega), hm.2.1 (5 + j) (by omega), hz j hj]; grind
  · rw [hs 0 (by decide), z13, g6, sn (by omega), g4, sv]
  · rw [hs 0 (by decide), z14, g6, sv]
  · rw [g6, sn (by omega), g4, sn (by omega), g2, sv, sn (by omega), sn (by omega), sn (by omega), hm.2.1 3 (by decide)]; grind
/-! when -/
theorem good_by {N : Nat} {K len : Nat → Nat} {v1 v5 : Int32} {σ σ9 τ : SG} {ρ ρ' : RG} (h : KD σ σ9 ∧ ∀ (τ : SG) (ρ' : RG), HOME σ τ → kp (F_X12_goesOn v1 0 v5 τ ρ') (fun q' => GF σ σ9 q')) (hm : HOME σ τ) : kp (F_X12_goodBy v1 v5 τ ρ') (fun q => q.1 = σ9 0 13 ∧ HOME σ q.2) := by
  unfold F_X12_goodBy
  refine kp_bn (h.2 τ ρ' hm) (fun τ1 g1 => kp_bn (home_back g1.2.1) (fun τ2 g2 => kp_some ⟨?_, g2.1⟩))
  show τ2 54 20 = σ9 0 13
  rw [g2.2 54 (by decide)]; exact g1.2.2.2.2.1.symm
theorem when_l {N : Nat} {K len : Nat → Nat} {a w : Int32} {σ : SG} {ρ : RG} (b : BS N K len σ ρ) : kp (F_X11_when N K len a w σ ρ) (fun q => ∀ (τ : SG) (ρ' : RG), RT σ τ → kp (F_X12_when a w τ ρ') (fun q' => q.1 = q'.1)) := by
  have e20 : (20 : Int32).toInt = 20 := rfl
  have loop : ∀ (n : Nat) (σ' : SG) (v1 v2 v3 v4 v5 : Int32), v1.toInt ≤ 1000 → KD σ σ' → kp (F_X11_when_44 N K len a w n σ' ρ v1 v2 v3 v4 v5) (fun q => ∀ (m : Nat) (τ : SG) (ρ' : RG), HOME σ τ → kp (F_X12_when_42 a w m τ ρ' v1 v2 v3 v4 v5) (fun q' => q.1 = q'.1)) := by
    intro n
    induction n with
    | zero => intro σ' v1 v2 v3 v4 v5 _ _; exact kp_none
    | succ n ih =>
      intro σ' v1 v2 v3 v4 v5 hv hd
      have stop : ∀ (m : Nat) (τ : SG) (ρ' : RG) (v : Int32), v1 ≤ v5 → v = (if v2 = 0 then v4 else if v4 = -5 then v4 else v3) → kp (F_X12_when_42 a w m τ ρ' v1 v2 v3 v4 v5) (fun q' => v = q'.1) := fun m τ ρ' v d e => by
        cases m with
        | zero => exact kp_none
        | succ m =>
          unfold F_X12_when_42
          refine kp_t d (kp_ih (fun z => kp_some ?_) (fun z => kp_ih (fun z' => kp_some ?_) (fun z' => kp_some ?_)))
          · rw [e, if_pos z]
          · rw [e, if_neg z, if_pos z']
          · rw [e, if_neg z, if_neg z']
      unfold F_X11_when_44
      refine kp_ih (fun d => kp_ih (fun z => kp_some (fun m τ ρ' _ => stop m τ ρ' _ d (by rw [if_pos z]))) (fun z => kp_ih (fun z' => kp_some (fun m τ ρ' _ => stop m τ ρ' _ d (by rw [if_neg z, if_pos z']))) (fun z' => kp_some (fun m τ ρ' _ => stop m τ ρ' _ d (by rw [if_neg z, if_neg z']))))) (fun d => kp_bn (go_on2 b hd hv) (fun σ9 h9 => ?_))
      -- a round of the reference
      have ref : ∀ (m : Nat) (τ : SG) (ρ' : RG) (P : Int32 × SG → Prop), HOME σ τ → (∀ (m' : Nat) (τ' : SG) (x13 : Int32), HOME σ τ' → x13 = v5 + 1 → kp (F_X12_when_42 a w m' τ' ρ' v1 v2 (if σ9 0 13 ≤ v3 then v3 else σ9 0 13) (if σ9 0 13 ≤ v3 then v4 else v5) x13) P) → kp (F_X12_when_42 a w m τ ρ' v1 v2 v3 v4 v5) P := fun m τ ρ' P hm k => by
        cases m with
        | zero => exact kp_none
        | succ m =>
          unfold F_X12_when_42
          refine kp_f d (kp_bn2 (good_by (N := N) (K := K) (len := len) (ρ := ρ) h9 hm) (fun r10 τ10 g10 => ?_))
          have e10 : r10 = σ9 0 13 := g10.1
          rw [e10]
          refine kp_ih (fun z => ?_) (fun z => ?_)
          · unfold F_X12_when_70 F_X12_when_84
            refine kp_t z (kp_nm (fun x13 h13 => ?_))
            have := k m τ10 x13 g10.2 h13
            rw [if_pos z, if_pos z] at this; exact this
          · unfold F_X12_when_70 F_X12_when_84
            refine kp_f z (kp_nm (fun x13 h13 => ?_))
            have := k m τ10 x13 g10.2 h13
            rw [if_neg z, if_neg z] at this; exact this
      refine kp_ih (fun z => ?_) (fun z => ?_)
      · unfold F_X11_when_76
        refine kp_nm (fun x11 h11 => kp_mono (ih σ9 v1 v2 v3 v4 x11 hv h9.1) (fun q hq m τ ρ' hm => ref m τ ρ' _ hm (fun m' τ' x13 hm' h13 => ?_)))
        rw [if_pos z, if_pos z, h13, ← h11]; exact hq m' τ' ρ' hm'
      · unfold F_X11_when_76
        refine kp_nm (fun x11 h11 => kp_mono (ih σ9 v1 v2 (σ9 0 13) v5 x11 hv h9.1) (fun q hq m τ ρ' hm => ref m τ ρ' _ hm (fun m' τ' x13 hm' h13 => ?_)))
        rw [if_neg z, if_neg z, h13, ← h11]; exact hq m' τ' ρ' hm'
  unfold F_X11_when
  refine kp_bn (kp_ok wi_0) (fun r1 h1 => kp_ih (fun c => kp_some (fun τ ρ' t => ?_)) (fun c => kp_bn (kp_ok wi_0) (fun r3 h3 => kp_ih (fun d => kp_some (fun τ ρ' t => ?_)) (fun d => ?_))))
  · have n : ¬ ((0 : Int32) ≤ w ∧ w ≤ (1 : Int32)) := fun q => h1.2.mpr q c
    unfold F_X12_when
    exact kp_bn (kp_ok in_0) (fun r g => kp_ih (fun _ => kp_some rfl) (fun z => absurd (g.2.mp z) n))
  · have n : ¬ ((1 : Int32) ≤ a ∧ a ≤ (20 : Int32)) := fun q => h3.2.mpr q d
    unfold F_X12_when
    exact kp_bn (kp_ok in_0) (fun r g => kp_ih (fun z => absurd (h1.2.mp c) (fun y => g.2.mpr y z)) (fun _ => kp_bn (kp_ok in_0) (fun r g => kp_ih (fun _ => kp_some rfl) (fun z => absurd (g.2.mp z) n))))
  · have y1 := h1.2.mp c
    have y3 := h3.2.mp d
    have g20 := rc_i y3
    refine kp_bn (go_on2 b (kd_refl σ) (by omega)) (fun σ5 h5 => kp_mono (loop 1024 σ5 a w (σ5 0 13) (-5) 0 (by omega) h5.1) (fun q hq τ ρ' t => ?_))
    unfold F_X12_when
    refine kp_bn (kp_ok in_0) (fun r g => kp_f (g.2.mpr y1) (kp_bn (kp_ok in_0) (fun r' g' => kp_f (g'.2.mpr y3) (kp_bn (home_keeps b t) (fun τ5 g5 => kp_bn2 (good_by (N := N) (K := K) (len := len) (ρ := ρ) h5 g5) (fun r6 τ6 g6 => ?_))))))
    have e6 : r6 = σ5 0 13 := g6.1
    rw [e6]
    exact hq 1024 τ6 ρ' g6.2
/-! enough -/
theorem enough_l {N : Nat} {K len : Nat → Nat} {a : Int32} {σ : SG} {ρ : RG} (b : BS N K len σ ρ) : kp (F_X11_enough N K len a σ ρ) (fun q => ∀ (τ : SG) (ρ' : RG), RT σ τ → kp (F_X12_enough a τ ρ') (fun q' => q.1 = q'.1)) := by
  have e40 : (40 : Int32).toInt = 40 := rfl
  unfold F_X11_enough
  refine kp_bn (at_bs (N := N) (len := len) b (kd_refl σ)) (fun o1 h1 => ?_)
  rcases h1 with ⟨rfl, n⟩ | ⟨c, j, rfl, v1, v2, hj, ej, hcj⟩
  · refine kp_some (fun τ ρ' t => ?_)
    unfold F_X12_enough
    exact kp_bn (ic_et b (et_rt b t)) (fun r1 g1 => kp_ih (fun _ => kp_some rfl) (fun z => absurd (g1.mp z) n))
  show kp (gd (isC N K c) _) _
  refine kp_gd (fun hcc => kp_bn (k_start b.1.1) (fun σ3 h3 => ?_))
  have loop : ∀ (n : Nat) (σ' : SG) (v3 : Int32), KD σ σ' → (∀ k, k ≤ 5 → σ' 40 k = σ 3 k) → 1 ≤ v3.toInt → v3.toInt ≤ 41 → kp (F_X11_enough_21 N K len a n σ' ρ c v3) (fun q => ∀ (m : Nat) (τ : SG) (ρ' : RG), HOME σ τ → kp (F_X12_enough_16 a m τ ρ' a v3) (fun q' => q.1 = q'.1)) := by
    intro n
    induction n with
    | zero => intro σ' v3 _ _ _ _; exact kp_none
    | succ n ih =>
      intro σ' v3 hd h40 hv1 hv2
      unfold F_X11_enough_21
      refine kp_gd (fun _ => kp_ih (fun d => kp_some (fun m τ ρ' hm => ?_)) (fun d => ?_))
      · cases m with
        | zero => exact kp_none
        | succ m =>
          unfold F_X12_enough_16
          exact kp_t d (kp_some rfl)
      have d' := le_i (nlt d)
      have nz : ¬ v3 = 0 := fun z => by rw [z, ti_0] at hv1; omega
      refine kp_bn2 (sim_step (d := 0) (th := v3) b (by decide) rfl ej hj hcj hcc hd ⟨by omega, by omega⟩ (Or.inr ⟨nz, rfl⟩)) (fun r5 σ5 h5 => ?_)
      have hd5 : KD σ σ5 := h5.1
      have h40' : ∀ k, k ≤ 5 → σ5 40 k = σ 3 k := fun k hk => (h5.2.1 40 k (by decide) (by decide)).trans (h40 k hk)
      -- a round of the reference
      have ref : ∀ (m : Nat) (τ : SG) (ρ' : RG) (P : Int32 × SG → Prop), HOME σ τ → ((r5 = 0 ∨ σ5 42 7 < σ5 5 0) → ∀ (m' : Nat) (τ' : SG) (x9 : Int32), HOME σ τ' → x9 = v3 + 1 → kp (F_X12_enough_16 a m' τ' ρ' a x9) P) → (¬ r5 = 0 → ¬ σ5 42 7 < σ5 5 0 → ∀ τ' : SG, P (v3, τ')) → kp (F_X12_enough_16 a m τ ρ' a v3) P := fun m τ ρ' P hm next found => by
        cases m with
        | zero => exact kp_none
        | succ m =>
          unfold F_X12_enough_16
          refine kp_f d (kp_bn2 (h5.2.2 τ ρ' 999 (by omega) hm.1 (home_le b hm h40) (home_lq b hm)) (fun r6 τ6 g6 => ?_))
          have aw : AWAY σ τ6 := away_ft hj (home_away hm) g6.1.1
          have nx : (r5 = 0 ∨ σ5 42 7 < σ5 5 0) → kp (F_X12_enough_42 a (F_X12_enough_16 a m) τ6 ρ' a v3) P := fun z => by
            unfold F_X12_enough_42 F_X12_enough_43
            exact kp_bn (home_back aw) (fun τ7 g7 => kp_t rfl (kp_nm (fun x9 h9 => next z m τ7 x9 g7.1 h9)))
          obtain ⟨-, le, -, g⟩ := g6.1
          rcases g with ⟨q, q', -, ⟨-, ww, -⟩, -⟩ | ⟨q, q', -⟩
          · have q : r5 = 1 := q
            have q' : r6 = 1 := q'
            have ww : σ5 42 7 = τ6 54 15 := ww
            refine kp_f (by rw [q']; decide) (kp_bn (k_good b hd5 aw.1) (fun r10 g10 => ?_))
            rw [← ww] at g10
            refine kp_ih (fun z => nx (Or.inr ?_)) (fun z => ?_)
            · by_cases y : σ5 42 7 < σ5 5 0
              · exact y
              · rw [if_neg y] at g10; rw [g10] at z; exact absurd z (by decide)
            · have y : ¬ σ5 42 7 < σ5 5 0 := fun y => by rw [if_pos y] at g10; exact z g10
              unfold F_X12_enough_43
              exact kp_bn (home_back aw) (fun τ7 g7 => kp_f (by decide) (kp_some (found (by rw [q]; decide) y τ7)))
          · exact kp_t q' (nx (Or.inl q))
      have nx : (r5 = 0 ∨ σ5 42 7 < σ5 5 0) → kp (F_X11_enough_61 N K len a (F_X11_enough_21 N K len a n) σ5 ρ c v3) (fun q => ∀ (m : Nat) (τ : SG) (ρ' : RG), HOME σ τ → kp (F_X12_enough_16 a m τ ρ' a v3) (fun q' => q.1 = q'.1)) := fun z => by
        unfold F_X11_enough_61
        refine kp_gd (fun _ => kp_nm (fun x7 h7 => ?_))
        have e7 : x7.toInt = v3.toInt + 1 := by rw [h7, ti_add (by rw [ti_1]; omega) (by rw [ti_1]; omega), ti_1]
        refine kp_mono (ih σ5 x7 hd5 h40' (by omega) (by omega)) (fun q hq m τ ρ' hm => ref m τ ρ' _ hm (fun _ m' τ' x9 hm' h9 => ?_) (fun y y' => ?_))
        · rw [h9, ← h7]; exact hq m' τ' ρ' hm'
        · rcases z with z | z
          · exact absurd z y
          · exact absurd z y'
      refine kp_ih (fun z => nx (Or.inl z)) (fun z => kp_ih (fun z' => nx (Or.inr z')) (fun z' => kp_some (fun m τ ρ' hm => ref m τ ρ' _ hm (fun y => ?_) (fun _ _ τ' => rfl))))
      rcases y with y | y
      · exact absurd y z
      · exact absurd y z'
  refine kp_mono (loop 1024 σ3 1 h3.1 h3.2 (by decide) (by decide)) (fun q hq τ ρ' t => ?_)
  unfold F_X12_enough
  exact kp_bn (ic_et b (et_rt b t)) (fun r1 g1 => kp_f (g1.mpr ⟨v1, v2⟩) (kp_bn (home_keeps b t) (fun τ3 g3 => hq 1024 τ3 ρ' g3)))
