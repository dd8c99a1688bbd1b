/-! PART 7604.pe: by hand: the two parsers side by side: clauses, board -/
theorem hst_pos {c : Int32} {t z : Nat} (h : hst c t = some z) : 1 ≤ z := by
  unfold hst at h
  by_cases a : 0 ≤ c.toInt
  · rw [if_pos a] at h
    by_cases b : t < 30
    · rw [if_pos b] at h; cases h; omega
    · rw [if_neg b] at h; cases h
  · rw [if_neg a] at h
    by_cases a' : c = -1
    · rw [if_pos a'] at h
      by_cases b : 1 ≤ t
      · rw [if_pos b] at h; cases h; exact b
      · rw [if_neg b] at h; cases h
    · rw [if_neg a'] at h
      by_cases b : 2 ≤ t
      · rw [if_pos b] at h; cases h; omega
      · rw [if_neg b] at h; cases h
theorem hrun_0 {f : Nat → Int32} {n i : Nat} (h : hrun f n i 0 = some 0) : n = 0 := by
  cases n with
  | zero => rfl
  | succ n =>
    rw [hrun_app] at h
    cases q : hrun f n i 0 with
    | none => rw [q] at h; cases h
    | some z =>
      rw [q] at h
      have := hst_pos (show hst _ z = some 0 from h)
      omega
/-- a clause is added -/
theorem ps_add {fh : Nat → Int32} {b : Nat} {e o : Int32} {π δ : Int} {ca : Nat} {σ τ σ1 τ1 : SG} {ρ : RG} {p am r : Int32} {cc : Nat} (h : PS fh b e o π (δ + 1) 1 ca σ ρ τ) (hδ : 0 ≤ δ) (h7 : (σ 29 7).toInt = (cc : Int)) (hT : TM p am r)
    (hc : ∀ r k, ¬ (r = 29 ∧ k = 2) → ¬ (r = 30 ∧ k = ca) → ¬ (r = 31 ∧ k = ca) → ¬ (r = 32 ∧ k = ca) → σ1 r k = σ r k) (v2 : (σ1 29 2).toInt = (ca : Int) + 1) (v30 : σ1 30 ca = p) (v31 : σ1 31 ca = am) (v32 : σ1 32 ca = σ 29 7)
    (hr : ∀ q k, ¬ (q = 55 ∧ k = 204 + b) → ¬ (q = 55 ∧ k = 209 + 140 * b + cc + ca) → τ1 q k = τ q k) (w4 : (τ1 55 (204 + b)).toInt = (cc : Int) + (ca : Int) + 1) (w5 : τ1 55 (209 + 140 * b + cc + ca) = r) (hb : cc + ca < 140) : PS fh b e o π δ 0 (ca + 1) σ1 ρ τ1 := by
  obtain ⟨⟨⟨s1, s2', s3, s4, s5, s6, s7⟩, hot⟩, ⟨p1, p2, p3, p4⟩, ⟨w, ho⟩, ⟨h4, h5⟩, cc', ⟨c1, c2, c3, c4⟩, h6, g7⟩ := h
  have ec : cc' = cc := by omega
  subst ec
  have u := s5.2
  have hg : ∀ k, k < cc' + ca → τ1 55 (209 + 140 * b + k) = τ 55 (209 + 140 * b + k) := fun k hk => hr _ _ (by omega) (by omega)
  have f33 : σ1 33 = σ 33 := funext (fun k => hc 33 k (by omega) (by omega) (by omega) (by omega))
  have f30 : ∀ k, k < ca → σ1 30 k = σ 30 k := fun k hk => hc _ _ (by omega) (by omega) (by omega) (by omega)
  have f31 : ∀ k, k < ca → σ1 31 k = σ 31 k := fun k hk => hc _ _ (by omega) (by omega) (by omega) (by omega)
  have f32 : ∀ k, k < ca → σ1 32 k = σ 32 k := fun k hk => hc _ _ (by omega) (by omega) (by omega) (by omega)
  have n32 : (σ1 32 ca).toNatClampNeg = cc' := by rw [v32]; exact cn c2
  have hfr : fre (σ1 32) (ca + 1) = cc' := by
    unfold fre
    rw [if_neg (by omega)]
    exact n32
  obtain ⟨g7a, g7b, g7c⟩ := g7
  refine ⟨⟨⟨fun k hk => ?_, s2', by rw [hc 29 9 (by omega) (by omega) (by omega) (by omega)]; exact s3, by rw [hr 54 7 (by omega) (by omega)]; exact s4, s5, by rw [hr 54 5 (by omega) (by omega)]; exact s6, s7⟩, fun k hk => ?_⟩, ⟨by rw [hc 29 10 (by omega) (by omega) (by omega) (by omega), hr 54 6 (by omega) (by omega)]; exact p1, by rw [hc 29 10 (by omega) (by omega) (by omega) (by omega)]; exact p2, by rw [hc 29 10 (by omega) (by omega) (by omega) (by omega)]; exact p3, by rw [hc 29 10 (by omega) (by omega) (by omega) (by omega)]; exact p4⟩, ⟨by rw [hr 54 8 (by omega) (by omega)]; exact w, by rw [hr 54 9 (by omega) (by omega)]; exact ho⟩, ⟨by rw [hc 29 0 (by omega) (by omega) (by omega) (by omega), hr 55 (194 + b) (by omega) (by omega)]; exact h4, by rw [hc 29 1 (by omega) (by omega) (by omega) (by omega), hr 55 (199 + b) (by omega) (by omega)]; exact h5⟩, cc', ⟨by rw [v2]; omega, by rw [hc 29 7 (by omega) (by omega) (by omega) (by omega)]; exact c2, by rw [w4]; omega, by rw [hc 29 10 (by omega) (by omega) (by omega) (by omega)]; omega⟩, ?_, ?_⟩
  · rw [hc 10 k (by omega) (by omega) (by omega) (by omega), hr 55 (94 + k) (by omega) (by omega)]; exact s1 k hk
  · obtain ⟨o2, o3, o4, o5⟩ := hk
    rw [hr 55 k (by omega) (by omega)]; exact hot k ⟨o2, o3, o4, o5⟩
  · intro i hi
    by_cases e : i = ca
    · subst e
      rw [fre_congr f32 (Nat.le_refl _), n32, v30, v31, f33]
      refine ⟨⟨g7a, by rw [v32]; exact ⟨by omega, by omega⟩⟩, fun q q1 q2 => ?_, ?_, g7c⟩
      · show TR (σ 33 q) (τ1 55 (209 + 140 * b + (q + i)))
        rw [hg (q + i) (by omega)]
        exact g7b q q1 q2
      · show TM p am (τ1 55 (209 + 140 * b + (cc' + i)))
        rw [show 209 + 140 * b + (cc' + i) = 209 + 140 * b + cc' + i by omega, w5]
        exact hT
    · have := cdr_congr (cc := cc') (cd' := σ1 33) (pu' := σ1 30) (am' := σ1 31) (en' := σ1 32) (g' := fun k => τ1 55 (209 + 140 * b + k)) h6 g7a (fun k _ => by rw [f33]) f30 f31 f32 hg
      exact this i (by omega)
  · refine ⟨by rw [hfr]; exact Nat.le_refl _, fun q q1 q2 => by rw [hfr] at q1; omega, ?_⟩
    rw [hfr, Nat.sub_self]
    rfl
theorem sim_adding {fh : Nat → Int32} {b : Nat} {e p kd : Int32} {π δ : Int} {ca : Nat} {σ τ : SG} {ρ ρ' : RG} (h : PS fh b e 0 π δ 0 ca σ ρ τ) (h0 : 0 ≤ δ) (hca : ca < 10) (hk : (p = 0 ∧ kd = -10) ∨ (p = 1 ∧ kd = -200)) : kp (F_X0_readAdding p σ ρ) (fun q => kp (bn2 (F_X12_figures τ ρ') fun r2 σ2 => bn (F_X12_must (32 : Int32) σ2 ρ') fun σ3 => bn (F_X12_some σ3 ρ') fun σ4 => nm (kd - r2) fun x5 => bn (F_X12_emits x5 σ4 ρ') fun σ6 => some σ6) (fun q' => OU fh b e 0 π δ 0 (ca + 1) ρ q q')) := by
  have wrest : ∀ (σ0 τ2 : SG) (r2 : Int32), FL fh b σ0 τ2 → kp (bn (F_X12_must (32 : Int32) τ2 ρ') fun σ3 => bn (F_X12_some σ3 ρ') fun σ4 => nm (kd - r2) fun x5 => bn (F_X12_emits x5 σ4 ρ') fun σ6 => some σ6) (fun q' => OU fh b e 0 π δ 0 (ca + 1) ρ (0, σ0) q') := fun σ0 τ2 r2 z =>
    kp_bn (w_must z.1) (fun τ3 g3 => kp_bn (w_someX g3.1) (fun τ4 g4 => kp_nm (fun x5 _ => kp_bn (w_emits g4.1) (fun τ6 g6 => kp_some (Or.inr ⟨rfl, ws_fl z (ws_trans (ws_trans g3 g4) g6)⟩)))))
  unfold F_X0_readAdding
  refine kp_bn2 (sim_num (ρ' := ρ') h) (fun r1 σ1 h1 => kp_ih (fun c1 => kp_some (kp_bn2 h1 (fun r2 τ2 g2 => ?_))) (fun c1 => ?_))
  · rcases g2 with ⟨z, _⟩ | ⟨_, z⟩
    · have z : r1 = 1 := z
      rw [z] at c1; exact absurd c1 (by decide)
    · exact wrest σ1 τ2 r2 z
  intro q hq
  refine kp_bn2 h1 (fun r2 τ2 g2 => ?_)
  rcases g2 with ⟨_, z1, z2, z3⟩ | ⟨z, _⟩
  rotate_left
  · exact absurd z c1
  have z1 : σ1 29 11 = r2 := z1
  have z2 : rg r2 0 99 := z2
  have z3 : PS fh b e 0 π (δ + 1) 0 ca σ1 ρ τ2 := z3
  have P1 : kp (bn2 (F_X0_readSign (32 : Int32) σ1 ρ) fun r3 σ3 => if r3 = 0 then some ((0 : Int32), σ3) else bn2 (F_X0_readEither (0 : Int32) σ3 ρ) fun r5 σ5 => if r5 = 0 then some ((0 : Int32), σ5) else if (σ5 29 2) < (10 : Int32) then gd (inb (σ5 29 2) 10) <| gd (isb p) <| nm (s2 σ5 30 ((σ5 29 2)).toNatClampNeg p) fun σ10 => gd (inb (σ10 29 2) 10) <| nm (s2 σ10 31 ((σ10 29 2)).toNatClampNeg (σ1 29 11)) fun σ13 => gd (inb (σ13 29 2) 10) <| nm (s2 σ13 32 ((σ13 29 2)).toNatClampNeg (σ13 29 7)) fun σ16 => nm ((σ16 29 2) + (1 : Int32)) fun x17 => nm (s2 σ16 29 2 x17) fun σ19 => some ((1 : Int32), σ19) else some ((0 : Int32), σ5))
      (fun q => kp (bn (F_X12_must (32 : Int32) τ2 ρ') fun σ3 => bn (F_X12_some σ3 ρ') fun σ4 => nm (kd - r2) fun x5 => bn (F_X12_emits x5 σ4 ρ') fun σ6 => some σ6) (fun q' => OU fh b e 0 π δ 0 (ca + 1) ρ q q')) := by
    refine kp_bn2 (sim_sign (ρ' := ρ') z3 (by decide)) (fun r3 σ3 h3 => kp_ih (fun c3 => kp_some (kp_bn h3 (fun τ3 g3 => ?_))) (fun c3 => ?_))
    · rcases g3 with ⟨z, _⟩ | ⟨_, z⟩
      · have z : r3 = 1 := z
        rw [z] at c3; exact absurd c3 (by decide)
      · have z : FL fh b σ3 τ3 := z
        exact kp_bn (w_someX z.1) (fun τ4 g4 => kp_nm (fun x5 _ => kp_bn (w_emits g4.1) (fun τ6 g6 => kp_some (Or.inr ⟨rfl, ws_fl z (ws_trans g4 g6)⟩))))
    intro q hq
    refine kp_bn h3 (fun τ3 g3 => ?_)
    rcases g3 with ⟨_, y3, _⟩ | ⟨z, _⟩
    rotate_left
    · exact absurd z c3
    have y3 : PS fh b e 0 π (δ + 1 + 1) 0 ca σ3 ρ τ3 := y3
    have P2 : kp (bn2 (F_X0_readEither (0 : Int32) σ3 ρ) fun r5 σ5 => if r5 = 0 then some ((0 : Int32), σ5) else if (σ5 29 2) < (10 : Int32) then gd (inb (σ5 29 2) 10) <| gd (isb p) <| nm (s2 σ5 30 ((σ5 29 2)).toNatClampNeg p) fun σ10 => gd (inb (σ10 29 2) 10) <| nm (s2 σ10 31 ((σ10 29 2)).toNatClampNeg (σ1 29 11)) fun σ13 => gd (inb (σ13 29 2) 10) <| nm (s2 σ13 32 ((σ13 29 2)).toNatClampNeg (σ13 29 7)) fun σ16 => nm ((σ16 29 2) + (1 : Int32)) fun x17 => nm (s2 σ16 29 2 x17) fun σ19 => some ((1 : Int32), σ19) else some ((0 : Int32), σ5))
        (fun q => kp (bn (F_X12_some τ3 ρ') fun σ4 => nm (kd - r2) fun x5 => bn (F_X12_emits x5 σ4 ρ') fun σ6 => some σ6) (fun q' => OU fh b e 0 π δ 0 (ca + 1) ρ q q')) := by
      refine kp_bn2 (sim_some (ρ' := ρ') (by omega) y3) (fun r5 σ5 h5 => kp_ih (fun c5 => kp_some (kp_bn h5 (fun τ4 g4 => ?_))) (fun c5 => ?_))
      · rcases g4 with ⟨z, _⟩ | ⟨_, z⟩
        · have z : r5 = 1 := z
          rw [z] at c5; exact absurd c5 (by decide)
        · have z : FL fh b σ5 τ4 := z
          exact kp_nm (fun x5 _ => kp_bn (w_emits z.1) (fun τ6 g6 => kp_some (Or.inr ⟨rfl, ws_fl z g6⟩)))
      intro q hq
      refine kp_bn h5 (fun τ4 g4 => ?_)
      rcases g4 with ⟨_, y4⟩ | ⟨z, _⟩
      rotate_left
      · exact absurd z c5
      have y4 : PS fh b e 0 π (δ + 1 + 1) 1 ca σ5 ρ τ4 := y4
      obtain ⟨⟨⟨-, -, -, -, s5, s6, s7⟩, -⟩, ⟨-, -, -, p4⟩, ⟨w, -⟩, -, cc, ⟨c1', c2, c3', c4⟩, -, -⟩ := y4
      have u := s5.2
      have P3 : kp (if (σ5 29 2) < (10 : Int32) then gd (inb (σ5 29 2) 10) <| gd (isb p) <| nm (s2 σ5 30 ((σ5 29 2)).toNatClampNeg p) fun σ10 => gd (inb (σ10 29 2) 10) <| nm (s2 σ10 31 ((σ10 29 2)).toNatClampNeg (σ1 29 11)) fun σ13 => gd (inb (σ13 29 2) 10) <| nm (s2 σ13 32 ((σ13 29 2)).toNatClampNeg (σ13 29 7)) fun σ16 => nm ((σ16 29 2) + (1 : Int32)) fun x17 => nm (s2 σ16 29 2 x17) fun σ19 => some ((1 : Int32), σ19) else some ((0 : Int32), σ5)) (fun q => q.1 = 1 ∧ (∀ r k, ¬ (r = 29 ∧ k = 2) → ¬ (r = 30 ∧ k = ca) → ¬ (r = 31 ∧ k = ca) → ¬ (r = 32 ∧ k = ca) → q.2 r k = σ5 r k) ∧ (q.2 29 2).toInt = (ca : Int) + 1 ∧ q.2 30 ca = p ∧ q.2 31 ca = r2 ∧ q.2 32 ca = σ5 29 7) := by
        have e10 : (10 : Int32).toInt = 10 := rfl
        refine kp_t (i_lt (by rw [e10, c1']; omega)) (kp_gd (fun _ => kp_gd (fun _ => kp_nm (fun σ10 k10 => kp_gd (fun _ => kp_nm (fun σ13 k13 => kp_gd (fun _ => kp_nm (fun σ16 k16 => kp_nm (fun x17 k17 => kp_nm (fun σ19 k19 => kp_some ?_))))))))))
        rw [cn c1'] at k10
        have a10 : σ10 29 2 = σ5 29 2 := by rw [k10, sn (by omega)]
        rw [a10, cn c1', z1] at k13
        have a13 : σ13 29 2 = σ5 29 2 := by rw [k13, sn (by omega), a10]
        have b13 : σ13 29 7 = σ5 29 7 := by rw [k13, sn (by omega), k10, sn (by omega)]
        rw [a13, cn c1', b13] at k16
        have a16 : σ16 29 2 = σ5 29 2 := by rw [k16, sn (by omega), a13]
        rw [a16] at k17
        refine ⟨rfl, fun r k n1 n2 n3 n4 => ?_, ?_, ?_, ?_, ?_⟩
        · show σ19 r k = _
          rw [k19, sn n1, k16, sn n4, k13, sn n3, k10, sn n2]
        · show (σ19 29 2).toInt = _
          rw [k19, sv, k17, ti_add (by rw [ti_1]; omega) (by rw [ti_1]; omega), ti_1, c1']
        · show σ19 30 ca = _
          rw [k19, sn (by omega), k16, sn (by omega), k13, sn (by omega), k10, sv]
        · show σ19 31 ca = _
          rw [k19, sn (by omega), k16, sn (by omega), k13, sv]
        · show σ19 32 ca = _
          rw [k19, sn (by omega), k16, sv]
      obtain ⟨q1, q2, q3, q4, q5, q6⟩ := P3 q hq
      refine kp_nm (fun x5 g5 => ?_)
      refine kp_bn (Q := fun q' => OU fh b e 0 π δ 0 (ca + 1) ρ q q') ?_ (fun τ6 g6 => kp_some g6)
      unfold F_X12_emits
      have e1 : (1 : Int32).toInt = 1 := rfl
      have e140 : (140 : Int32).toInt = 140 := rfl
      have e209 : (209 : Int32).toInt = 209 := rfl
      have e204 : (204 : Int32).toInt = 204 := rfl
      refine kp_t w (kp_nm (fun y2 i2 => kp_nm (fun y3 i3 => kp_nm (fun y4' i4 => ?_))))
      have v2 : y2.toInt = 140 * (b : Int) := by rw [i2, Int32.toInt_mul, e140, s6, bmod_id (by omega) (by omega)]
      have v3 : y3.toInt = 209 + 140 * (b : Int) := by rw [i3, ti_add (by omega) (by omega), e209, v2]
      have v4 : y4'.toInt = 204 + (b : Int) := by rw [i4, ti_add (by omega) (by omega), e204, s6]
      rw [cn (z := 204 + b) (by omega)]
      refine kp_gd (fun _ => kp_nm (fun y6 i6 => kp_gd (fun _ => kp_nm (fun τ9 i9 => kp_nm (fun y10 i10 => ?_)))))
      have v6 : y6.toInt = 209 + 140 * (b : Int) + (cc : Int) + (ca : Int) := by rw [i6, ti_add (by omega) (by omega), v3, c3']; omega
      rw [cn (z := 209 + 140 * b + cc + ca) (by omega)] at i9
      have v10 : y10.toInt = 204 + (b : Int) := by rw [i10, i9, sn (by omega), ti_add (by omega) (by omega), e204, s6]
      rw [cn (x := y10) (z := 204 + b) (by omega)]
      refine kp_gd (fun _ => kp_nm (fun y12 i12 => kp_gd (fun _ => kp_nm (fun τ15 i15 => kp_some (Or.inl ⟨q1, ?_⟩)))))
      have v12 : y12.toInt = (cc : Int) + (ca : Int) + 1 := by rw [i12, i9, sn (by omega), ti_add (by omega) (by omega), c3', e1]
      refine ps_add (p := p) (am := r2) (r := x5) (cc := cc) (ps_lo y4 (Int.le_refl _) (by omega)) h0 c2 ⟨z2, ?_⟩ q2 q3 q4 q5 q6 (fun r k n n' => by rw [i15, sn n, i9, sn n']) (by rw [i15, sv]; exact v12) (by rw [i15, sn (by omega), i9, sv]) (by omega)
      rcases hk with ⟨k1, k2⟩ | ⟨k1, k2⟩
      · exact Or.inl ⟨k1, by rw [g5, k2]⟩
      · exact Or.inr ⟨k1, by rw [g5, k2]⟩
    exact P2 q hq
  exact P1 q hq
/-- thin, end: a number of the board's -/
theorem ps_tell {fh : Nat → Int32} {b : Nat} {e o v : Int32} {π δ : Int} {t ca j : Nat} {σ τ : SG} {ρ : RG} (h : PS fh b e o π δ t ca σ ρ τ) (hj : j < 2) : PS fh b e o π δ t ca (s2 σ 29 j v) ρ (s2 τ 55 (194 + 5 * j + b) v) := by
  obtain ⟨⟨⟨s1, s2', s3, s4, s5, s6, s7⟩, hot⟩, ⟨p1, p2, p3, p4⟩, ⟨w, ho⟩, ⟨h4, h5⟩, cc, ⟨c1, c2, c3, c4⟩, h6, h7⟩ := h
  have u := s5.2
  have f : ∀ r, r ≠ 29 → s2 σ 29 j v r = σ r := fun r hr => s2_ne r hr
  have g : ∀ k, s2 τ 55 (194 + 5 * j + b) v 55 (209 + 140 * b + k) = τ 55 (209 + 140 * b + k) := fun k => sn (by omega)
  refine ⟨⟨⟨fun k hk => ?_, s2', by rw [sn (by omega)]; exact s3, by rw [sn (by omega)]; exact s4, s5, by rw [sn (by omega)]; exact s6, s7⟩, fun k hk => ?_⟩, ⟨by rw [sn (by omega), sn (by omega)]; exact p1, by rw [sn (by omega)]; exact p2, by rw [sn (by omega)]; exact p3, by rw [sn (by omega)]; exact p4⟩, ⟨by rw [sn (by omega)]; exact w, by rw [sn (by omega)]; exact ho⟩, ⟨?_, ?_⟩, cc, ⟨by rw [sn (by omega)]; exact c1, by rw [sn (by omega)]; exact c2, by rw [sn (by omega)]; exact c3, by rw [sn (by omega)]; exact c4⟩, ?_, ?_⟩
  · rw [sn (by omega), sn (by omega)]; exact s1 k hk
  · obtain ⟨o2, o3, o4, o5⟩ := hk
    rw [sn (by omega)]; exact hot k ⟨o2, o3, o4, o5⟩
  · rcases (show j = 0 ∨ j = 1 by omega) with rfl | rfl
    · rw [sv, show 194 + 5 * 0 + b = 194 + b by omega, sv]
    · rw [sn (by omega), sn (by omega)]; exact h4
  · rcases (show j = 0 ∨ j = 1 by omega) with rfl | rfl
    · rw [sn (by omega), sn (by omega)]; exact h5
    · rw [sv, show 194 + 5 * 1 + b = 199 + b by omega, sv]
  · rw [f 33 (by decide), f 30 (by decide), f 31 (by decide), f 32 (by decide)]
    simp only [g]
    exact h6
  · rw [f 33 (by decide), f 32 (by decide)]
    simp only [g]
    exact h7
theorem sim_tell {fh : Nat → Int32} {b w j : Nat} {e a1 : Int32} {π : Int} {ca : Nat} {σ τ : SG} {ρ ρ' : RG} (hw : w < 6) (hj : j < 2) (ha : a1.toInt = 194 + 5 * (j : Int)) (h : PS fh b e 0 π 0 0 ca σ ρ τ) : kp (bn2 (F_X0_readWord w σ ρ) fun r3 σ3 => if r3 = 0 then some ((0 : Int32), σ3) else bn2 (F_X0_readNumber σ3 ρ) fun r5 σ5 => if r5 = 0 then some ((0 : Int32), σ5) else nm (s2 σ5 29 j (σ5 29 11)) fun σ8 => some ((1 : Int32), σ8)) (fun q => kp (F_X12_tellsHere a1 w τ ρ') (fun q' => OU fh b e 0 π 0 0 ca ρ q q')) := by
  have s7 := h.1.1.2.2.2.2.2.2
  unfold F_X12_tellsHere
  refine kp_bn2 (sim_word (ρ' := ρ') hw 1024 σ τ 0 0 (by decide) (by decide) (Int.le_refl _) h) (fun r3 σ3 h3 => kp_ih (fun c3 => kp_some (kp_bn h3 (fun τ3 g3 => ?_))) (fun c3 => ?_))
  · rcases g3 with ⟨z, _⟩ | ⟨_, z⟩
    · have z : r3 = 1 := z
      rw [z] at c3; exact absurd c3 (by decide)
    · have z : FL fh b σ3 τ3 := z
      exact kp_bn2 (w_figures z.1) (fun r4 τ4 g4 => kp_f g4.1 (kp_some (Or.inr ⟨rfl, ws_fl z g4⟩)))
  intro q hq
  refine kp_bn h3 (fun τ3 g3 => ?_)
  rcases g3 with ⟨_, y3⟩ | ⟨z, _⟩
  rotate_left
  · exact absurd z c3
  have y3 : PS fh b e 0 π 0 0 ca σ3 ρ τ3 := y3
  have P2 : kp (bn2 (F_X0_readNumber σ3 ρ) fun r5 σ5 => if r5 = 0 then some ((0 : Int32), σ5) else nm (s2 σ5 29 j (σ5 29 11)) fun σ8 => some ((1 : Int32), σ8)) (fun q => kp (bn2 (F_X12_figures τ3 ρ') fun r2 σ2 => if (σ2 54 8) = 0 then nm (a1 + (σ2 54 5)) fun x4 => gd (inb x4 909) <| nm (s2 σ2 55 (x4).toNatClampNeg r2) fun σ7 => some σ7 else some σ2) (fun q' => OU fh b e 0 π 0 0 ca ρ q q')) := by
    refine kp_bn2 (sim_num (ρ' := ρ') y3) (fun r5 σ5 h5 => kp_ih (fun c5 => kp_some (kp_bn2 h5 (fun r4 τ4 g4 => ?_))) (fun c5 => kp_nm (fun σ8 h8 => kp_some (kp_bn2 h5 (fun r4 τ4 g4 => ?_)))))
    · rcases g4 with ⟨z, _⟩ | ⟨_, z⟩
      · have z : r5 = 1 := z
        rw [z] at c5; exact absurd c5 (by decide)
      · have z : FL fh b σ5 τ4 := z
        exact kp_f z.1 (kp_some (Or.inr ⟨rfl, z⟩))
    · rcases g4 with ⟨_, z1, z2, z3⟩ | ⟨z, _⟩
      rotate_left
      · exact absurd z c5
      have z1 : σ5 29 11 = r4 := z1
      have z3 : PS fh b e 0 π (0 + 1) 0 ca σ5 ρ τ4 := z3
      refine kp_t z3.2.2.1.1 (kp_nm (fun x4 g4 => kp_gd (fun _ => kp_nm (fun τ7 g7 => kp_some (Or.inl ⟨rfl, ?_⟩)))))
      have s6 := z3.1.1.2.2.2.2.2.1
      have e4 : x4.toInt = 194 + 5 * (j : Int) + (b : Int) := by rw [g4, ti_add (by omega) (by omega), ha, s6]
      rw [cn (z := 194 + 5 * j + b) (by omega)] at g7
      show PS fh b e 0 π 0 0 ca σ8 ρ τ7
      rw [h8, g7, z1]
      exact ps_lo (ps_tell z3 hj) (Int.le_refl _) (by omega)
  exact P2 q hq
theorem sim_much {fh : Nat → Int32} {b w : Nat} {e p kd : Int32} {π : Int} {ca : Nat} {σ τ : SG} {ρ ρ' : RG} (hw : w < 6) (hca : ca < 10) (hk : (p = 0 ∧ kd = -10) ∨ (p = 1 ∧ kd = -200)) (h : PS fh b e 0 π 0 0 ca σ ρ τ) : kp (bn2 (F_X0_readWord w σ ρ) fun r9 σ9 => if r9 = 0 then some ((0 : Int32), σ9) else bn2 (F_X0_readAdding p σ9 ρ) fun r11 σ11 => if r11 = 0 then some ((0 : Int32), σ11) else some ((1 : Int32), σ11)) (fun q => kp (F_X12_much kd w τ ρ') (fun q' => OU fh b e 0 π 0 0 (ca + 1) ρ q q')) := by
  unfold F_X12_much
  refine kp_bn2 (sim_word (ρ' := ρ') hw 1024 σ τ 0 0 (by decide) (by decide) (Int.le_refl _) h) (fun r3 σ3 h3 => kp_ih (fun c3 => kp_some (kp_bn h3 (fun τ3 g3 => ?_))) (fun c3 => ?_))
  · rcases g3 with ⟨z, _⟩ | ⟨_, z⟩
    · have z : r3 = 1 := z
      rw [z] at c3; exact absurd c3 (by decide)
    · have z : FL fh b σ3 τ3 := z
      exact kp_bn2 (w_figures z.1) (fun r4 τ4 g4 => kp_bn (w_must g4.1) (fun τ5 g5 => kp_bn (w_someX g5.1) (fun τ6 g6 => kp_nm (fun x _ => kp_bn (w_emits g6.1) (fun τ7 g7 => kp_some (Or.inr ⟨rfl, ws_fl z (ws_trans (ws_trans (ws_trans g4 g5) g6) g7)⟩))))))
  intro q hq
  refine kp_bn h3 (fun τ3 g3 => ?_)
  rcases g3 with ⟨_, y3⟩ | ⟨z, _⟩
  rotate_left
  · exact absurd z c3
  have y3 : PS fh b e 0 π 0 0 ca σ3 ρ τ3 := y3
  have P2 : kp (bn2 (F_X0_readAdding p σ3 ρ) fun r11 σ11 => if r11 = 0 then some ((0 : Int32), σ11) else some ((1 : Int32), σ11)) (fun q => kp (bn2 (F_X12_figures τ3 ρ') fun r2 σ2 => bn (F_X12_must (32 : Int32) σ2 ρ') fun σ3 => bn (F_X12_some σ3 ρ') fun σ4 => nm (kd - r2) fun x5 => bn (F_X12_emits x5 σ4 ρ') fun σ6 => some σ6) (fun q' => OU fh b e 0 π 0 0 (ca + 1) ρ q q')) := by
    refine kp_bn2 (sim_adding (ρ' := ρ') y3 (Int.le_refl _) hca hk) (fun r11 σ11 h11 => kp_ih (fun c => kp_some (kp_mono h11 (fun q' hq' => hq'.elim (fun z => ?_) (fun z => Or.inr ⟨rfl, z.2⟩)))) (fun c => kp_some (kp_mono h11 (fun q' hq' => hq'.elim (fun z => Or.inl ⟨rfl, z.2⟩) (fun z => absurd z.1 c)))))
    have z1 : r11 = 1 := z.1
    rw [z1] at c; exact absurd c (by decide)
  exact P2 q hq
/-- a clause -/
def OC (fh : Nat → Int32) (b : Nat) (e : Int32) (π : Int) (ca : Nat) (ρ : RG) (q : Int32 × SG) (τ' : SG) : Prop := (q.1 = 1 ∧ ∃ ca', ca' ≤ ca + 1 ∧ PS fh b e 0 π 0 0 ca' q.2 ρ τ') ∨ (q.1 = 0 ∧ FL fh b q.2 τ')
theorem ou_oc {fh : Nat → Int32} {b : Nat} {e : Int32} {π : Int} {ca ca' : Nat} {ρ : RG} {q : Int32 × SG} {τ' : SG} (hc : ca' ≤ ca + 1) (h : OU fh b e 0 π 0 0 ca' ρ q τ') : OC fh b e π ca ρ q τ' := h.elim (fun h => Or.inl ⟨h.1, ca', hc, h.2⟩) Or.inr
theorem sim_clause {fh : Nat → Int32} {b : Nat} {e : Int32} {π : Int} {ca : Nat} {σ τ : SG} {ρ ρ' : RG} (hca : ca < 10) (h : PS fh b e 0 π 0 0 ca σ ρ τ) : kp (F_X0_readClause σ ρ) (fun q => kp (F_X12_clauseHere τ ρ') (fun q' => OC fh b e π ca ρ q q')) := by
  have i1 := ps_is h (c := 101) (by decide)
  have i2 := ps_is h (c := 112) (by decide)
  have i3 := ps_is h (c := 115) (by decide)
  have i4 := ps_is h (c := 116) (by decide)
  unfold F_X0_readClause
  refine kp_bn (ps_next h) (fun r1 h1 => ?_)
  have y : ∀ (c : Int32), (cN σ (σ 29 10) = c ↔ cH τ (τ 54 6) = c) → ∀ r : Int32, r = cH τ (τ 54 6) → (r1 = c ↔ r = c) := fun c i r hr => by rw [h1, hr]; exact i
  refine kp_ih (fun c => ?_) (fun c => kp_ih (fun d => ?_) (fun d => kp_ih (fun f => ?_) (fun f => kp_ih (fun g => ?_) (fun g => kp_some ?_))))
  · refine kp_mono (sim_tell (ρ' := ρ') (w := 1) (j := 1) (a1 := 199) (by decide) (by decide) rfl h) (fun q hq => ?_)
    unfold F_X12_clauseHere
    exact kp_bn (ps_here h) (fun r hr => kp_t ((y _ i1.1 r hr).mp c) (kp_bn hq (fun τ3 g3 => kp_some (ou_oc (by omega) g3))))
  · refine kp_mono (sim_much (ρ' := ρ') (w := 3) (p := 1) (kd := -200) (by decide) hca (Or.inr ⟨rfl, rfl⟩) h) (fun q hq => ?_)
    unfold F_X12_clauseHere
    exact kp_bn (ps_here h) (fun r hr => kp_f (fun z => c ((y _ i1.1 r hr).mpr z)) (kp_t ((y _ i2.1 r hr).mp d) (kp_bn hq (fun τ3 g3 => kp_some (ou_oc (Nat.le_refl _) g3)))))
  · refine kp_mono (sim_much (ρ' := ρ') (w := 2) (p := 0) (kd := -10) (by decide) hca (Or.inl ⟨rfl, rfl⟩) h) (fun q hq => ?_)
    unfold F_X12_clauseHere
    exact kp_bn (ps_here h) (fun r hr => kp_f (fun z => c ((y _ i1.1 r hr).mpr z)) (kp_f (fun z => d ((y _ i2.1 r hr).mpr z)) (kp_t ((y _ i3.1 r hr).mp f) (kp_bn hq (fun τ3 g3 => kp_some (ou_oc (Nat.le_refl _) g3))))))
  · refine kp_mono (sim_tell (ρ' := ρ') (w := 0) (j := 0) (a1 := 194) (by decide) (by decide) rfl h) (fun q hq => ?_)
    unfold F_X12_clauseHere
    exact kp_bn (ps_here h) (fun r hr => kp_f (fun z => c ((y _ i1.1 r hr).mpr z)) (kp_f (fun z => d ((y _ i2.1 r hr).mpr z)) (kp_f (fun z => f ((y _ i3.1 r hr).mpr z)) (kp_t ((y _ i4.1 r hr).mp g) (kp_bn hq (fun τ3 g3 => kp_some (ou_oc (by omega) g3)))))))
  · unfold F_X12_clauseHere
    exact kp_bn (ps_here h) (fun r hr => kp_f (fun z => c ((y _ i1.1 r hr).mpr z)) (kp_f (fun z => d ((y _ i2.1 r hr).mpr z)) (kp_f (fun z => f ((y _ i3.1 r hr).mpr z)) (kp_f (fun z => g ((y _ i4.1 r hr).mpr z)) (kp_nm (fun τ8 g8 => kp_some (Or.inr ⟨rfl, ps_fl h (by rw [g8, sv]; decide) (by show σ 29 10 = _; rw [g8, sn (by omega)]; exact h.2.1.1) (by rw [g8, s2_ne 55 (by decide)])⟩)))))))
