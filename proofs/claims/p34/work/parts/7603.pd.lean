/-! PART 7603.pd: by hand: the two parsers side by side: a factor, every, some; a clause that adds -/
theorem ou_lo {fh : Nat → Int32} {b : Nat} {e o : Int32} {π π' δ δ' : Int} {t ca : Nat} {ρ : RG} {q : Int32 × SG} {τ' : SG} (h : OU fh b e o π δ t ca ρ q τ') (a : π' ≤ π) (c : δ' ≤ δ) : OU fh b e o π' δ' t ca ρ q τ' := h.elim (fun h => Or.inl ⟨h.1, ps_lo h.2 a c⟩) Or.inr
def RW (ρ' : RG) (R' : SG → RG → Option SG) : Prop := ∀ τ : SG, ¬ τ 54 8 = 0 → kp (R' τ ρ') (fun q => WS τ q)
theorem w_everyB {ρ' : RG} {R' : SG → RG → Option SG} (hw : RW ρ' R') : RW ρ' (F_X12_every_B R') := by
  intro τ w
  unfold F_X12_every_B
  exact kp_bn (hw τ w) (fun σ1 h1 => kp_mono (w_every4 h1.1) (fun q h => ws_trans h1 h))
theorem w_someB {ρ' : RG} {R' : SG → RG → Option SG} (hw : RW ρ' R') : RW ρ' (F_X12_some_B R') := by
  intro τ w
  unfold F_X12_some_B
  exact kp_bn (w_everyB hw τ w) (fun σ1 h1 => kp_mono (w_some4 h1.1) (fun q h => ws_trans h1 h))
/-- two that read a piece: stack t to t + 1 -/
def RM (fh : Nat → Int32) (b : Nat) (e : Int32) (ca : Nat) (ρ ρ' : RG) (k : Int) (R : Int32 → SG → RG → Option (Int32 × SG)) (R' : SG → RG → Option SG) : Prop := ∀ (o : Int32) (π δ : Int) (t : Nat) (σ τ : SG), 0 ≤ δ → 0 ≤ o.toInt → o.toInt ≤ 5 → (t : Int) + 2 * (5 - o.toInt) + k ≤ 30 → PS fh b e o π δ t ca σ ρ τ → kp (R o σ ρ) (fun q => kp (R' τ ρ') (fun q' => OU fh b e o π δ (t + 1) ca ρ q q'))
theorem hst_two {c : Int32} {t : Nat} (h : c = -2 ∨ c = -3) : hst c (t + 2) = some (t + 1) := by
  unfold hst
  rcases h with rfl | rfl
  · rw [if_neg (by decide), if_neg (by decide), if_pos (by omega)]; rfl
  · rw [if_neg (by decide), if_neg (by decide), if_pos (by omega)]; rfl
theorem hst_not {t : Nat} : hst (-1) (t + 1) = some (t + 1) := by
  unfold hst
  rw [if_neg (by decide), if_pos rfl, if_pos (by omega)]
theorem ps_end {fh : Nat → Int32} {b : Nat} {e o : Int32} {π δ : Int} {t ca : Nat} {σ τ : SG} {ρ : RG} (h : PS fh b e o π δ t ca σ ρ τ) (h1 : 100 ≤ π) : cH τ (τ 54 6) = -1 := by
  rcases ps_cN h with ⟨_, _, l⟩ | ⟨_, z, _⟩
  · have := h.2.1.2.1
    have := h.1.1.2.2.2.2.1.2
    omega
  · exact z
theorem sim_both4 {fh : Nat → Int32} {b : Nat} {e : Int32} {ca : Nat} {ρ ρ' : RG} {R : Int32 → SG → RG → Option (Int32 × SG)} {R' : SG → RG → Option SG} {a1 : Int32} (hR : RM fh b e ca ρ ρ' 1 R R') {o : Int32} {δ : Int} {t : Nat} (hδ : 0 ≤ δ) (ho : 0 ≤ o.toInt) (ho5 : o.toInt ≤ 5) (ht : (t : Int) + 2 * (5 - o.toInt) + 2 ≤ 30) : ∀ (n : Nat) (σ τ : SG) (v2 : Int32) (π : Int), 0 ≤ v2.toInt → v2.toInt ≤ π → PS fh b e o π δ (t + 1) ca σ ρ τ → kp (F_X0_readBoth_B_12 R a1 n σ ρ o v2) (fun q => kp (F_X12_every_B_4 R' n τ ρ') (fun q' => OU fh b e o π δ (t + 1) ca ρ q q')) := by
  intro n
  induction n with
  | zero => intro σ τ v2 π _ _ _; exact kp_none
  | succ n ih =>
    intro σ τ v2 π hv hπ h
    have w := h.2.2.1.1
    have is := ps_is h (c := 38) (by decide)
    unfold F_X0_readBoth_B_12 F_X12_every_B_4
    refine kp_ih (fun c => kp_some (kp_t w (kp_bn (ps_here h) (fun r3 h3 => kp_f (fun z => ?_) (kp_some (Or.inl ⟨rfl, h⟩)))))) (fun c => kp_bn (ps_next h) (fun r4 h4 => ?_))
    · have := le_i c
      rw [ti_100] at this
      rw [h3, ps_end h (by omega)] at z
      exact absurd z (by decide)
    · have v99 := lt_i (nle c)
      rw [ti_100] at v99
      refine kp_ih (fun c4 => kp_nm (fun x6 h6 => kp_nm (fun σ8 h8 => ?_))) (fun c4 => kp_some (kp_t w (kp_bn (ps_here h) (fun r3 h3 => kp_f (fun z => c4 (h4.trans (is.1.mpr (h3.symm.trans z)))) (kp_some (Or.inl ⟨rfl, h⟩))))))
      rw [h4] at c4
      have lt := is.2 c4
      have p8 : PS fh b e o (π + 1) (δ + 1) (t + 1) ca σ8 ρ (s2 τ 54 6 (τ 54 6 + 1)) := by
        rw [h8]; exact ps_adv h lt h6 rfl (by have := h.2.1.2.1; omega)
      have ref : ∀ Q : SG → Prop, kp (bn (R' (s2 τ 54 6 (τ 54 6 + 1)) ρ') fun σ8 => bn (F_X12_emits (-2 : Int32) σ8 ρ') fun σ9 => F_X12_every_B_4 R' n σ9 ρ') Q → kp (if (τ 54 8) = 0 then bn (F_X12_here τ ρ') fun r3 => if r3 = (38 : Int32) then nm ((τ 54 6) + (1 : Int32)) fun x5 => nm (s2 τ 54 6 x5) fun σ7 => bn (R' σ7 ρ') fun σ8 => bn (F_X12_emits (-2 : Int32) σ8 ρ') fun σ9 => F_X12_every_B_4 R' n σ9 ρ' else some τ else some τ) Q := fun Q hQ =>
        kp_t w (kp_bn (ps_here h) (fun r3 h3 => kp_t (h3.trans (is.1.mp c4)) (kp_nm (fun x5 g5 => kp_nm (fun τ7 g7 => by subst g5; subst g7; exact hQ)))))
      refine kp_bn2 (hR o (π + 1) (δ + 1) (t + 1) σ8 _ (by omega) ho ho5 (by omega) p8) (fun r9 σ9 h9 => ?_)
      refine kp_ih (fun c9 => kp_some (ref _ (kp_bn h9 (fun τ8 g8 => ?_)))) (fun c9 => ?_)
      · rcases g8 with ⟨z, _⟩ | ⟨_, z⟩
        · have z : r9 = 1 := z
          rw [z] at c9; exact absurd c9 (by decide)
        · have z : FL fh b σ9 τ8 := z
          exact kp_bn (w_emits z.1) (fun τ9 g9 => kp_mono (w_every4 g9.1) (fun q' hq => Or.inr ⟨rfl, ws_fl z (ws_trans g9 hq)⟩))
      · -- the step is put, and on
        intro q hq
        refine ref _ (kp_bn h9 (fun τ8 g8 => ?_))
        rcases g8 with ⟨_, z⟩ | ⟨z, _⟩
        · have z : PS fh b e o (π + 1) (δ + 1) (t + 1 + 1) ca σ9 ρ τ8 := z
          have P := sim_put (ρ' := ρ') z hδ (Or.inr (Or.inl ⟨rfl, rfl⟩)) (hst_two (Or.inl rfl))
          have P2 : kp (bn2 (F_X0_put (-2 : Int32) σ9 ρ) fun r11 σ11 => if r11 = 0 then some ((0 : Int32), σ11) else nm (v2 + (1 : Int32)) fun x13 => F_X0_readBoth_B_12 R a1 n σ11 ρ o x13) (fun q => kp (bn (F_X12_emits (-2 : Int32) τ8 ρ') fun σ9 => F_X12_every_B_4 R' n σ9 ρ') (fun q' => OU fh b e o π δ (t + 1) ca ρ q q')) := by
            refine kp_bn2 P (fun r11 σ11 g11 => kp_f (fun z => by have := g11.1; rw [show r11 = 1 from this] at z; exact absurd z (by decide)) (kp_nm (fun x13 h13 => ?_)))
            have e13 : x13.toInt = v2.toInt + 1 := by rw [h13, ti_add (by rw [ti_1]; omega) (by rw [ti_1]; omega), ti_1]
            intro q2 hq2
            refine kp_bn g11.2 (fun τ9 g9 => ?_)
            exact kp_mono (ih σ11 τ9 x13 (π + 1) (by omega) (by omega) g9 q2 hq2) (fun q' hq' => ou_lo hq' (by omega) (Int.le_refl _))
          exact P2 q hq
        · exact absurd z c9
theorem sim_both {fh : Nat → Int32} {b : Nat} {e : Int32} {ca : Nat} {ρ ρ' : RG} {R : Int32 → SG → RG → Option (Int32 × SG)} {R' : SG → RG → Option SG} (hR : RM fh b e ca ρ ρ' 1 R R') : RM fh b e ca ρ ρ' 2 (F_X0_readBoth_B R) (F_X12_every_B R') := by
  intro o π δ t σ τ hδ ho ho5 ht h
  unfold F_X0_readBoth_B F_X12_every_B
  refine kp_bn2 (hR o (σ 29 10).toInt δ t σ τ hδ ho ho5 (by omega) ⟨h.1, ⟨h.2.1.1, Int.le_refl _, h.2.1.2.2⟩, h.2.2⟩) (fun r1 σ1 h1 => ?_)
  have hp := h.2.1.2.1
  have hp0 := h.2.1.2.2.1
  refine kp_ih (fun c => kp_some (kp_bn h1 (fun τ1 g1 => ?_))) (fun c => ?_)
  · rcases g1 with ⟨z, _⟩ | ⟨_, z⟩
    · have z : r1 = 1 := z
      rw [z] at c; exact absurd c (by decide)
    · have z : FL fh b σ1 τ1 := z
      exact kp_mono (w_every4 z.1) (fun q' hq => Or.inr ⟨rfl, ws_fl z hq⟩)
  · intro q hq
    refine kp_bn h1 (fun τ1 g1 => ?_)
    rcases g1 with ⟨_, z⟩ | ⟨z, _⟩
    · have z : PS fh b e o (σ 29 10).toInt δ (t + 1) ca σ1 ρ τ1 := z
      exact kp_mono (sim_both4 hR hδ ho ho5 ht 1024 σ1 τ1 0 (σ 29 10).toInt (by decide) (by rw [ti_0]; exact hp0) z q hq) (fun q' hq' => ou_lo hq' hp (Int.le_refl _))
    · exact absurd z c
theorem sim_either4 {fh : Nat → Int32} {b : Nat} {e : Int32} {ca : Nat} {ρ ρ' : RG} {R : Int32 → SG → RG → Option (Int32 × SG)} {R' : SG → RG → Option SG} {a1 : Int32} (hR : RM fh b e ca ρ ρ' 1 R R') {o : Int32} {δ : Int} {t : Nat} (hδ : 0 ≤ δ) (ho : 0 ≤ o.toInt) (ho5 : o.toInt ≤ 5) (ht : (t : Int) + 2 * (5 - o.toInt) + 3 ≤ 30) : ∀ (n : Nat) (σ τ : SG) (v2 : Int32) (π : Int), 0 ≤ v2.toInt → v2.toInt ≤ π → PS fh b e o π δ (t + 1) ca σ ρ τ → kp (F_X0_readEither_B_12 R a1 n σ ρ o v2) (fun q => kp (F_X12_some_B_4 R' n τ ρ') (fun q' => OU fh b e o π δ (t + 1) ca ρ q q')) := by
  intro n
  induction n with
  | zero => intro σ τ v2 π _ _ _; exact kp_none
  | succ n ih =>
    intro σ τ v2 π hv hπ h
    have w := h.2.2.1.1
    have is := ps_is h (c := 124) (by decide)
    unfold F_X0_readEither_B_12 F_X12_some_B_4
    refine kp_ih (fun c => kp_some (kp_t w (kp_bn (ps_here h) (fun r3 h3 => kp_f (fun z => ?_) (kp_some (Or.inl ⟨rfl, h⟩)))))) (fun c => kp_bn (ps_next h) (fun r4 h4 => ?_))
    · have := le_i c
      rw [ti_100] at this
      rw [h3, ps_end h (by omega)] at z
      exact absurd z (by decide)
    · have v99 := lt_i (nle c)
      rw [ti_100] at v99
      refine kp_ih (fun c4 => kp_nm (fun x6 h6 => kp_nm (fun σ8 h8 => ?_))) (fun c4 => kp_some (kp_t w (kp_bn (ps_here h) (fun r3 h3 => kp_f (fun z => c4 (h4.trans (is.1.mpr (h3.symm.trans z)))) (kp_some (Or.inl ⟨rfl, h⟩))))))
      rw [h4] at c4
      have lt := is.2 c4
      have p8 : PS fh b e o (π + 1) (δ + 1) (t + 1) ca σ8 ρ (s2 τ 54 6 (τ 54 6 + 1)) := by
        rw [h8]; exact ps_adv h lt h6 rfl (by have := h.2.1.2.1; omega)
      have ref : ∀ Q : SG → Prop, kp (bn (F_X12_every_B R' (s2 τ 54 6 (τ 54 6 + 1)) ρ') fun σ8 => bn (F_X12_emits (-3 : Int32) σ8 ρ') fun σ9 => F_X12_some_B_4 R' n σ9 ρ') Q → kp (if (τ 54 8) = 0 then bn (F_X12_here τ ρ') fun r3 => if r3 = (124 : Int32) then nm ((τ 54 6) + (1 : Int32)) fun x5 => nm (s2 τ 54 6 x5) fun σ7 => bn (F_X12_every_B R' σ7 ρ') fun σ8 => bn (F_X12_emits (-3 : Int32) σ8 ρ') fun σ9 => F_X12_some_B_4 R' n σ9 ρ' else some τ else some τ) Q := fun Q hQ =>
        kp_t w (kp_bn (ps_here h) (fun r3 h3 => kp_t (h3.trans (is.1.mp c4)) (kp_nm (fun x5 g5 => kp_nm (fun τ7 g7 => by subst g5; subst g7; exact hQ)))))
      refine kp_bn2 (sim_both hR o (π + 1) (δ + 1) (t + 1) σ8 _ (by omega) ho ho5 (by omega) p8) (fun r9 σ9 h9 => ?_)
      refine kp_ih (fun c9 => kp_some (ref _ (kp_bn h9 (fun τ8 g8 => ?_)))) (fun c9 => ?_)
      · rcases g8 with ⟨z, _⟩ | ⟨_, z⟩
        · have z : r9 = 1 := z
          rw [z] at c9; exact absurd c9 (by decide)
        · have z : FL fh b σ9 τ8 := z
          exact kp_bn (w_emits z.1) (fun τ9 g9 => kp_mono (w_some4 g9.1) (fun q' hq => Or.inr ⟨rfl, ws_fl z (ws_trans g9 hq)⟩))
      · intro q hq
        refine ref _ (kp_bn h9 (fun τ8 g8 => ?_))
        rcases g8 with ⟨_, z⟩ | ⟨z, _⟩
        · have z : PS fh b e o (π + 1) (δ + 1) (t + 1 + 1) ca σ9 ρ τ8 := z
          have P := sim_put (ρ' := ρ') z hδ (Or.inr (Or.inr (Or.inl ⟨rfl, rfl⟩))) (hst_two (Or.inr rfl))
          have P2 : kp (bn2 (F_X0_put (-3 : Int32) σ9 ρ) fun r11 σ11 => if r11 = 0 then some ((0 : Int32), σ11) else nm (v2 + (1 : Int32)) fun x13 => F_X0_readEither_B_12 R a1 n σ11 ρ o x13) (fun q => kp (bn (F_X12_emits (-3 : Int32) τ8 ρ') fun σ9 => F_X12_some_B_4 R' n σ9 ρ') (fun q' => OU fh b e o π δ (t + 1) ca ρ q q')) := by
            refine kp_bn2 P (fun r11 σ11 g11 => kp_f (fun z => by have := g11.1; rw [show r11 = 1 from this] at z; exact absurd z (by decide)) (kp_nm (fun x13 h13 => ?_)))
            have e13 : x13.toInt = v2.toInt + 1 := by rw [h13, ti_add (by rw [ti_1]; omega) (by rw [ti_1]; omega), ti_1]
            intro q2 hq2
            refine kp_bn g11.2 (fun τ9 g9 => ?_)
            exact kp_mono (ih σ11 τ9 x13 (π + 1) (by omega) (by omega) g9 q2 hq2) (fun q' hq' => ou_lo hq' (by omega) (Int.le_refl _))
          exact P2 q hq
        · exact absurd z c9
theorem sim_either {fh : Nat → Int32} {b : Nat} {e : Int32} {ca : Nat} {ρ ρ' : RG} {R : Int32 → SG → RG → Option (Int32 × SG)} {R' : SG → RG → Option SG} (hR : RM fh b e ca ρ ρ' 1 R R') : RM fh b e ca ρ ρ' 3 (F_X0_readEither_B R) (F_X12_some_B R') := by
  intro o π δ t σ τ hδ ho ho5 ht h
  unfold F_X0_readEither_B F_X12_some_B
  refine kp_bn2 (sim_both hR o (σ 29 10).toInt δ t σ τ hδ ho ho5 (by omega) ⟨h.1, ⟨h.2.1.1, Int.le_refl _, h.2.1.2.2⟩, h.2.2⟩) (fun r1 σ1 h1 => ?_)
  have hp := h.2.1.2.1
  have hp0 := h.2.1.2.2.1
  refine kp_ih (fun c => kp_some (kp_bn h1 (fun τ1 g1 => ?_))) (fun c => ?_)
  · rcases g1 with ⟨z, _⟩ | ⟨_, z⟩
    · have z : r1 = 1 := z
      rw [z] at c; exact absurd c (by decide)
    · have z : FL fh b σ1 τ1 := z
      exact kp_mono (w_some4 z.1) (fun q' hq => Or.inr ⟨rfl, ws_fl z hq⟩)
  · intro q hq
    refine kp_bn h1 (fun τ1 g1 => ?_)
    rcases g1 with ⟨_, z⟩ | ⟨z, _⟩
    · have z : PS fh b e o (σ 29 10).toInt δ (t + 1) ca σ1 ρ τ1 := z
      exact kp_mono (sim_either4 hR hδ ho ho5 ht 1024 σ1 τ1 0 (σ 29 10).toInt (by decide) (by rw [ti_0]; exact hp0) z q hq) (fun q' hq' => ou_lo hq' hp (Int.le_refl _))
    · exact absurd z c
/-! a factor -/
theorem w_101 {R : SG → RG → Option SG} {τ : SG} {ρ : RG} (w : ¬ τ 54 8 = 0) : kp (F_X12_factor_B_101 R τ ρ) (fun q => WS τ q) := by
  unfold F_X12_factor_B_101
  exact kp_nm (fun x _ => kp_nm (fun τ1 g1 => kp_some ⟨by rw [g1, sn (by omega)]; exact w, by rw [g1, sn (by omega)], by rw [g1, s2_ne 55 (by decide)]⟩))
theorem ps_101 {R : SG → RG → Option SG} {fh : Nat → Int32} {b : Nat} {e o o1 : Int32} {π δ : Int} {t ca : Nat} {σ τ : SG} {ρ ρ' : RG} (h : PS fh b e o1 π δ t ca σ ρ τ) (ho : o1 = o + 1) : kp (F_X12_factor_B_101 R τ ρ') (fun q => PS fh b e o π δ t ca σ ρ q) := by
  unfold F_X12_factor_B_101
  refine kp_nm (fun x hx => kp_nm (fun τ1 g1 => kp_some ?_))
  have ex : x = o := by rw [hx, h.2.2.1.2, ho, Int32.add_sub_cancel]
  exact ps_new h (fun _ _ _ => rfl) (fun r k n => by rw [g1, sn (by omega)]) (by rw [g1, sn (by omega)]; exact h.2.1.1) h.2.1.2.1 (by omega) h.2.1.2.2.1 h.2.1.2.2.2 (by rw [g1, sn (by omega)]; exact h.2.2.1.1) (by rw [g1, sv]; exact ex)
theorem sim_f22 {fh : Nat → Int32} {b : Nat} {e : Int32} {ca : Nat} {ρ ρ' : RG} {R : Int32 → SG → RG → Option (Int32 × SG)} {R' : SG → RG → Option SG} {o v : Int32} {π δ : Int} {t : Nat} {σ τ : SG} (hR : RM fh b e ca ρ ρ' 1 R R') (hw : RW ρ' R') (hδ : 0 ≤ δ) (ho : 0 ≤ o.toInt) (ho5 : o.toInt ≤ 5) (ht : (t : Int) + 2 * (5 - o.toInt) + 1 ≤ 30) (lt : (σ 29 10).toInt < e.toInt) (hv : v = 33 ∨ v = 40) (h : PS fh b e o π δ t ca σ ρ τ) : kp (F_X0_readFactor_B_22 R o σ ρ o v) (fun q => kp (F_X12_factor_B_25 R' τ ρ' v) (fun q' => OU fh b e o π δ (t + 1) ca ρ q q')) := by
  have w := h.2.2.1.1
  have eo := h.2.2.1.2
  have e5 : (5 : Int32).toInt = 5 := rfl
  unfold F_X0_readFactor_B_22
  refine kp_ih (fun c => kp_nm (fun x4 h4 => kp_nm (fun σ6 h6 => ?_))) (fun c => kp_some ?_)
  · have o4 := lt_i c
    rw [e5] at o4
    have ref : ∀ Q : SG → Prop, (∀ τ13 : SG, PS fh b e (o + 1) π (δ + 1) t ca σ6 ρ τ13 → kp (if v = (33 : Int32) then bn (R' τ13 ρ') fun σ20 => bn (F_X12_emits (-1 : Int32) σ20 ρ') fun σ21 => F_X12_factor_B_101 R' σ21 ρ' else bn (F_X12_some_B R' τ13 ρ') fun σ15 => bn (F_X12_must (41 : Int32) σ15 ρ') fun σ16 => F_X12_factor_B_101 R' σ16 ρ') Q) → kp (F_X12_factor_B_25 R' τ ρ' v) Q := by
      intro Q hQ
      unfold F_X12_factor_B_25
      refine kp_f (fun z => by rw [eo] at z; rw [z, e5] at o4; omega) ?_
      unfold F_X12_factor_B_39
      refine kp_gd (fun _ => kp_nm (fun τ6 g6 => kp_nm (fun x7 g7 => kp_nm (fun τ9 g9 => ?_))))
      refine kp_t (by rw [g9, sn (by omega), g6, sv]) ?_
      unfold F_X12_factor_B_69
      refine kp_nm (fun x11 g11 => kp_nm (fun τ13 g13 => ?_))
      refine hQ τ13 ?_
      have ex := pos_1 h lt h4
      have p3 := h.2.1.2.2.1
      have e11 : x11 = x4 := by rw [g11, g9, sn (by omega), g6, sn (by omega), h4, h.2.1.1]
      refine ps_new h (fun r k n => by rw [h6, sn (by omega)]) (fun r k n => by rw [g13, sn (by omega), g9, sn (by omega), g6, sn (by omega)]) (by rw [h6, sv, g13, sv, e11]) ?_ (by rw [h6, sv]; omega) (by rw [h6, sv]; omega) (by rw [h6, sv]; omega) (by rw [g13, sn (by omega), g9, sn (by omega), g6, sv]) (by rw [g13, sn (by omega), g9, sv, g7, g6, sn (by omega), eo])
      rw [h6, sv]; have := h.2.1.2.1; omega
    have e1 : (o + 1).toInt = o.toInt + 1 := by rw [ti_add (by rw [ti_1]; omega) (by rw [ti_1]; omega), ti_1]
    refine kp_ih (fun cv => kp_nm (fun x13 h13 => ?_)) (fun cv => kp_nm (fun x8 h8 => ?_))
    · intro q hq
      refine ref _ (fun τ13 p13 => kp_t cv ?_)
      rw [h13] at hq
      have H := hR (o + 1) π (δ + 1) t σ6 τ13 (by omega) (by omega) (by omega) (by omega) p13
      have P2 : kp (bn2 (R (o + 1) σ6 ρ) fun r14 σ14 => if r14 = 0 then some ((0 : Int32), σ14) else bn2 (F_X0_put (-1 : Int32) σ14 ρ) fun r16 σ16 => if r16 = 0 then some ((0 : Int32), σ16) else some ((1 : Int32), σ16)) (fun q => kp (bn (R' τ13 ρ') fun σ20 => bn (F_X12_emits (-1 : Int32) σ20 ρ') fun σ21 => F_X12_factor_B_101 R' σ21 ρ') (fun q' => OU fh b e o π δ (t + 1) ca ρ q q')) := by
        refine kp_bn2 H (fun r14 σ14 h14 => kp_ih (fun c14 => kp_some (kp_bn h14 (fun τ20 g20 => ?_))) (fun c14 => ?_))
        · rcases g20 with ⟨z, _⟩ | ⟨_, z⟩
          · have z : r14 = 1 := z
            rw [z] at c14; exact absurd c14 (by decide)
          · have z : FL fh b σ14 τ20 := z
            exact kp_bn (w_emits z.1) (fun τ21 g21 => kp_mono (w_101 g21.1) (fun q' hq => Or.inr ⟨rfl, ws_fl z (ws_trans g21 hq)⟩))
        · intro q2 hq2
          refine kp_bn h14 (fun τ20 g20 => ?_)
          rcases g20 with ⟨_, z⟩ | ⟨z, _⟩
          · have z : PS fh b e (o + 1) π (δ + 1) (t + 1) ca σ14 ρ τ20 := z
            have P := sim_put (ρ' := ρ') z hδ (Or.inl ⟨rfl, rfl⟩) hst_not
            have P3 : kp (bn2 (F_X0_put (-1 : Int32) σ14 ρ) fun r16 σ16 => if r16 = 0 then some ((0 : Int32), σ16) else some ((1 : Int32), σ16)) (fun q => kp (bn (F_X12_emits (-1 : Int32) τ20 ρ') fun σ21 => F_X12_factor_B_101 R' σ21 ρ') (fun q' => OU fh b e o π δ (t + 1) ca ρ q q')) :=
              kp_bn2 P (fun r16 σ16 g16 => kp_f (fun z => by have := g16.1; rw [show r16 = 1 from this] at z; exact absurd z (by decide)) (kp_some (kp_bn g16.2 (fun τ21 g21 => kp_mono (ps_101 g21 rfl) (fun q' hq' => Or.inl ⟨rfl, hq'⟩)))))
            exact P3 q2 hq2
          · exact absurd z c14
      exact P2 q hq
    · intro q hq
      refine ref _ (fun τ13 p13 => kp_f cv ?_)
      rw [h8] at hq
      have H := sim_either hR (o + 1) π (δ + 1) t σ6 τ13 (by omega) (by omega) (by omega) (by omega) p13
      have P2 : kp (bn2 (F_X0_readEither_B R (o + 1) σ6 ρ) fun r9 σ9 => if r9 = 0 then some ((0 : Int32), σ9) else bn2 (F_X0_readSign (41 : Int32) σ9 ρ) fun r11 σ11 => if r11 = 0 then some ((0 : Int32), σ11) else some ((1 : Int32), σ11)) (fun q => kp (bn (F_X12_some_B R' τ13 ρ') fun σ15 => bn (F_X12_must (41 : Int32) σ15 ρ') fun σ16 => F_X12_factor_B_101 R' σ16 ρ') (fun q' => OU fh b e o π δ (t + 1) ca ρ q q')) := by
        refine kp_bn2 H (fun r9 σ9 h9 => kp_ih (fun c9 => kp_some (kp_bn h9 (fun τ15 g15 => ?_))) (fun c9 => ?_))
        · rcases g15 with ⟨z, _⟩ | ⟨_, z⟩
          · have z : r9 = 1 := z
            rw [z] at c9; exact absurd c9 (by decide)
          · have z : FL fh b σ9 τ15 := z
            exact kp_bn (w_must z.1) (fun τ16 g16 => kp_mono (w_101 g16.1) (fun q' hq => Or.inr ⟨rfl, ws_fl z (ws_trans g16 hq)⟩))
        · intro q2 hq2
          refine kp_bn h9 (fun τ15 g15 => ?_)
          rcases g15 with ⟨_, z⟩ | ⟨z, _⟩
          · have z : PS fh b e (o + 1) π (δ + 1) (t + 1) ca σ9 ρ τ15 := z
            have P3 : kp (bn2 (F_X0_readSign (41 : Int32) σ9 ρ) fun r11 σ11 => if r11 = 0 then some ((0 : Int32), σ11) else some ((1 : Int32), σ11)) (fun q => kp (bn (F_X12_must (41 : Int32) τ15 ρ') fun σ16 => F_X12_factor_B_101 R' σ16 ρ') (fun q' => OU fh b e o π δ (t + 1) ca ρ q q')) := by
              refine kp_bn2 (sim_sign (ρ' := ρ') z (by decide)) (fun r11 σ11 h11 => kp_ih (fun c11 => kp_some (kp_bn h11 (fun τ16 g16 => ?_))) (fun c11 => kp_some (kp_bn h11 (fun τ16 g16 => ?_))))
              · rcases g16 with ⟨z, _⟩ | ⟨_, z⟩
                · have z : r11 = 1 := z
                  rw [z] at c11; exact absurd c11 (by decide)
                · have z : FL fh b σ11 τ16 := z
                  exact kp_mono (w_101 z.1) (fun q' hq => Or.inr ⟨rfl, ws_fl z hq⟩)
              · rcases g16 with ⟨_, z, _⟩ | ⟨z, _⟩
                · exact kp_mono (ps_101 z rfl) (fun q' hq' => Or.inl ⟨rfl, ps_lo hq' (Int.le_refl _) (by omega)⟩)
                · exact absurd z c11
            exact P3 q2 hq2
          · exact absurd z c9
      exact P2 q hq
  · -- too many are open
    have o5 := le_i (nlt c)
    rw [e5] at o5
    have e : τ 54 9 = 5 := by rw [eo]; exact ieq (by rw [e5]; omega)
    unfold F_X12_factor_B_25
    refine kp_t e ?_
    unfold F_X12_factor_B_39
    refine kp_gd (fun _ => kp_nm (fun τ6 g6 => kp_nm (fun x7 g7 => kp_nm (fun τ9 g9 => ?_))))
    have w9 : ¬ τ9 54 8 = 0 := by rw [g9, sn (by omega), g6, sv]; decide
    refine kp_f w9 ?_
    unfold F_X12_factor_B_69
    refine kp_nm (fun x11 g11 => kp_nm (fun τ13 g13 => ?_))
    have w13 : ¬ τ13 54 8 = 0 := by rw [g13, sn (by omega)]; exact w9
    have f13 : FL fh b σ τ13 := ps_fl h w13 (by rw [g13, sv, g11, g9, sn (by omega), g6, sn (by omega), Int32.add_zero]; exact h.2.1.1) (by rw [g13, s2_ne 55 (by decide), g9, s2_ne 55 (by decide), g6, s2_ne 55 (by decide)])
    refine kp_ih (fun _ => ?_) (fun _ => ?_)
    · exact kp_bn (hw τ13 w13) (fun τ20 g20 => kp_bn (w_emits g20.1) (fun τ21 g21 => kp_mono (w_101 g21.1) (fun q' hq => Or.inr ⟨rfl, ws_fl f13 (ws_trans (ws_trans g20 g21) hq)⟩)))
    · exact kp_bn (w_someB hw τ13 w13) (fun τ20 g20 => kp_bn (w_must g20.1) (fun τ21 g21 => kp_mono (w_101 g21.1) (fun q' hq => Or.inr ⟨rfl, ws_fl f13 (ws_trans (ws_trans g20 g21) hq)⟩)))
theorem sim_factorB {fh : Nat → Int32} {b : Nat} {e : Int32} {ca : Nat} {ρ ρ' : RG} {R : Int32 → SG → RG → Option (Int32 × SG)} {R' : SG → RG → Option SG} (hR : RM fh b e ca ρ ρ' 1 R R') (hw : RW ρ' R') : RM fh b e ca ρ ρ' 1 (F_X0_readFactor_B R) (F_X12_factor_B R') := by
  intro o π δ t σ τ hδ ho ho5 ht h
  have w := h.2.2.1.1
  have i33 := ps_is h (c := 33) (by decide)
  have i40 := ps_is h (c := 40) (by decide)
  unfold F_X0_readFactor_B
  refine kp_bn (ps_next h) (fun r1 h1 => kp_ih (fun c => ?_) (fun c => kp_ih (fun d => ?_) (fun d => ?_)))
  · have c' := h1.symm.trans c
    refine kp_mono (sim_f22 hR hw hδ ho ho5 ht (i33.2 c') (Or.inl c) h) (fun q hq => ?_)
    unfold F_X12_factor_B
    exact kp_t w (kp_bn (ps_here h) (fun r2 h2 => by
      have e2 : r2 = 33 := h2.trans (i33.1.mp c')
      rw [show r2 = r1 by rw [e2, c]]
      exact kp_t c hq))
  · have d' := h1.symm.trans d
    refine kp_mono (sim_f22 hR hw hδ ho ho5 ht (i40.2 d') (Or.inr d) h) (fun q hq => ?_)
    unfold F_X12_factor_B
    exact kp_t w (kp_bn (ps_here h) (fun r2 h2 => by
      have e2 : r2 = 40 := h2.trans (i40.1.mp d')
      rw [show r2 = r1 by rw [e2, d]]
      exact kp_f c (kp_t d hq)))
  · refine kp_bn2 (sim_test (R := R') (ρ' := ρ') h hδ (by omega)) (fun r19 σ19 h19 => kp_gd (fun _ => kp_some ?_))
    unfold F_X12_factor_B
    exact kp_t w (kp_bn (ps_here h) (fun r2 h2 => kp_f (fun z => c (h1.trans (i33.1.mpr (h2.symm.trans z)))) (kp_f (fun z => d (h1.trans (i40.1.mpr (h2.symm.trans z)))) h19)))
theorem sim_factorR {fh : Nat → Int32} {b : Nat} {e : Int32} {ca : Nat} {ρ ρ' : RG} : ∀ d : Nat, RM fh b e ca ρ ρ' 1 (F_X0_readFactor_R d) (F_X12_factor_R d) := by
  intro d
  induction d with
  | zero => intro o π δ t σ τ _ _ _ _ _; exact kp_none
  | succ d ih => exact sim_factorB ih (fun τ w => w_factor w)
theorem both12_eq {a1 : Int32} : ∀ (n : Nat) (σ : SG) (ρ : RG) (v1 v2 : Int32), F_X0_readBoth_12 a1 n σ ρ v1 v2 = F_X0_readBoth_B_12 F_X0_readFactor a1 n σ ρ v1 v2 := by
  intro n
  induction n with
  | zero => intro σ ρ v1 v2; rfl
  | succ n ih =>
    intro σ ρ v1 v2
    unfold F_X0_readBoth_12 F_X0_readBoth_B_12
    simp only [ih]
theorem both_eq (a : Int32) (σ : SG) (ρ : RG) : F_X0_readBoth a σ ρ = F_X0_readBoth_B F_X0_readFactor a σ ρ := by
  unfold F_X0_readBoth F_X0_readBoth_B
  simp only [both12_eq]
theorem either12_eq {a1 : Int32} : ∀ (n : Nat) (σ : SG) (ρ : RG) (v1 v2 : Int32), F_X0_readEither_12 a1 n σ ρ v1 v2 = F_X0_readEither_B_12 F_X0_readFactor a1 n σ ρ v1 v2 := by
  intro n
  induction n with
  | zero => intro σ ρ v1 v2; rfl
  | succ n ih =>
    intro σ ρ v1 v2
    unfold F_X0_readEither_12 F_X0_readEither_B_12
    simp only [ih, both_eq]
theorem either_eq (a : Int32) (σ : SG) (ρ : RG) : F_X0_readEither a σ ρ = F_X0_readEither_B F_X0_readFactor a σ ρ := by
  unfold F_X0_readEither F_X0_readEither_B
  simp only [either12_eq, both_eq]
theorem sim_some {fh : Nat → Int32} {b : Nat} {e : Int32} {π δ : Int} {ca : Nat} {σ τ : SG} {ρ ρ' : RG} (hδ : 0 ≤ δ) (h : PS fh b e 0 π δ 0 ca σ ρ τ) : kp (F_X0_readEither 0 σ ρ) (fun q => kp (F_X12_some τ ρ') (fun q' => OU fh b e 0 π δ 1 ca ρ q q')) := by
  rw [either_eq, some_eq]
  exact sim_either (sim_factorR 8) 0 π δ 0 σ τ hδ (by decide) (by decide) (by decide) h
theorem w_someX {τ : SG} {ρ : RG} (w : ¬ τ 54 8 = 0) : kp (F_X12_some τ ρ) (fun q => WS τ q) := by
  rw [some_eq]
  exact w_someB (fun τ w => w_factor w) τ w
