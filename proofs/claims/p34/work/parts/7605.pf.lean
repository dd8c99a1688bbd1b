/-! PART 7605.pf: by hand: the two parsers side by side: all clauses, board -/
/-- behind all clauses -/
def OB (fh : Nat → Int32) (b : Nat) (e : Int32) (ρ : RG) (q : Int32 × SG × RG) (q' : Int32 × SG) : Prop := q.2.2 = ρ ∧ ((q.1 = 1 ∧ q'.1 = q'.2 54 5 ∧ ∃ ca, ca ≤ 10 ∧ ∃ τ1, PS fh b e 0 0 0 0 ca q.2.1 ρ τ1 ∧ q'.2 54 5 = τ1 54 5 ∧ q'.2 55 12 = τ1 55 12 + 1 ∧ q'.2 55 16 = τ1 54 5 ∧ ∀ k, k ≠ 12 → k ≠ 16 → q'.2 55 k = τ1 55 k) ∨ (q.1 = 0 ∧ q'.1 = -10 - q.2.1 29 10 ∧ ∀ k, OT b k → q'.2 55 k = fh k))
theorem sim_150 {fh : Nat → Int32} {b : Nat} {e : Int32} {ca : Nat} {σ τ : SG} {ρ ρ' : RG} (hca : ca ≤ 10) (h : PS fh b e 0 0 0 0 ca σ ρ τ) (r : Int32) (hr : (r = 1 ∧ (σ 29 10).toInt = e.toInt) ∨ (r = 0 ∧ (σ 29 10).toInt ≠ e.toInt)) : kp (F_X12_board_150 τ ρ') (fun q' => OB fh b e ρ (r, σ, ρ) q') := by
  have e1 := h.2.1.1
  have e2 := h.1.1.2.2.2.1
  unfold F_X12_board_150
  refine kp_t h.2.2.1.1 (kp_ih (fun c => ?_) (fun c => ?_))
  · rw [← e1, e2] at c
    rcases hr with ⟨r1, p⟩ | ⟨r1, p⟩
    rotate_left
    · exact absurd (by rw [c]) p
    refine kp_nm (fun x31 h31 => kp_nm (fun τ33 h33 => kp_nm (fun τ35 h35 => kp_some ⟨rfl, Or.inl ⟨r1, rfl, ca, hca, τ, h, ?_, ?_, ?_, fun k k1 k2 => ?_⟩⟩)))
    · show τ35 54 5 = _
      rw [h35, sn (by omega), h33, sn (by omega)]
    · show τ35 55 12 = _
      rw [h35, sn (by omega), h33, sv, h31]
    · show τ35 55 16 = _
      rw [h35, sv, h33, sn (by omega)]
    · show τ35 55 k = _
      rw [h35, sn (by omega), h33, sn (by omega)]
  · rw [← e1, e2] at c
    rcases hr with ⟨r1, p⟩ | ⟨r1, p⟩
    · exact absurd (ieq p) c
    · refine kp_nm (fun x36 h36 => kp_some ⟨rfl, Or.inr ⟨r1, ?_, fun k hk => h.1.2 k hk⟩⟩)
      show x36 = _
      rw [h36]
      show (-10 : Int32) - τ 54 6 = -10 - σ 29 10
      rw [e1]
theorem sim_150w {fh : Nat → Int32} {b : Nat} {e : Int32} {σ τ : SG} {ρ ρ' : RG} (h : FL fh b σ τ) : kp (F_X12_board_150 τ ρ') (fun q' => OB fh b e ρ (0, σ, ρ) q') := by
  unfold F_X12_board_150
  refine kp_f h.1 (kp_nm (fun x29 h29 => kp_some ⟨rfl, Or.inr ⟨rfl, ?_, fun k hk => h.2.2 k hk⟩⟩))
  show x29 = _
  rw [h29]
  show (-10 : Int32) - τ 54 6 = -10 - σ 29 10
  rw [h.2.1]
theorem w_108 {fh : Nat → Int32} {b : Nat} {e : Int32} {σ τ : SG} {ρ ρ' : RG} {v1 : Int32} (h : FL fh b σ τ) (n : Nat) : kp (F_X12_board_108 n τ ρ' v1) (fun q' => OB fh b e ρ (0, σ, ρ) q') := by
  cases n with
  | zero => exact kp_none
  | succ n => unfold F_X12_board_108; exact kp_f h.1 (sim_150w h)
theorem sim_from {fh : Nat → Int32} {b : Nat} {e : Int32} {a2 : Int32} {ρ ρ' : RG} : ∀ (n : Nat) (σ τ : SG) (v3 : Int32) (ca : Nat), 0 ≤ v3.toInt → (ca : Int) ≤ v3.toInt → PS fh b e 0 0 0 0 ca σ ρ τ → kp (F_X0_readFrom_38 a2 n σ ρ v3) (fun q => ∀ (n' : Nat) (v1 : Int32), v1 = v3 + 1 → kp (bn (F_X12_clauseHere τ ρ') fun σ43 => F_X12_board_108 n' σ43 ρ' v1) (fun q' => v3.toInt < 10 → OB fh b e ρ q q')) := by
  have e10 : (10 : Int32).toInt = 10 := rfl
  intro n
  induction n with
  | zero => intro σ τ v3 ca _ _ _; exact kp_none
  | succ n ih =>
    intro σ τ v3 ca h0 hca h
    unfold F_X0_readFrom_38
    refine kp_ih (fun c => kp_some (fun n' v1 _ => fun q' _ lt => ?_)) (fun c => ?_)
    · have := le_i c; omega
    have v9 := lt_i (nle c)
    rw [e10] at v9
    refine kp_bn2 (sim_clause (ρ' := ρ') (by omega) h) (fun r16 σ16 h16 => kp_ih (fun c16 => kp_some (fun n' v1 _ => kp_bn h16 (fun τ43 g43 => ?_))) (fun c16 => ?_))
    · rcases g43 with ⟨z, _⟩ | ⟨_, z⟩
      · have z : r16 = 1 := z
        rw [z] at c16; exact absurd c16 (by decide)
      · exact kp_mono (w_108 z n') (fun q' hq _ => hq)
    -- what stands behind a clause
    have post : ∀ (Q : Int32 × SG → Prop) (n' : Nat) (v1 : Int32), (∀ ca' τ43, ca' ≤ ca + 1 → PS fh b e 0 0 0 0 ca' σ16 ρ τ43 → kp (F_X12_board_108 n' τ43 ρ' v1) Q) → kp (bn (F_X12_clauseHere τ ρ') fun σ43 => F_X12_board_108 n' σ43 ρ' v1) Q := fun Q n' v1 hQ => kp_bn h16 (fun τ43 g43 => by
      rcases g43 with ⟨_, ca', z1, z2⟩ | ⟨z, _⟩
      · exact hQ ca' τ43 z1 z2
      · exact absurd z c16)
    -- the class's state as the reference's shows it: the place lies at e, or below
    have ex : ∀ v1 : Int32, v1 = v3 + 1 → v1.toInt = v3.toInt + 1 := fun v1 hv => by rw [hv, ti_add (by rw [ti_1]; omega) (by rw [ti_1]; omega), ti_1]
    refine kp_ih (fun ce => kp_some (fun n' v1 hv => post _ n' v1 (fun ca' τ43 z1 z2 => ?_))) (fun ce => kp_nm (fun x19 h19 => kp_ih (fun c19 => kp_some (fun n' v1 hv => post _ n' v1 (fun ca' τ43 z1 z2 => ?_))) (fun c19 => ?_)))
    · -- the end
      rw [z2.1.1.2.2.1] at ce
      have fin := sim_150 (ρ' := ρ') (by omega) z2 1 (Or.inl ⟨rfl, by rw [ce]⟩)
      cases n' with
      | zero => exact kp_none
      | succ n' =>
        unfold F_X12_board_108
        refine kp_t z2.2.2.1.1 (kp_ih (fun _ => kp_mono fin (fun q' hq _ => hq)) (fun _ => kp_bn (ps_here z2) (fun r38 h38 => kp_f (fun z => ?_) (kp_mono fin (fun q' hq _ => hq)))))
        rcases ps_cN z2 with ⟨_, _, l⟩ | ⟨_, y, _⟩
        · rw [ce] at l; omega
        · rw [h38, y] at z; exact absurd z (by decide)
    · -- ten clauses, and more
      have pe : (σ16 29 10).toInt ≠ e.toInt := fun z => ce (by rw [z2.1.1.2.2.1]; exact ieq z)
      have fin := sim_150 (ρ' := ρ') (by omega) z2 0 (Or.inr ⟨rfl, pe⟩)
      cases n' with
      | zero => exact kp_none
      | succ n' =>
        unfold F_X12_board_108
        exact kp_t z2.2.2.1.1 (kp_t (by rw [hv, ← h19, c19]; exact i_le (Int.le_refl _)) (kp_mono fin (fun q' hq _ => hq)))
    · have e19 := ex x19 h19
      have n10 : x19.toInt ≠ 10 := fun z => c19 (ieq (by rw [z]; rfl))
      -- the class's sign
      intro q hq n' v1 hv
      refine post _ n' v1 (fun ca' τ43 z1 z2 => ?_)
      have pe : (σ16 29 10).toInt ≠ e.toInt := fun z => ce (by rw [z2.1.1.2.2.1]; exact ieq z)
      have is := ps_is z2 (c := 59) (by decide)
      have H : kp (bn2 (F_X0_readSign (59 : Int32) σ16 ρ) fun r21 σ21 => if r21 = 0 then some ((0 : Int32), σ21, ρ) else nm (v3 + (1 : Int32)) fun x23 => F_X0_readFrom_38 a2 n σ21 ρ x23) (fun q => kp (F_X12_board_108 n' τ43 ρ' v1) (fun q' => v3.toInt < 10 → OB fh b e ρ q q')) := by
        unfold F_X0_readSign
        refine kp_bn2 (Q := fun q => (cN σ16 (σ16 29 10) = 59 ∧ q = (1, s2 σ16 29 10 (σ16 29 10 + 1))) ∨ (¬ cN σ16 (σ16 29 10) = 59 ∧ q = (0, σ16))) (kp_bn (ps_next z2) (fun r1 h1 => kp_ih (fun c => kp_nm (fun x3 h3 => kp_nm (fun σ5 h5 => kp_some (Or.inl ⟨h1.symm.trans c, by rw [h5, h3]⟩)))) (fun c => kp_some (Or.inr ⟨fun z => c (h1.trans z), rfl⟩)))) (fun r21 σ21 h21 => ?_)
        rcases h21 with ⟨c, hq⟩ | ⟨c, hq⟩
        · have hr : r21 = 1 := congrArg Prod.fst hq
          have hs : σ21 = s2 σ16 29 10 (σ16 29 10 + 1) := congrArg Prod.snd hq
          refine kp_f (by rw [hr]; decide) (kp_nm (fun x23 h23 => ?_))
          have e23 := ex x23 h23
          have p21 : PS fh b e 0 0 0 0 ca' σ21 ρ (s2 τ43 54 6 (τ43 54 6 + 1)) := by
            rw [hs]
            exact ps_lo (ps_adv (π' := 0) z2 (is.2 c) rfl rfl (by have := z2.2.1.2.2.1; omega)) (Int.le_refl _) (by omega)
          refine kp_mono (ih σ21 _ x23 ca' (by omega) (by omega) p21) (fun q hq => ?_)
          cases n' with
          | zero => exact kp_none
          | succ n' =>
            unfold F_X12_board_108
            refine kp_t z2.2.2.1.1 (kp_f (fun z => ?_) (kp_bn (ps_here z2) (fun r38 h38 => kp_t (h38.trans (is.1.mp c)) (kp_nm (fun x40 h40 => kp_nm (fun τ42 h42 => ?_))))))
            · have := le_i z
              rw [hv] at this
              rw [← h19, e10] at this
              omega
            · subst h40; subst h42
              have := hq n'
              refine kp_bn (Q := fun τ43' => ∀ v, v = x23 + 1 → kp (F_X12_board_108 n' τ43' ρ' v) (fun q' => v3.toInt < 10 → OB fh b e ρ q q')) (fun τ43' e43 v hv' => ?_) (fun τ43' g43' => kp_nm (fun x44 h44 => ?_))
              · intro q' eq' _
                refine this v hv' q' ?_ (by omega)
                show bn (F_X12_clauseHere (s2 τ43 54 6 (τ43 54 6 + 1)) ρ') (fun σ43 => F_X12_board_108 n' σ43 ρ' v) = some q'
                rw [e43]
                exact eq'
              · exact g43' x44 (by rw [h44, hv, ← h23])
        · have hr : r21 = 0 := congrArg Prod.fst hq
          have hs : σ21 = σ16 := congrArg Prod.snd hq
          refine kp_t hr (kp_some ?_)
          rw [hs]
          have fin := sim_150 (ρ' := ρ') (by omega) z2 0 (Or.inr ⟨rfl, pe⟩)
          cases n' with
          | zero => exact kp_none
          | succ n' =>
            unfold F_X12_board_108
            exact kp_t z2.2.2.1.1 (kp_ih (fun _ => kp_mono fin (fun q' hq _ => hq)) (fun _ => kp_bn (ps_here z2) (fun r38 h38 => kp_f (fun z => c (is.1.mpr (h38.symm.trans z))) (kp_mono fin (fun q' hq _ => hq)))))
      exact H q hq
/-! board -/
/-- the board that holds: object ob of the class (its rows are ob + 1 .. ob + 4), row of the reference -/
def HB (ob row : Nat) (σ τ : SG) : Prop := (τ row 16 = -1 ∧ σ ob 0 = 3 ∧ σ ob 1 = 10 ∧ σ ob 2 = 0) ∨ ∃ b ca : Nat, b < 5 ∧ (τ row 16).toInt = (b : Int) ∧ (b : Int) < (τ row 12).toInt ∧ ca ≤ 10 ∧ σ ob 0 = τ row (194 + b) ∧ σ ob 1 = τ row (199 + b) ∧ (σ ob 2).toInt = (ca : Int) ∧ (τ row (204 + b)).toInt = (ca : Int) + (fre (σ (ob + 3)) ca : Int) ∧ fre (σ (ob + 3)) ca ≤ 100 ∧ CDR (σ (ob + 4)) (σ (ob + 1)) (σ (ob + 2)) (σ (ob + 3)) (fun k => τ row (209 + 140 * b + k)) ca
theorem hb_congr {ob row ob' row' : Nat} {σ τ σ' τ' : SG} (h : HB ob row σ τ) (hc : ∀ k, k < 3 → σ' ob' k = σ ob k) (h1 : ∀ k, k < 10 → σ' (ob' + 1) k = σ (ob + 1) k) (h2 : ∀ k, k < 10 → σ' (ob' + 2) k = σ (ob + 2) k) (h3 : ∀ k, k < 10 → σ' (ob' + 3) k = σ (ob + 3) k) (h4 : ∀ k, k < 100 → σ' (ob' + 4) k = σ (ob + 4) k) (hr : ∀ k, k < 909 → (k = 16 ∨ k = 12 ∨ (194 ≤ k ∧ ∀ b : Nat, b < 5 → (τ row 12).toInt = (b : Int) → OT b k)) → τ' row' k = τ row k) : HB ob' row' σ' τ' := by
  rcases h with ⟨a, b, c, d⟩ | ⟨b, ca, b5, e16, e12, c10, v0, v1, v2, v3, v4, R⟩
  · exact Or.inl ⟨by rw [hr 16 (by decide) (Or.inl rfl)]; exact a, by rw [hc 0 (by omega)]; exact b, by rw [hc 1 (by omega)]; exact c, by rw [hc 2 (by omega)]; exact d⟩
  · have g : ∀ k, (k = 194 + b ∨ k = 199 + b ∨ k = 204 + b ∨ (209 + 140 * b ≤ k ∧ k < 209 + 140 * b + 140)) → τ' row' k = τ row k := fun k hk => hr k (by omega) (Or.inr (Or.inr ⟨by omega, fun b' hb5 hb' => ⟨by omega, by omega, by omega, by omega⟩⟩))
    have f3 : fre (σ' (ob' + 3)) ca = fre (σ (ob + 3)) ca := fre_congr (ca := ca) (fun k hk => h3 k (by omega)) (Nat.le_refl _)
    refine Or.inr ⟨b, ca, b5, by rw [hr 16 (by decide) (Or.inl rfl)]; exact e16, by rw [hr 12 (by decide) (Or.inr (Or.inl rfl))]; exact e12, c10, by rw [hc 0 (by omega), g _ (by omega)]; exact v0, by rw [hc 1 (by omega), g _ (by omega)]; exact v1, by rw [hc 2 (by omega)]; exact v2, by rw [g _ (by omega), f3]; exact v3, by rw [f3]; exact v4, ?_⟩
    exact cdr_congr (cc := fre (σ (ob + 3)) ca) R (Nat.le_refl _) (fun k hk => h4 k (by omega)) (fun k hk => h1 k (by omega)) (fun k hk => h2 k (by omega)) (fun k hk => h3 k (by omega)) (fun k hk => g _ (by omega))
theorem ps_hb {fh : Nat → Int32} {b : Nat} {e : Int32} {ca : Nat} {σ σ1 τ τ1 : SG} {ρ : RG} (h : PS fh b e 0 0 0 0 ca σ ρ τ) (hca : ca ≤ 10) (e16 : (τ1 55 16).toInt = (b : Int)) (e12 : (b : Int) < (τ1 55 12).toInt) (hr : ∀ k, k ≠ 12 → k ≠ 16 → τ1 55 k = τ 55 k) (c0 : ∀ k, k < 3 → σ1 5 k = σ 29 k) (c6 : ∀ k, k < 10 → σ1 6 k = σ 30 k) (c7 : ∀ k, k < 10 → σ1 7 k = σ 31 k) (c8 : ∀ k, k < 10 → σ1 8 k = σ 32 k) (c9 : ∀ k, k < 100 → σ1 9 k = σ 33 k) : HB 5 55 σ1 τ1 := by
  obtain ⟨⟨⟨s1, s2', s3, s4, s5, s6, s7⟩, hot⟩, ⟨p1, p2, p3, p4⟩, ⟨w, ho⟩, ⟨h4, h5⟩, cc, ⟨c1, c2, c3, c4⟩, h6, g1, g2, g3⟩ := h
  have z := hrun_0 g3
  have ef : fre (σ 32) ca = cc := by omega
  have f8 : fre (σ1 8) ca = fre (σ 32) ca := fre_congr (ca := ca) (fun k hk => c8 k (by omega)) (Nat.le_refl _)
  have u := s5.2
  refine Or.inr ⟨b, ca, s7, e16, e12, hca, by rw [c0 0 (by omega), hr _ (by omega) (by omega)]; exact h4, by rw [c0 1 (by omega), hr _ (by omega) (by omega)]; exact h5, by rw [c0 2 (by omega)]; exact c1, ?_, ?_, ?_⟩
  · show (τ1 55 (204 + b)).toInt = (ca : Int) + (fre (σ1 8) ca : Int)
    rw [hr _ (by omega) (by omega), f8, ef]; omega
  · show fre (σ1 8) ca ≤ 100
    rw [f8, ef]; omega
  · exact cdr_congr (cc := cc) h6 (by omega) (fun k hk => c9 k (by omega)) (fun k hk => c6 k (by omega)) (fun k hk => c7 k (by omega)) (fun k hk => c8 k (by omega)) (fun k hk => hr _ (by omega) (by omega))
/-- the tape, the boards: class and reference -/
def BT (A tp ob row : Nat) (σ τ : SG) : Prop := (∀ k, k < 100 → σ tp k = τ row (94 + k)) ∧ σ A 6 = τ row 15 ∧ σ A 4 = τ row 12 ∧ HB ob row σ τ
theorem k_takes5 {σ : SG} {ρ : RG} : kp (F_X0_takes_5_29 σ ρ) (fun q => (∀ r k, ¬ (r = 5 ∨ r = 6 ∨ r = 7 ∨ r = 8 ∨ r = 9) → q r k = σ r k) ∧ (∀ k, k < 3 → q 5 k = σ 29 k) ∧ (∀ k, k < 10 → q 6 k = σ 30 k) ∧ (∀ k, k < 10 → q 7 k = σ 31 k) ∧ (∀ k, k < 10 → q 8 k = σ 32 k) ∧ (∀ k, k < 100 → q 9 k = σ 33 k)) := by
  unfold F_X0_takes_5_29
  refine kp_nm (fun σ2 h2 => kp_nm (fun σ4 h4 => kp_nm (fun σ6 h6 => kp_nm (fun σ8 h8 => kp_gd (fun _ => kp_nm (fun σ9 h9 => kp_nm (fun σ10 h10 => kp_nm (fun σ11 h11 => kp_nm (fun σ12 h12 => kp_some ?_)))))))))
  have n8 : ∀ r k, r ≠ 5 → σ8 r k = σ r k := fun r k n => by rw [h8, sn (by omega), h6, sn (by omega), h4, sn (by omega), h2, sn (by omega)]
  have c9 : ∀ r k, σ9 r k = if r = 6 then (if k < 10 then σ8 30 k else σ8 6 k) else σ8 r k := fun r k => by rw [h9, cpy_at]
  have c10 : ∀ r k, σ10 r k = if r = 7 then (if k < 10 then σ9 31 k else σ9 7 k) else σ9 r k := fun r k => by rw [h10, cpy_at]
  have c11 : ∀ r k, σ11 r k = if r = 8 then (if k < 10 then σ10 32 k else σ10 8 k) else σ10 r k := fun r k => by rw [h11, cpy_at]
  have c12 : ∀ r k, σ12 r k = if r = 9 then (if k < 100 then σ11 33 k else σ11 9 k) else σ11 r k := fun r k => by rw [h12, cpy_at]
  refine ⟨fun r k n => ?_, fun k hk => ?_, fun k hk => ?_, fun k hk => ?_, fun k hk => ?_, fun k hk => ?_⟩
  · rw [c12, if_neg (by omega), c11, if_neg (by omega), c10, if_neg (by omega), c9, if_neg (by omega), n8 r k (by omega)]
  · rw [c12, if_neg (by omega), c11, if_neg (by omega), c10, if_neg (by omega), c9, if_neg (by omega), h8, sn (by omega), h6]
    rcases (show k = 0 ∨ k = 1 ∨ k = 2 by omega) with rfl | rfl | rfl
    · rw [sn (by omega), h4, sn (by omega), h2, sv]
    · rw [sn (by omega), h4, sv, h2, sn (by omega)]
    · rw [sv, h4, sn (by omega), h2, sn (by omega)]
  · rw [c12, if_neg (by omega), c11, if_neg (by omega), c10, if_neg (by omega), c9, if_pos rfl, if_pos hk, n8 30 k (by omega)]
  · rw [c12, if_neg (by omega), c11, if_neg (by omega), c10, if_pos rfl, if_pos hk, c9, if_neg (by omega), n8 31 k (by omega)]
  · rw [c12, if_neg (by omega), c11, if_pos rfl, if_pos hk, c10, if_neg (by omega), c9, if_neg (by omega), n8 32 k (by omega)]
  · rw [c12, if_pos rfl, if_pos hk, c11, if_neg (by omega), c10, if_neg (by omega), c9, if_neg (by omega), n8 33 k (by omega)]
/-- the reference as its reading begins -/
def RB0 (b : Nat) (σ τ : SG) : Prop := (∀ k, k ≠ 15 → OT b k → τ 55 k = σ 55 k) ∧ τ 55 15 = 0 ∧ τ 55 (194 + b) = 3 ∧ τ 55 (199 + b) = 10 ∧ τ 55 (204 + b) = 0 ∧ τ 54 5 = σ 55 12 ∧ τ 54 7 = σ 55 15 ∧ τ 54 6 = 0 ∧ τ 54 8 = 0 ∧ τ 54 9 = 0
theorem rb_start {b : Nat} {σ τ : SG} {ρ' : RG} (hb : (σ 55 12).toInt = (b : Int)) (b5 : b < 5) (hτ : τ 55 = σ 55) {Q : Int32 × SG → Prop} (hQ' : ∀ τ25 : SG, RB0 b σ τ25 → kp (bn (F_X12_clauseHere τ25 ρ') fun σ26 => F_X12_board_108 1024 σ26 ρ' (1 : Int32)) Q) : kp (F_X12_board τ ρ') Q := by
  have e5 : (5 : Int32).toInt = 5 := rfl
  have e194 : (194 : Int32).toInt = 194 := rfl
  have e199 : (199 : Int32).toInt = 199 := rfl
  have e204 : (204 : Int32).toInt = 204 := rfl
  unfold F_X12_board
  refine kp_f (fun z => by rw [hτ] at z; rw [z, e5] at hb; omega) (kp_nm (fun σ3 h3 => kp_nm (fun σ5 h5 => kp_nm (fun σ7 h7 => kp_nm (fun x8 h8 => kp_gd (fun _ => kp_nm (fun σ11 h11 => kp_nm (fun x12 h12 => kp_gd (fun _ => kp_nm (fun σ15 h15 => kp_nm (fun x16 h16 => kp_gd (fun _ => kp_nm (fun σ19 h19 => kp_nm (fun σ21 h21 => kp_nm (fun σ23 h23 => kp_nm (fun σ25 h25 => ?_))))))))))))))))
  have a7 : σ7 54 5 = σ 55 12 := by rw [h7, sn (by omega), h5, sn (by omega), h3, sv, hτ]
  have v8 : x8.toInt = 194 + (b : Int) := by rw [h8, a7, ti_add (by omega) (by omega), e194, hb]
  rw [cn (z := 194 + b) (by omega)] at h11
  have a11 : σ11 54 5 = σ 55 12 := by rw [h11, sn (by omega), a7]
  have v12 : x12.toInt = 199 + (b : Int) := by rw [h12, a11, ti_add (by omega) (by omega), e199, hb]
  rw [cn (z := 199 + b) (by omega)] at h15
  have a15 : σ15 54 5 = σ 55 12 := by rw [h15, sn (by omega), a11]
  have v16 : x16.toInt = 204 + (b : Int) := by rw [h16, a15, ti_add (by omega) (by omega), e204, hb]
  rw [cn (z := 204 + b) (by omega)] at h19
  have n25 : ∀ r k, ¬ (r = 54 ∧ (k = 6 ∨ k = 8 ∨ k = 9)) → σ25 r k = σ19 r k := fun r k n => by rw [h25, sn (by omega), h23, sn (by omega), h21, sn (by omega)]
  refine hQ' σ25 ⟨fun k k15 hk => ?_, ?_, ?_, ?_, ?_, ?_, ?_, ?_, ?_, ?_⟩
  · obtain ⟨o2, o3, o4, o5⟩ := hk
    rw [n25 _ _ (by omega), h19, sn (by omega), h15, sn (by omega), h11, sn (by omega), h7, sn (by omega), h5, sn (by omega), h3, sn (by omega), hτ]
  · rw [n25 _ _ (by omega), h19, sn (by omega), h15, sn (by omega), h11, sn (by omega), h7, sv]
  · rw [n25 _ _ (by omega), h19, sn (by omega), h15, sn (by omega), h11, sv]
  · rw [n25 _ _ (by omega), h19, sn (by omega), h15, sv]
  · rw [n25 _ _ (by omega), h19, sv]
  · rw [n25 _ _ (by omega), h19, sn (by omega), a15]
  · rw [n25 _ _ (by omega), h19, sn (by omega), h15, sn (by omega), h11, sn (by omega), h7, sn (by omega), h5, sv, h3, sn (by omega), hτ]
  · rw [h25, sn (by omega), h23, sn (by omega), h21, sv]
  · rw [h25, sn (by omega), h23, sv]
  · rw [h25, sv]
/-- both read the tape through -/
theorem sim_read {m : Int} {b : Nat} {σ : SG} {ρ ρ' : RG} (hB : BX m σ) (hT : BT 1 10 5 55 σ σ) (hb : (σ 55 12).toInt = (b : Int)) (b5 : b < 5) : kp (F_X0_readFrom (σ 1 6) σ ρ) (fun q => ∀ τ25, RB0 b σ τ25 → kp (bn (F_X12_clauseHere τ25 ρ') fun σ26 => F_X12_board_108 1024 σ26 ρ' (1 : Int32)) (fun q' => OB (τ25 55) b (σ 1 6) q.2.2 q q')) := by
  obtain ⟨t1, t2, t3, t4⟩ := hT
  have r15 : rg (σ 55 15) 0 100 := bx_get hB (r := 55) (a := 15) (b := 15) (k := 15) (l := 0) (h := 100) (by decide) (by decide) (by decide)
  unfold F_X0_readFrom
  refine kp_nm (fun ρ2 hρ => kp_nm (fun σ4 h4 => kp_nm (fun σ6 h6 => kp_nm (fun σ8 h8 => kp_nm (fun σ10 h10 => kp_nm (fun σ12 h12 => kp_nm (fun σ14 h14 => ?_)))))))
  have n14 : ∀ r k, r ≠ 29 → σ14 r k = σ r k := fun r k n => by rw [h14, sn (by omega), h12, sn (by omega), h10, sn (by omega), h8, sn (by omega), h6, sn (by omega), h4, sn (by omega)]
  intro q hq τ25 hτ
  obtain ⟨u1, u2, u3, u4, u5, u6, u7, u8, u9, u10⟩ := hτ
  have P : PS (τ25 55) b (σ 1 6) 0 0 0 0 0 σ14 ρ2 τ25 := by
    refine ⟨⟨⟨fun k hk => ⟨?_, ?_⟩, by rw [hρ, r2_at, if_pos rfl, if_pos rfl], ?_, by rw [u7, t2], by rw [t2]; exact r15, by rw [u6]; exact hb, b5⟩, fun _ _ => rfl⟩, ⟨?_, ?_, ?_, ?_⟩, ⟨u9, u10⟩, ⟨?_, ?_⟩, 0, ⟨?_, ?_, ?_, ?_⟩, fun i hi => absurd hi (Nat.not_lt_zero _), Nat.le_refl _, fun q q1 q2 => absurd q2 (Nat.not_lt_zero _), rfl⟩
    · rw [n14 10 k (by omega), u1 (94 + k) (by omega) ⟨by omega, by omega, by omega, by omega⟩]; exact t1 k hk
    · rw [n14 10 k (by omega)]; exact bx_get hB (r := 10) (a := 0) (b := 99) (k := k) (l := -128) (h := 127) (by decide) (by omega) (by omega)
    · rw [h14, sn (by omega), h12, sn (by omega), h10, sn (by omega), h8, sn (by omega), h6, sn (by omega), h4, sv]
    all_goals have z10 : σ14 29 10 = 0 := by rw [h14, sn (by omega), h12, sn (by omega), h10, sn (by omega), h8, sn (by omega), h6, sv]
    · rw [z10, u8]
    · rw [z10]; decide
    · rw [z10]; decide
    · rw [z10, ti_0, t2]; exact r15.1
    · rw [u3, h14, sn (by omega), h12, sn (by omega), h10, sn (by omega), h8, sv]
    · rw [u4, h14, sn (by omega), h12, sn (by omega), h10, sv]
    · rw [h14, sn (by omega), h12, sv]; rfl
    · rw [h14, sv]; rfl
    · rw [u5]; rfl
    · rw [z10]; decide
  have S := sim_from (ρ' := ρ') (a2 := σ 1 6) 1024 σ14 τ25 0 0 (by decide) (by decide) P q hq 1024 1 rfl
  refine kp_mono S (fun q' hq' => ?_)
  have O := hq' (by decide)
  rw [O.1]
  exact O
theorem sim_board {m : Int} {N : Nat} {K len : Nat → Nat} {σ : SG} {ρ : RG} (hB : BX m σ) (hQ : PR N K len ρ) (hT : BT 1 10 5 55 σ σ) : kp (F_X11_board σ ρ) (fun q => ∀ (τ : SG) (ρ' : RG), τ 55 = σ 55 → kp (F_X12_board τ ρ') (fun q' => q.1 = q'.1 ∧ BT 1 10 5 55 q.2.1 q'.2)) := by
  obtain ⟨t1, t2, t3, t4⟩ := id hT
  have r12 : rg (σ 55 12) 0 5 := bx_get hB (r := 55) (a := 12) (b := 12) (k := 12) (l := 0) (h := 5) (by decide) (by decide) (by decide)
  have e5 : (5 : Int32).toInt = 5 := rfl
  unfold F_X11_board
  refine kp_ih (fun c => ?_) (fun c => kp_some (fun τ ρ' hτ => ?_))
  rotate_left
  · -- full
    have e : τ 55 12 = 5 := by
      have := le_i (nlt c)
      rw [t3] at this
      rw [hτ]
      exact ieq (by have := r12.2; omega)
    unfold F_X12_board
    refine kp_t e (kp_some ⟨rfl, ?_⟩)
    refine ⟨fun k hk => by show σ 10 k = τ 55 (94 + k); rw [hτ]; exact t1 k hk, by show σ 1 6 = τ 55 15; rw [hτ]; exact t2, by show σ 1 4 = τ 55 12; rw [hτ]; exact t3, ?_⟩
    exact hb_congr (σ' := σ) (τ' := τ) t4 (fun _ _ => rfl) (fun _ _ => rfl) (fun _ _ => rfl) (fun _ _ => rfl) (fun _ _ => rfl) (fun k _ _ => by rw [hτ])
  have lt5 := lt_i c
  rw [e5, t3] at lt5
  obtain ⟨b, hb⟩ : ∃ b : Nat, (σ 55 12).toInt = (b : Int) := ⟨(σ 55 12).toInt.toNat, by have := r12.1; omega⟩
  have b5 : b < 5 := by omega
  refine kp_bn3 (kp_and (kd_X0_readFrom hQ.1) (fun q hq (ρ' : RG) => sim_read (ρ' := ρ') hB hT hb b5 q hq)) (fun r2 σ2 ρ2 H => kp_nm (fun σ4 h4 => ?_))
  obtain ⟨HD, HR⟩ := H
  have HD : KD σ σ2 := HD
  have d4 : ∀ r k, kdP r k = true → ¬ (r = 1 ∧ k = 6) → σ4 r k = σ r k := fun r k p n => by rw [h4, sn n]; exact HD r k p
  have d29 : ∀ r k, r ≠ 1 → σ4 r k = σ2 r k := fun r k n => by rw [h4, sn (by omega)]
  -- cells of the reference's row that the board leaves alone
  have fin : ∀ (τ25 : SG), RB0 b σ τ25 → ∀ k, OT b k → k ≠ 15 → τ25 55 k = σ 55 k := fun τ25 h k o n => h.1 k n o
  refine kp_ih (fun c2 => kp_nm (fun x11 h11 => kp_some (fun τ ρ' hτ => rb_start hb b5 hτ (fun τ25 h25 => kp_mono (HR ρ' τ25 h25) (fun q' O => ?_))))) (fun c2 => kp_bn k_takes5 (fun σ6 h6 => kp_nm (fun x7 h7 => kp_nm (fun σ9 h9 => kp_nm (fun x10 h10 => kp_some (fun τ ρ' hτ => rb_start hb b5 hτ (fun τ25 h25 => kp_mono (HR ρ' τ25 h25) (fun q' O => ?_))))))))
  · -- a fault
    obtain ⟨_, ⟨z, _⟩ | ⟨_, z2, z3⟩⟩ := O
    · have z : r2 = 1 := z
      rw [z] at c2; exact absurd c2 (by decide)
    have z2 : q'.1 = -10 - σ2 29 10 := z2
    have g : ∀ k, OT b k → k ≠ 15 → q'.2 55 k = σ 55 k := fun k o n => (z3 k o).trans (fin τ25 h25 k o n)
    refine ⟨?_, ?_⟩
    · show x11 = q'.1
      rw [h11, z2, d29 29 10 (by decide)]
    show BT 1 10 5 55 σ4 q'.2
    refine ⟨fun k hk => ?_, ?_, ?_, ?_⟩
    · rw [d4 10 k rfl (by omega), g (94 + k) ⟨by omega, by omega, by omega, by omega⟩ (by omega)]; exact t1 k hk
    · rw [h4, sv, z3 15 ⟨by omega, by omega, by omega, by omega⟩]; exact h25.2.1.symm
    · rw [d4 1 4 rfl (by omega), g 12 ⟨by omega, by omega, by omega, by omega⟩ (by omega)]; exact t3
    · refine hb_congr (σ' := σ4) (τ' := q'.2) t4 (fun k _ => d4 5 k rfl (by omega)) (fun k _ => d4 6 k rfl (by omega)) (fun k _ => d4 7 k rfl (by omega)) (fun k _ => d4 8 k rfl (by omega)) (fun k _ => d4 9 k rfl (by omega)) (fun k _ hk => ?_)
      rcases hk with rfl | rfl | ⟨k1, k2⟩
      · exact g 16 ⟨by omega, by omega, by omega, by omega⟩ (by omega)
      · exact g 12 ⟨by omega, by omega, by omega, by omega⟩ (by omega)
      · exact g k (k2 b b5 hb) (by omega)
  · -- a board
    obtain ⟨_, ⟨_, z2, ca, c10, τ1, P, z4, z5, z6, z7⟩ | ⟨z, _⟩⟩ := O
    rotate_left
    · exact absurd z c2
    have P : PS (τ25 55) b (σ 1 6) 0 0 0 0 ca σ2 ρ2 τ1 := P
    obtain ⟨f1, f2, f3, f4, f5, f6⟩ := h6
    have eb : (τ1 54 5).toInt = (b : Int) := P.1.1.2.2.2.2.2.1
    have g : ∀ k, OT b k → k ≠ 15 → τ1 55 k = σ 55 k := fun k o n => (P.1.2 k o).trans (fin τ25 h25 k o n)
    have n9 : ∀ r k, ¬ (r = 1 ∧ k = 4) → σ9 r k = σ6 r k := fun r k n => by rw [h9, sn n]
    have e64 : σ6 1 4 = σ 1 4 := by rw [f1 1 4 (by omega), d4 1 4 rfl (by omega)]
    have e9 : σ9 1 4 = σ 55 12 + 1 := by rw [h9, sv, h7, e64, t3]
    refine ⟨?_, ?_⟩
    · show x10 = q'.1
      rw [z2, z4, h10, e9, Int32.add_sub_cancel]
      exact ieq (by rw [hb, eb])
    show BT 1 10 5 55 σ9 q'.2
    refine ⟨fun k hk => ?_, ?_, ?_, ?_⟩
    · rw [n9 10 k (by omega), f1 10 k (by omega), d4 10 k rfl (by omega), z7 (94 + k) (by omega) (by omega), g (94 + k) ⟨by omega, by omega, by omega, by omega⟩ (by omega)]; exact t1 k hk
    · rw [n9 1 6 (by omega), f1 1 6 (by omega), h4, sv, z7 15 (by omega) (by omega), P.1.2 15 ⟨by omega, by omega, by omega, by omega⟩]; exact h25.2.1.symm
    · rw [e9, z5, g 12 ⟨by omega, by omega, by omega, by omega⟩ (by omega)]
    · have e12 : (q'.2 55 12).toInt = (b : Int) + 1 := by rw [z5, g 12 ⟨by omega, by omega, by omega, by omega⟩ (by omega), ti_add (by rw [ti_1]; omega) (by rw [ti_1]; omega), ti_1, hb]
      exact ps_hb P c10 (by rw [z6]; exact eb) (by omega) z7 (fun k hk => by rw [n9 5 k (by omega), f2 k hk, d29 29 k (by decide)]) (fun k hk => by rw [n9 6 k (by omega), f3 k hk, d29 30 k (by decide)]) (fun k hk => by rw [n9 7 k (by omega), f4 k hk, d29 31 k (by decide)]) (fun k hk => by rw [n9 8 k (by omega), f5 k hk, d29 32 k (by decide)]) (fun k hk => by rw [n9 9 k (by omega), f6 k hk, d29 33 k (by decide)])
