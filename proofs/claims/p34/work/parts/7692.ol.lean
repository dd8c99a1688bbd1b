/-! PART 7692.ol: by hand: order, its answers -/
theorem order_l {N : Nat} {K len : Nat → Nat} {a : Int32} {σ : SG} {ρ : RG} (b : BS N K len σ ρ) : kp (F_X11_order N K len a σ ρ) (fun q => ∀ (τ : SG) (ρ' : RG), RT σ τ → kp (F_X12_order a τ ρ') (fun q' => q.1 = q'.1)) := by
  have t11 : σ 1 1 = σ 55 11 := b.2.1.1.1
  have em1 : (-1 : Int32).toInt = -1 := rfl
  have e4 : (4 : Int32).toInt = 4 := rfl
  have e5 : (5 : Int32).toInt = 5 := rfl
  have eM : (1000000 : Int32).toInt = 1000000 := rfl
  obtain ⟨c0, c6⟩ := b.2.2.2.2
  obtain ⟨C, hC⟩ : ∃ C : Nat, (σ 1 1).toInt = (C : Int) := ⟨(σ 1 1).toInt.toNat, by omega⟩
  have lq := b.2.2.2.1.1.2.1
  have l1 : σ 3 2 = σ 55 1 := b.2.2.2.1.1.1 1 (by decide)
  have l2 : σ 3 3 = σ 55 2 := b.2.2.2.1.1.1 2 (by decide)
  unfold F_X11_order
  refine kp_bn (kp_ok wi_0) (fun r1 h1 => kp_ih (fun c => kp_some (fun τ ρ' t => ?_)) (fun c => kp_ih (fun d5 => kp_bn (k_start8 b.1.1) (fun σ4 h4 => ?_)) (fun d5 => kp_some (fun τ ρ' t => ?_))))
  · have n : ¬ ((-1 : Int32) ≤ a ∧ a ≤ (4 : Int32)) := fun q => h1.2.mpr q c
    unfold F_X12_order
    exact kp_bn (kp_ok in_0) (fun r g => kp_ih (fun _ => kp_some rfl) (fun z => absurd (g.2.mp z) n))
  rotate_left
  · have y := h1.2.mp c
    unfold F_X12_order
    refine kp_bn (kp_ok in_0) (fun r g => kp_f (g.2.mpr y) (kp_f ?_ (kp_some rfl)))
    rw [t 55 11 (by decide) (by decide), ← t11]; exact d5
  have y := h1.2.mp c
  have yg := rc_i y
  rw [em1, e4] at yg
  have d5i := le_i d5
  have C5 : C ≤ 5 := by omega
  refine kp_bn (ord_R b hC C5 8 0 0 0 0 σ4 rfl (by omega) h4.1 (by rw [h4.2.1 2 (by decide), l1]; exact lq.1) (by rw [h4.2.1 3 (by decide), l2]; exact lq.2.1) ⟨by decide, by decide⟩) (fun σ5 h5 => ?_)
  obtain ⟨g1, -, -, g6⟩ := h5
  -- the reference, up to its question
  have ref : ∀ (τ : SG) (ρ' : RG) (v : Int32), RT σ τ → (∀ σ7 : SG, FB C σ5 σ7 → kp (if a < 0 then (if (σ7 54 25) = (1000000 : Int32) then some ((-5 : Int32), σ7) else some ((σ7 54 25), σ7)) else gd (inb a 5) <| some ((σ7 62 (a).toNatClampNeg), σ7)) (fun q' => v = q'.1)) → kp (F_X12_order a τ ρ') (fun q' => v = q'.1) := fun τ ρ' v t k => by
    have et := et_rt b t
    have lss := lss_t b.1 b.2.2.2.1 t
    obtain ⟨x1, x2, -⟩ := lss.1
    have loop : ∀ (n : Nat) (τ1 : SG) (v2 : Int32), 0 ≤ v2.toInt → v2.toInt ≤ 5 → (∀ r x, r ≠ 62 → τ1 r x = τ r x) → (∀ x : Nat, (x : Int) < v2.toInt → τ1 62 x = -5) → kp (F_X12_order_27 a n τ1 ρ' a v2) (fun q' => v = q'.1) := by
      intro n
      induction n with
      | zero => intro τ1 v2 _ _ _ _; exact kp_none
      | succ n ih =>
        intro τ1 v2 n0 n5 hr hz
        unfold F_X12_order_27
        refine kp_ih (fun d => kp_nm (fun τ5 g5 => ?_)) (fun d => kp_gd (fun _ => kp_nm (fun σ13 h13 => kp_nm (fun x14 h14 => ?_))))
        · have d5' := le_i d
          have u5 : ∀ r x, r ≠ 62 → ¬ (r = 54 ∧ x = 25) → τ5 r x = τ r x := fun r x h h' => by rw [g5, sn h']; exact hr r x h
          have z25 : τ5 54 25 = 1000000 := by rw [g5, sv]
          have OW0 : OW C 0 σ σ4 τ5 := by
            refine ⟨⟨fun x hx => by rw [u5 55 x (by decide) (by omega)]; exact et.1 x hx, by rw [u5 54 17 (by decide) (by omega)]; exact et.2.1, by rw [u5 54 18 (by decide) (by omega)]; exact et.2.2⟩, ⟨?_, ?_, ?_, ?_, ?_⟩, ⟨by rw [u5 55 1 (by decide) (by omega)]; exact x2.1, by rw [u5 55 2 (by decide) (by omega)]; exact x2.2.1, by rw [u5 55 3 (by decide) (by omega)]; exact x2.2.2⟩, fun k hk => absurd hk (by omega), ⟨fun _ => ⟨z25, fun x hx => ?_⟩, fun q => absurd h4.2.2 q⟩⟩
            · exact (h4.2.1 1 (by decide)).trans ((x1 0 (by decide)).trans (u5 55 0 (by decide) (by omega)).symm)
            · exact (h4.2.1 2 (by decide)).trans ((x1 1 (by decide)).trans (u5 55 1 (by decide) (by omega)).symm)
            · exact (h4.2.1 3 (by decide)).trans ((x1 2 (by decide)).trans (u5 55 2 (by decide) (by omega)).symm)
            · exact (h4.2.1 4 (by decide)).trans ((x1 3 (by decide)).trans (u5 55 3 (by decide) (by omega)).symm)
            · exact (h4.2.1 5 (by decide)).trans ((x1 4 (by decide)).trans (u5 55 4 (by decide) (by omega)).symm)
            · rw [g5, sn (by omega)]; exact hz x (by omega)
          unfold F_X12_ordersFrom
          exact kp_bn (g6 7 τ5 ρ' (by decide) OW0) (fun σ7 k7 => k σ7 k7.1.2.2.2.2)
        · have d5' := lt_i (nle d)
          have e14 : x14.toInt = v2.toInt + 1 := by rw [h14, ti_add (by rw [ti_1]; omega) (by rw [ti_1]; omega), ti_1]
          have c0' := cl0 n0
          refine ih σ13 x14 (by omega) (by omega) (fun r x h => by rw [h13, s2_ne r h]; exact hr r x h) (fun x hx => ?_)
          rw [h13]
          by_cases w : x = v2.toNatClampNeg
          · rw [w, sv]
          · rw [sn (by omega)]; exact hz x (by omega)
    unfold F_X12_order
    refine kp_bn (kp_ok in_0) (fun r g => kp_f (g.2.mpr y) (kp_t ?_ (loop 1024 τ 0 (by decide) (by decide) (fun _ _ _ => rfl) (fun x hx => by rw [ti_0] at hx; omega))))
    rw [t 55 11 (by decide) (by decide), ← t11]; exact d5
  have w11 : σ5 1 1 = σ 1 1 := kd_lo g1 (by decide) (by decide)
  have val : ∀ (k : Nat) (v : Int32) (σ7 : SG), a.toInt = (k : Int) → v = σ7 62 k → kp (if a < 0 then (if (σ7 54 25) = (1000000 : Int32) then some ((-5 : Int32), σ7) else some ((σ7 54 25), σ7)) else gd (inb a 5) <| some ((σ7 62 (a).toNatClampNeg), σ7)) (fun q' => v = q'.1) := fun k v σ7 hk e => kp_f (fun q => by have := lt_i q; rw [ti_0] at this; omega) (kp_gd (fun _ => kp_some (by rw [cn hk]; exact e)))
  refine kp_ih (fun z0 => kp_some (fun τ ρ' t => ref τ ρ' _ t (fun σ7 fb => ?_))) (fun z0 => ?_)
  · -- no order stands
    obtain ⟨f1, f2⟩ := fb.1 z0
    by_cases an : a < 0
    · exact kp_t an (kp_t f1 (kp_some rfl))
    · have a0 := le_i (nlt an)
      rw [ti_0] at a0
      exact val a.toNatClampNeg _ σ7 (cl0 a0).symm (f2 _ (by have := cl0 a0; omega)).symm
  rw [w11]
  refine kp_ih (fun z1 => kp_ih (fun z2 => ?_) (fun z2 => kp_some (fun τ ρ' t => ref τ ρ' _ t (fun σ7 fb => ?_)))) (fun z1 => kp_some (fun τ ρ' t => ref τ ρ' _ t (fun σ7 fb => ?_)))
  · have a0 := le_i z2
    rw [ti_0] at a0
    have aC := lt_i z1
    have hk := (cl0 a0).symm
    refine kp_bn (k_val (q := 36) (n := 6) (j := a.toNatClampNeg) hk (by omega) (by decide)) (fun r9 h9 => kp_some (fun τ ρ' t => ref τ ρ' _ t (fun σ7 fb => val _ _ σ7 hk ?_)))
    show r9 = σ7 62 a.toNatClampNeg
    rw [h9]; exact ((fb.2 z0).2.2.1 _ (by omega)).symm
  · obtain ⟨f1, f2, -, -⟩ := fb.2 z0
    refine kp_t (i_lt (by have := lt_i (nle z2); exact this)) (kp_f (fun q => ?_) (kp_some ?_))
    · rw [f1] at q; rw [q, eM] at f2; omega
    · exact f1.symm
  · have a1 := le_i (nlt z1)
    have an : ¬ a < 0 := fun q => by have := lt_i q; rw [ti_0] at this; omega
    have a0 := le_i (nlt an)
    rw [ti_0] at a0
    exact val a.toNatClampNeg _ σ7 (cl0 a0).symm ((fb.2 z0).2.2.2 _ (by have := cl0 a0; omega) (by have := cl0 a0; omega)).symm
