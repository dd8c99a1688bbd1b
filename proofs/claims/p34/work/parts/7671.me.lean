/-! PART 7671.me: by hand: what a slice weighs; Euclid on both sides; mean -/
theorem wgh_8 {i : Nat} {b1 b2 b3 v1 v2 v3 : Int32} {ρ : RG} (h1 : rg v1 0 100) (h2 : rg v2 (-198) 198) (h3 : rg v3 (-198) 198) : ∀ (n k : Nat) (σ : SG) (v4 : Int32), v4.toInt = (k : Int) → k ≤ 4 → 0 ≤ (σ i 6).toInt → (σ i 6).toInt ≤ 600 * (k : Int) → kp (F_X3_weigh_8 i b1 b2 b3 n σ ρ v1 v2 v3 v4) (fun q => 0 ≤ (q i 6).toInt ∧ (q i 6).toInt ≤ 2400) := by
  have e4 : (4 : Int32).toInt = 4 := rfl
  intro n
  induction n with
  | zero => intro k σ v4 _ _ _ _; exact kp_none
  | succ n ih =>
    intro k σ v4 hk hk4 w0 w1
    unfold F_X3_weigh_8
    refine kp_ih (fun c => kp_some ⟨w0, by omega⟩) (fun c => kp_bn (k_across hk) (fun r4 g4 => kp_nm (fun x5 g5 => kp_nm (fun x6 g6 => kp_nm (fun x7 g7 => kp_nm (fun σ9 g9 => ?_))))))
    have c4 := lt_i (nle c)
    have ra := acr_rg (k := k) h2 h3
    rw [← g4] at ra
    have a1 := ra.1
    have a2 := ra.2
    have b1' := h1.1
    have b2' := h1.2
    have e5 : x5.toInt = v1.toInt + r4.toInt := by rw [g5, ti_add (by omega) (by omega)]
    have e6 : 0 ≤ x6.toInt ∧ x6.toInt ≤ 600 := by
      by_cases z : 0 < x5
      · rw [if_pos z] at g6
        have := lt_i z
        rw [ti_0] at this
        rw [g6]; exact ⟨by omega, by omega⟩
      · rw [if_neg z] at g6
        rw [g6]; exact ⟨by decide, by decide⟩
    have e7 : x7.toInt = (σ i 6).toInt + x6.toInt := by rw [g7, ti_add (by omega) (by omega)]
    have w9 : (σ9 i 6).toInt = (σ i 6).toInt + x6.toInt := by rw [g9, sv]; exact e7
    have last : ∀ (s : SG) (y : Int32), s i 6 = σ9 i 6 → kp (F_X3_weigh_83 i b1 b2 b3 (F_X3_weigh_8 i b1 b2 b3 n) s ρ v1 v2 v3 v4 y) (fun q => 0 ≤ (q i 6).toInt ∧ (q i 6).toInt ≤ 2400) := fun s y hs => by
      unfold F_X3_weigh_83
      refine kp_nm (fun σ17 g17 => kp_nm (fun x18 g18 => ?_))
      have e18 : x18.toInt = ((k + 1 : Nat) : Int) := by rw [g18, ti_add (by rw [ti_1]; omega) (by rw [ti_1]; omega), ti_1, hk]; omega
      have w17 : σ17 i 6 = σ9 i 6 := by rw [g17, sn (by omega)]; exact hs
      exact ih (k + 1) σ17 x18 e18 (by omega) (by rw [w17]; omega) (by rw [w17]; omega)
    have mid : ∀ (y z : Int32), kp (F_X3_weigh_60 i b1 b2 b3 (F_X3_weigh_8 i b1 b2 b3 n) σ9 ρ v1 v2 v3 v4 y z) (fun q => 0 ≤ (q i 6).toInt ∧ (q i 6).toInt ≤ 2400) := fun y z => by
      unfold F_X3_weigh_60
      refine kp_nm (fun σ13 g13 => ?_)
      have w13 : σ13 i 6 = σ9 i 6 := by rw [g13, sn (by omega)]
      exact kp_if (last σ13 y w13) (kp_nm (fun x15 _ => last σ13 x15 w13))
    exact kp_if (mid x6 x6) (kp_nm (fun x11 _ => mid x6 x11))
theorem wgh_111 {N : Nat} {K len : Nat → Nat} {i z q0 : Nat} {a2 a4 a5 v2 v5 v6 v7 v8 v9 v11 v12 k1 : Int32} {σ : SG} {ρ : RG} (hu : rg (σ i 2) (-99) 99) (hs : rg (σ i 3) (-99) 99) (ht : rg v2 0 100) (hv : rg v12 (-99) 99) : kp (F_X3_tryCut_111 N K len i z a2 a4 a5 σ ρ v2 v5 v6 v7 v8 v9 v11 v12 q0 k1) (fun q => q.1 = 1 → 0 ≤ (q.2 i 6).toInt ∧ (q.2 i 6).toInt ≤ 2400) := by
  unfold F_X3_tryCut_111
  refine kp_gd (fun _ => kp_bx (fun r10 => kp_nm (fun x11 _ => kp_bn k_held (fun r12 g12 => kp_nm (fun x13 g13 => kp_nm (fun x14 g14 => ?_))))))
  have r12 : rg r12 (-99) 99 := by rw [g12]; exact hld_rg _
  have sub : ∀ a b c : Int32, rg a (-99) 99 → rg b (-99) 99 → c = a - b → rg c (-198) 198 := fun a b c ha hb hc => by
    have a1 := ha.1
    have a2 := ha.2
    have b1 := hb.1
    have b2 := hb.2
    have e : c.toInt = a.toInt - b.toInt := by rw [hc, ti_sub (by omega) (by omega)]
    exact ⟨by omega, by omega⟩
  have w : kp (F_X3_weigh i v2 x13 x14 σ ρ) (fun q => 0 ≤ (q i 6).toInt ∧ (q i 6).toInt ≤ 2400) := by
    unfold F_X3_weigh
    exact kp_nm (fun σ2 g2 => wgh_8 ht (sub _ _ _ hu hv g13) (sub _ _ _ hs r12 g14) 1024 0 σ2 0 rfl (by decide) (by rw [g2, sv]; decide) (by rw [g2, sv]; decide))
  refine kp_bn w (fun σ15 g15 => kp_nm (fun x16 _ => kp_nm (fun σ18 g18 => kp_nm (fun σ20 g20 => kp_nm (fun σ22 g22 => ?_)))))
  have w22 : σ22 i 6 = σ15 i 6 := by rw [g22, sn (by omega), g20, sn (by omega), g18, sn (by omega)]
  have fin : kp (F_X3_tryCut_180 N K len i z a2 a4 a5 σ22 ρ) (fun q => q.1 = 1 → 0 ≤ (q.2 i 6).toInt ∧ (q.2 i 6).toInt ≤ 2400) := by
    unfold F_X3_tryCut_180
    refine kp_nm (fun x24 _ => kp_nm (fun σ26 g26 => kp_some (fun _ => ?_)))
    show 0 ≤ (σ26 i 6).toInt ∧ (σ26 i 6).toInt ≤ 2400
    rw [g26, sn (by omega), w22]; exact g15
  exact kp_if (kp_bx (fun r27 => kp_if (kp_nm (fun σ30 _ => kp_nm (fun σ32 _ => kp_nm (fun σ34 _ => kp_nm (fun σ36 _ => kp_some (fun q => absurd q (show ¬ (0 : Int32) = 1 by decide))))))) fin)) fin
theorem wgh_try {N : Nat} {K len : Nat → Nat} {i c : Nat} {th a5 : Int32} {σ : SG} {ρ : RG} (hc : isC N K c = true) (hci : c ≠ i + 1) (hu : rg (σ i 2) (-99) 99) (hs : rg (σ i 3) (-99) 99) (ht : rg th 0 100) : kp (F_X3_tryCut N K len i c th 0 a5 σ ρ) (fun q => q.1 = 1 → 0 ≤ (q.2 i 6).toInt ∧ (q.2 i 6).toInt ≤ 2400) := by
  unfold F_X3_tryCut
  refine kp_bn (k_note hc hci) (fun σ1 h1 => kp_bx (fun r2 => kp_bx (fun r3 => ?_)))
  have u1 : rg (σ1 i 2) (-99) 99 := by rw [h1.1 i 2 (by omega)]; exact hu
  have s1 : rg (σ1 i 3) (-99) 99 := by rw [h1.1 i 3 (by omega)]; exact hs
  have prep : kp (F_v_prepare N K len c i σ1 ρ) (fun q => rg (q i 2) (-99) 99 ∧ rg (q i 3) (-99) 99) := by
    unfold F_v_prepare
    refine kp_if (kp_bx (fun _ => kp_some ⟨u1, s1⟩)) (kp_if (kp_bx (fun _ => kp_some ⟨u1, s1⟩)) (kp_if ?_ (kp_if ?_ (kp_if (kp_bx (fun _ => kp_some ⟨u1, s1⟩)) (kp_if (kp_bx (fun _ => kp_some ⟨u1, s1⟩)) (kp_if (kp_bx (fun _ => kp_some ⟨u1, s1⟩)) kp_none))))))
    · unfold F_X4_prepare
      refine kp_nm (fun x1 y1 => kp_nm (fun σ3 y3 => kp_some ⟨?_, ?_⟩))
      · rw [y3, sv, y1]; exact rg_ng u1
      · rw [y3, sn (by omega)]; exact s1
    · unfold F_X5_prepare
      refine kp_bn2 k_straight (fun r1 σ3 y => kp_some ?_)
      obtain ⟨-, -, -, y3, y4, -⟩ := y
      have y3 : σ3 i 2 = 0 := y3
      have y4 : σ3 i 3 = 0 := y4
      exact ⟨by rw [y3]; exact ⟨by decide, by decide⟩, by rw [y4]; exact ⟨by decide, by decide⟩⟩
  refine kp_bn prep (fun σ4 h4 => ?_)
  have go : ∀ k1 : Int32, kp (F_X3_tryCut_80 N K len i c th 0 a5 σ4 ρ c th 0 a5 (σ i 1) (σ i 2) (σ i 3) (σ i 5) r2 r3 c k1) (fun q => q.1 = 1 → 0 ≤ (q.2 i 6).toInt ∧ (q.2 i 6).toInt ≤ 2400) := fun k1 => by
    unfold F_X3_tryCut_80
    refine kp_gd (fun _ => kp_gd (fun _ => kp_bx (fun r6 => kp_nm (fun x7 _ => kp_bn k_held (fun r8 g8 => ?_)))))
    have r8' : rg r8 (-99) 99 := by rw [g8]; exact hld_rg _
    exact kp_if (wgh_111 h4.1 h4.2 ht r8') (kp_nm (fun x37 _ => wgh_111 h4.1 h4.2 ht r8'))
  exact kp_if (go _) (kp_nm (fun x38 _ => go _))
theorem wgh_step {N : Nat} {K len : Nat → Nat} {c : Nat} {σ' : SG} {ρ : RG} (hL : Lay N K len ρ) (hcc : isC N K c = true) (hu : rg (σ' 40 2) (-99) 99) (hs : rg (σ' 40 3) (-99) 99) (ht : rg (σ' c 4) 0 100) : kp (F_X11_tryStep N K len 0 c 0 σ' ρ) (fun q => q.1 = 1 → 0 ≤ (q.2 42 6).toInt ∧ (q.2 42 6).toInt ≤ 2400) := by
  have c65 := ck_65 hL hcc
  unfold F_X11_tryStep
  refine kp_f (by decide) (kp_nm (fun x2 h2 => kp_t (by rw [h2]; decide) (kp_nm (fun x4 h4 => kp_gd (fun _ => ?_)))))
  have n4 : x4.toNatClampNeg = 1 := by rw [h4]; rfl
  rw [n4, ly34 hL (by decide : 1 < 7)]
  show kp (gd (isLb _) _) _
  refine kp_gd (fun _ => kp_gd (fun _ => ?_))
  rw [show ρ 34 (0 : Int32).toNatClampNeg = some 40 from ly34 hL (by decide : 0 < 7)]
  show kp (gd (isLb _) _) _
  refine kp_gd (fun _ => kp_bn (k_tk (by decide)) (fun σ9 h9 => kp_nm (fun x10 h10 => kp_gd (fun _ => ?_))))
  have n10 : x10.toNatClampNeg = 1 := by rw [h10]; rfl
  rw [n10, ly34 hL (by decide : 1 < 7)]
  show kp (gd (isLb _) _) _
  refine kp_gd (fun _ => kp_t rfl ?_)
  have h9' : (∀ r k, ¬ (r = 42 ∧ k ≤ 8) → σ9 r k = σ' r k) ∧ ∀ k, k ≤ 5 → σ9 42 k = σ' 40 k := h9
  unfold F_X11_tryStep_59
  refine kp_gd (fun _ => kp_gd (fun _ => kp_bn2 (wgh_try (i := 42) hcc (by omega) (by rw [h9'.2 2 (by decide)]; exact hu) (by rw [h9'.2 3 (by decide)]; exact hs) (by rw [h9'.1 c 4 (by omega)]; exact ht)) (fun r14 σ14 h14 => kp_gd (fun _ => kp_some h14))))
/-! Euclid -/
theorem i64 {x y : Int64} (h : x.toInt = y.toInt) : x = y := Int64.toInt_inj.mp h
theorem euc_same {a1 a2 a1' a2' : Int64} {a3 a3' : Int32} {σ τ : SG} {ρ ρ' : RG} {v0 v2 : Int64} {v4 : Int32} : ∀ (n : Nat) (v5 v7 : Int64) (v9 : Int32), 0 ≤ v5.toInt → 0 ≤ v7.toInt → 0 ≤ v9.toInt → v9.toInt + v7.toInt ≤ 100 → (v7 = 0 → ¬ v5 = 0) → kp (F_X11_partOf_9 a1 a2 a3 n σ ρ v0 v2 v4 v5 v7 v9) (fun q => ∀ m : Nat, kp (F_X12_lowest_6 a1' a2' a3' m τ ρ' v0 v2 v4 v5 v7) (fun q' => q = q')) := by
  have e128 : (128 : Int32).toInt = 128 := rfl
  intro n
  induction n with
  | zero => intro v5 v7 v9 _ _ _ _ _; exact kp_none
  | succ n ih =>
    intro v5 v7 v9 h5 h7 h9 hs h0
    unfold F_X11_partOf_9
    refine kp_f (fun z => by have := le_i z; omega) (kp_nm (fun x10 g10 => kp_ih (fun z => ?_) (fun z => kp_gd (fun _ => kp_nm (fun x13 g13 => kp_nm (fun x14 g14 => ?_))))))
    · have e7 : v7 = 0 := cmp0 g10 z
      have n5 := h0 e7
      have ref : ∀ (m : Nat) (q : Int64), q = (if v4 = 0 then v0 / v5 else v2 / v5) → kp (F_X12_lowest_6 a1' a2' a3' m τ ρ' v0 v2 v4 v5 v7) (fun q' => q = q') := fun m q hq => by
        cases m with
        | zero => exact kp_none
        | succ m =>
          unfold F_X12_lowest_6
          refine kp_nm (fun x1 g1 => kp_t (by rw [g1, e7]; rfl) (kp_ih (fun y => kp_gd (fun _ => kp_nm (fun x7 g7 => kp_some ?_))) (fun y => kp_gd (fun _ => kp_nm (fun x5 g5 => kp_some ?_)))))
          · rw [hq, if_pos y, g7]
          · rw [hq, if_neg y, g5]
      unfold F_X11_partOf_45
      refine kp_nm (fun x2 g2 => kp_f (fun y => n5 (cmp0 g2 y)) (kp_ih (fun y => kp_gd (fun _ => kp_nm (fun x8 g8 => kp_some (fun m => ref m _ (by rw [if_pos y, g8]))))) (fun y => kp_gd (fun _ => kp_nm (fun x6 g6 => kp_some (fun m => ref m _ (by rw [if_neg y, g6])))))))
    · have n7 : ¬ v7 = 0 := lcmp_ne g10 z
      have i7 : v7.toInt ≠ 0 := fun y => n7 (i64 (by rw [y]; rfl))
      have e13 : x13.toInt = v5.toInt % v7.toInt := by rw [g13, ti64_rem i7, Int.tmod_eq_emod_of_nonneg h5]
      have b1 := Int.emod_nonneg v5.toInt i7
      have b2 := Int.emod_lt_of_pos v5.toInt (show 0 < v7.toInt by omega)
      have e14 : x14.toInt = v9.toInt + 1 := by rw [g14, ti_add (by rw [ti_1]; omega) (by rw [ti_1]; omega), ti_1]
      refine kp_mono (ih v7 x13 x14 h7 (by omega) (by omega) (by omega) (fun _ => n7)) (fun q hq m => ?_)
      cases m with
      | zero => exact kp_none
      | succ m =>
        unfold F_X12_lowest_6
        refine kp_nm (fun x1 g1 => kp_f (fun y => n7 (cmp0 g1 y)) (kp_gd (fun _ => kp_nm (fun x9 g9 => ?_))))
        have e : x9 = x13 := by rw [g9, g13]
        rw [e]; exact hq m
theorem euc9 {a1 a2 : Int64} {a3 : Int32} {σ τ : SG} {ρ ρ' : RG} (h1 : 0 ≤ a1.toInt) (h2 : 1 ≤ a2.toInt) (h2' : a2.toInt ≤ 50) : ∀ n m : Nat, kp (F_X11_partOf_9 a1 a2 a3 n σ ρ a1 a2 a3 a2 a1 0) (fun q => kp (F_X12_lowest_6 a1 a2 a3 m τ ρ' a1 a2 a3 a1 a2) (fun q' => q = q')) := by
  have z64 : (0 : Int64).toInt = 0 := rfl
  have n2 : ¬ a2 = 0 := fun z => by rw [z, z64] at h2; omega
  have i2 : a2.toInt ≠ 0 := by omega
  intro n m
  cases m with
  | zero => exact fun _ _ => kp_none
  | succ m =>
    by_cases z : a1 = 0
    · -- nothing was eaten: both divide by the count
      refine kp_mono (euc_same (a1' := a1) (a2' := a2) (a3' := a3) (τ := τ) (ρ' := ρ') n a2 a1 0 (by omega) h1 (by decide) (by rw [z, z64]; decide) (fun _ => n2)) (fun q hq => ?_)
      unfold F_X12_lowest_6
      refine kp_nm (fun x1 g1 => kp_f (fun y => n2 (cmp0 g1 y)) (kp_gd (fun _ => kp_nm (fun x9 g9 => ?_))))
      have e9 : x9 = a1 := i64 (by rw [g9, ti64_rem i2, z, z64]; exact Int.zero_tmod _)
      rw [e9]; exact hq m
    have i1 : a1.toInt ≠ 0 := fun y => z (i64 (by rw [y]; rfl))
    cases n with
    | zero => exact kp_none
    | succ n =>
      unfold F_X11_partOf_9
      refine kp_f (by decide) (kp_nm (fun x10 g10 => kp_f (fun y => z (cmp0 g10 y)) (kp_gd (fun _ => kp_nm (fun x13 g13 => kp_nm (fun x14 g14 => ?_))))))
      have e13 : x13.toInt = a2.toInt % a1.toInt := by rw [g13, ti64_rem i1, Int.tmod_eq_emod_of_nonneg (by omega)]
      have b1 := Int.emod_nonneg a2.toInt i1
      have b2 := Int.emod_lt_of_pos a2.toInt (show 0 < a1.toInt by omega)
      have b3 : a2.toInt % a1.toInt ≤ a2.toInt := by
        rcases (show a2.toInt < a1.toInt ∨ a1.toInt ≤ a2.toInt by omega) with l | l
        · rw [Int.emod_eq_of_lt (by omega) l]; exact Int.le_refl _
        · omega
      have e14 : x14 = 1 := by rw [g14]; decide
      have e14i : x14.toInt = 1 := by rw [e14]; rfl
      refine kp_mono (euc_same (a1' := a1) (a2' := a2) (a3' := a3) (τ := τ) (ρ' := ρ') n a1 x13 x14 h1 (by omega) (by omega) (by omega) (fun _ => z)) (fun q hq => ?_)
      rcases Int.lt_trichotomy a1.toInt a2.toInt with lt | eq | gt
      · -- one more step of the reference leads where the class began
        unfold F_X12_lowest_6
        refine kp_nm (fun x1 g1 => kp_f (fun y => n2 (cmp0 g1 y)) (kp_gd (fun _ => kp_nm (fun x9 g9 => ?_))))
        have e9 : x9 = a1 := i64 (by rw [g9, ti64_rem i2, Int.tmod_eq_emod_of_nonneg h1]; exact Int.emod_eq_of_lt h1 lt)
        rw [e9]
        cases m with
        | zero => exact kp_none
        | succ m =>
          unfold F_X12_lowest_6
          refine kp_nm (fun x1' g1' => kp_f (fun y => z (cmp0 g1' y)) (kp_gd (fun _ => kp_nm (fun y9 k9 => ?_))))
          have e : y9 = x13 := by rw [k9, g13]
          rw [e]; exact hq m
      · have ea : a1 = a2 := i64 eq
        unfold F_X12_lowest_6
        refine kp_nm (fun x1 g1 => kp_f (fun y => n2 (cmp0 g1 y)) (kp_gd (fun _ => kp_nm (fun x9 g9 => ?_))))
        have e9 : x9 = x13 := i64 (by rw [g9, ti64_rem i2, Int.tmod_eq_emod_of_nonneg h1, e13, eq])
        rw [e9]
        have w := hq m
        rw [ea] at w ⊢; exact w
      · have ex : x13 = a2 := i64 (by rw [e13]; exact Int.emod_eq_of_lt (by omega) gt)
        rw [ex] at hq
        exact hq (m + 1)
theorem euc {a1 a2 : Int64} {a3 : Int32} {σ τ : SG} {ρ ρ' : RG} (h1 : 0 ≤ a1.toInt) (h2 : 1 ≤ a2.toInt) (h2' : a2.toInt ≤ 50) : kp (F_X11_partOf a1 a2 a3 σ ρ) (fun q => kp (F_X12_lowest a1 a2 a3 τ ρ') (fun q' => q = q')) := by
  unfold F_X11_partOf F_X12_lowest
  exact euc9 h1 h2 h2' _ _
