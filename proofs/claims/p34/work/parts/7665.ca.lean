/-! PART 7665.ca: by hand: cancel, side by side -/
/-- the best so far: class (slope, which), reference (which, slope) -/
def BST (v1 v2 u1 u2 : Int32) : Prop := u1 = v2 ∧ (v2 = -5 → u2 = 1000000) ∧ (¬ v2 = -5 → u2 = v1)
theorem k_slope0 {i : Nat} {σ : SG} {ρ : RG} : kp (F_X3_slope i σ ρ) (fun q => q = babs (σ i 2) + babs (σ i 3)) := k_slope
theorem babs_rg {a : Int32} (h : rg a (-99) 99) : rg (babs a) 0 99 := by
  obtain ⟨h1, h2⟩ := h
  unfold babs
  by_cases z : 0 ≤ a
  · rw [if_pos z]; have := le_i z; rw [ti_0] at this; exact ⟨by omega, h2⟩
  · rw [if_neg z]
    have z' := lt_i (nle z)
    rw [ti_0] at z'
    have e : (0 - a).toInt = - a.toInt := by rw [ti_sub (by rw [ti_0]; omega) (by rw [ti_0]; omega), ti_0]; omega
    exact ⟨by omega, by omega⟩
/-- what the reference finds at two cutters, one behind the other, from the face as it was -/
def TWO (σ : SG) (i j : Nat) (J1 J2 : Int32) (f1 f2 : Prop) (s : Int32) : Prop := ∀ (τ : SG) (ρ' : RG), HOME σ τ → kp (F_X12_cuts J1 (σ 55 (44 + i)) τ ρ') (fun q => AWAY σ q.2 ∧ ((¬ f1 ∧ q.1 = 0) ∨ (f1 ∧ q.1 = 1 ∧ kp (F_X12_cuts J2 (σ 55 (44 + j)) q.2 ρ') (fun q2 => AWAY σ q2.2 ∧ ((¬ f2 ∧ q2.1 = 0) ∨ (f2 ∧ q2.1 = 1 ∧ babs (q2.2 55 1) + babs (q2.2 55 2) = s ∧ s.toInt ≤ 198))))))
theorem cancel_ref {N : Nat} {K len : Nat → Nat} {σ : SG} {ρ : RG} (b : BS N K len σ ρ) {C : Nat} (hC : (σ 1 1).toInt = (C : Int)) {i j : Nat} {J1 J2 s : Int32} {f1 f2 : Prop} (h1 : J1.toInt = (i : Int)) (h2 : J2.toInt = (j : Int)) (hi : i < C) (hj : j < C) (T : TWO σ i j J1 J2 f1 f2 s) (m : Nat) (τ : SG) (ρ' : RG) (u1 u2 v3 : Int32) (P : Int32 × SG → Prop) (hm : HOME σ τ) (hv : v3.toInt = (i : Int) * C + j) (no : (¬ f1 ∨ ¬ f2 ∨ (u2 ≤ s ∧ s.toInt ≤ 198)) → ∀ (m' : Nat) (τ' : SG) (x13 : Int32), HOME σ τ' → x13.toInt = v3.toInt + 1 → kp (F_X12_cancel_12 m' τ' ρ' u1 u2 x13) P) (yes : f1 → f2 → ¬ u2 ≤ s → ∀ (m' : Nat) (τ' : SG) (x13 : Int32), HOME σ τ' → x13.toInt = v3.toInt + 1 → kp (F_X12_cancel_12 m' τ' ρ' (10 * J1 + J2) s x13) P) : kp (F_X12_cancel_12 m τ ρ' u1 u2 v3) P := by
  have t11 : σ 1 1 = σ 55 11 := b.2.1.1.1
  obtain ⟨c0, c6⟩ := b.2.2.2.2
  have C6 : C ≤ 6 := by omega
  have h0 : (0 : Int) ≤ (i : Int) * C := Int.mul_nonneg (by omega) (by omega)
  have hlt : (i : Int) * C + j < C * C := by
    have : i * C + j < C * C := by
      have h1 : (i + 1) * C ≤ C * C := Nat.mul_le_mul_right C hi
      have h2 : (i + 1) * C = i * C + C := Nat.succ_mul i C
      omega
    have h3 : ((i * C + j : Nat) : Int) < ((C * C : Nat) : Int) := by omega
    rw [Int.natCast_add, Int.natCast_mul, Int.natCast_mul] at h3; exact h3
  have hCC : (C : Int) * C ≤ 36 := by
    have h1 : C * C ≤ 6 * 6 := Nat.mul_le_mul C6 C6
    have : ((C * C : Nat) : Int) ≤ 36 := by omega
    rw [Int.natCast_mul] at this; exact this
  have hd : v3.toInt / (C : Int) = i := by rw [hv, Int.add_comm, Int.add_mul_ediv_right _ _ (by omega), Int.ediv_eq_zero_of_lt (by omega) (by omega)]; omega
  have hr : v3.toInt % (C : Int) = j := by rw [hv, Int.add_comm, Int.add_mul_emod_self_right]; exact Int.emod_eq_of_lt (by omega) (by omega)
  cases m with
  | zero => exact kp_none
  | succ m =>
    have w11 : τ 55 11 = σ 1 1 := by rw [hm.1.1 11 (by decide), ← t11]
    unfold F_X12_cancel_12
    rw [w11]
    refine kp_nm (fun x2 g2 => kp_f (fun z => ?_) (kp_gd (fun _ => kp_nm (fun x5 g5 => kp_gd (fun _ => kp_nm (fun x7 g7 => kp_nm (fun x8 g8 => kp_gd (fun _ => ?_))))))))
    · have z := le_i z
      have : x2.toInt = (C : Int) * C := by rw [g2, Int32.toInt_mul, hC, bmod_id (by omega) (by omega)]
      omega
    have e5 : x5 = J1 := ieq (by rw [g5, Int32.toInt_div, hC, Int.tdiv_eq_ediv_of_nonneg (by omega), hd, bmod_id (by omega) (by omega), h1])
    have e7 : x7 = J2 := ieq (by rw [g7, ti_rem (by omega), hC, Int.tmod_eq_emod_of_nonneg (by omega), hr, h2])
    rw [e5] at g8 ⊢
    rw [e7]
    rw [jn h1 (by omega) g8, hm.1.1 (44 + i) (by omega)]
    have nx : ∀ x13 : Int32, x13 = v3 + 1 → x13.toInt = v3.toInt + 1 := fun x13 h => by rw [h, ti_add (by rw [ti_1]; omega) (by rw [ti_1]; omega), ti_1]
    have nope : ∀ τ1 : SG, AWAY σ τ1 → (¬ f1 ∨ ¬ f2 ∨ (u2 ≤ s ∧ s.toInt ≤ 198)) → kp (F_X12_cancel_143 (F_X12_cancel_12 m) τ1 ρ' u1 u2 v3) P := fun τ1 aw z => by
      unfold F_X12_cancel_143
      exact kp_bn (home_back aw) (fun τ2 k2 => kp_nm (fun x13 k13 => no z m τ2 x13 k2.1 (nx x13 k13)))
    refine kp_bn2 (T τ ρ' hm) (fun r10 τ10 k10 => ?_)
    obtain ⟨aw, q⟩ := k10
    have aw : AWAY σ τ10 := aw
    rcases q with ⟨nf, q⟩ | ⟨f, q, T2⟩
    · exact kp_t q (nope τ10 aw (Or.inl nf))
    refine kp_f (by rw [show r10 = 1 from q]; decide) (kp_nm (fun x14 g14 => kp_gd (fun _ => ?_)))
    rw [jn h2 (by omega) g14, aw.1.1 (44 + j) (by omega)]
    refine kp_bn2 T2 (fun r16 τ16 k16 => ?_)
    obtain ⟨aw2, q2⟩ := k16
    have aw2 : AWAY σ τ16 := aw2
    rcases q2 with ⟨nf, q2⟩ | ⟨f', q2, sl, s198⟩
    · exact kp_t q2 (nope τ16 aw2 (Or.inr (Or.inl nf)))
    have sl : babs (τ16 55 1) + babs (τ16 55 2) = s := sl
    refine kp_f (by rw [show r16 = 1 from q2]; decide) (kp_bn k_size (fun r18 k18 => kp_bn k_size (fun r19 k19 => kp_nm (fun x20 k20 => ?_))))
    have e20 : x20 = s := by rw [k20, k18, k19, sl]
    rw [e20]
    refine kp_ih (fun y => nope τ16 aw2 (Or.inr (Or.inr ⟨y, s198⟩))) (fun y => kp_bn k_size (fun r22 k22 => kp_bn k_size (fun r23 k23 => kp_nm (fun x24 k24 => kp_nm (fun x25 k25 => kp_nm (fun x26 k26 => ?_))))))
    have e24 : x24 = s := by rw [k24, k22, k23, sl]
    rw [e24, k26, k25]
    unfold F_X12_cancel_143
    exact kp_bn (home_back aw2) (fun τ2 k2 => kp_nm (fun x13 k13 => yes f f' y m τ2 x13 k2.1 (nx x13 k13)))
theorem cancel_l {N : Nat} {K len : Nat → Nat} {σ : SG} {ρ : RG} (b : BS N K len σ ρ) : kp (F_X11_cancel N K len σ ρ) (fun q => ∀ (τ : SG) (ρ' : RG), RT σ τ → kp (F_X12_cancel τ ρ') (fun q' => q.1 = q'.1)) := by
  have t11 : σ 1 1 = σ 55 11 := b.2.1.1.1
  obtain ⟨c0, c6⟩ := b.2.2.2.2
  have em5 : (-5 : Int32).toInt = -5 := rfl
  have e10 : (10 : Int32).toInt = 10 := rfl
  have eM : (1000000 : Int32).toInt = 1000000 := rfl
  obtain ⟨C, hC⟩ : ∃ C : Nat, (σ 1 1).toInt = (C : Int) := ⟨(σ 1 1).toInt.toNat, by omega⟩
  have C6 : C ≤ 6 := by omega
  have thr : ∀ (j c : Nat), j < C → ρ 2 j = some c → σ c 4 = σ 55 (44 + j) ∧ rg (σ c 4) 0 100 := fun j c hj hc => by
    obtain ⟨th, tr⟩ := th_bs b (by omega) hc (by omega)
    exact ⟨th, by rw [th]; exact ⟨by have := tr.1; omega, by have := tr.2; omega⟩⟩
  -- what the law asks of the rest, from a place
  have Goal : True := trivial
  -- the reference runs over a whole row that fails at its first cut
  have skip : ∀ (i : Nat) (J1 : Int32), J1.toInt = (i : Int) → i < C → (∀ (τ : SG) (ρ' : RG), HOME σ τ → kp (F_X12_cuts J1 (σ 55 (44 + i)) τ ρ') (fun q => AWAY σ q.2 ∧ q.1 = 0)) → ∀ (r j : Nat) (m : Nat) (τ : SG) (ρ' : RG) (u1 u2 v3 : Int32) (P : Int32 × SG → Prop), j + r = C → HOME σ τ → v3.toInt = (i : Int) * C + j → (∀ (m' : Nat) (τ' : SG) (x : Int32), HOME σ τ' → x.toInt = ((i + 1 : Nat) : Int) * C → kp (F_X12_cancel_12 m' τ' ρ' u1 u2 x) P) → kp (F_X12_cancel_12 m τ ρ' u1 u2 v3) P := by
    intro i J1 hJ hi fl r
    induction r with
    | zero =>
      intro j m τ ρ' u1 u2 v3 P hj hm hv k
      refine k m τ v3 hm ?_
      have e : ((i + 1 : Nat) : Int) * C = (i : Int) * C + C := by rw [Int.natCast_add, Int.add_mul]; omega
      rw [hv, e]; omega
    | succ r ihr =>
      intro j m τ ρ' u1 u2 v3 P hj hm hv k
      have hJ2 : (Int32.ofNat j).toInt = (j : Int) := Int32.toInt_ofNat_of_lt (by omega)
      exact cancel_ref (f1 := False) (f2 := False) (s := 0) b hC hJ hJ2 hi (by omega) (fun τ ρ' hm => kp_mono (fl τ ρ' hm) (fun q h => ⟨h.1, Or.inl ⟨id, h.2⟩⟩)) m τ ρ' u1 u2 v3 P hm hv (fun _ m' τ' x hm' hx => ihr (j + 1) m' τ' ρ' u1 u2 x P (by omega) hm' (by rw [hx, hv]; omega) k) (fun f => f.elim)
  -- the loops
  have outer : ∀ (n : Nat) (σ' : SG) (v1 v2 v3 : Int32) (i : Nat), v3.toInt = (i : Int) → i ≤ C → KD σ σ' → (∀ k, k ≤ 5 → σ' 40 k = σ 3 k) → v2.toInt < 1000 → kp (F_X11_cancel_11 N K len n σ' ρ v1 v2 v3) (fun q => ∀ (m : Nat) (τ : SG) (ρ' : RG) (u1 u2 x : Int32), HOME σ τ → BST v1 v2 u1 u2 → x.toInt = (i : Int) * C → kp (F_X12_cancel_12 m τ ρ' u1 u2 x) (fun q' => q.1 = q'.1)) := by
    intro n
    induction n with
    | zero => intro σ' v1 v2 v3 i _ _ _ _ _; exact kp_none
    | succ n ih =>
      intro σ' v1 v2 v3 i hv3 hi hd h40 hv2
      have w1 : ∀ s : SG, KD σ s → s 1 1 = σ 1 1 := fun s h => kd_lo h (by decide) (by decide)
      -- on to the next row
      have next : ∀ (s : SG) (y1 y2 : Int32), i < C → KD σ s → (∀ k, k ≤ 5 → s 40 k = σ 3 k) → y2.toInt < 1000 → kp (F_X11_cancel_118 N K len (F_X11_cancel_11 N K len n) s ρ y1 y2 v3) (fun q => ∀ (m : Nat) (τ : SG) (ρ' : RG) (u1 u2 x : Int32), HOME σ τ → BST y1 y2 u1 u2 → x.toInt = ((i + 1 : Nat) : Int) * C → kp (F_X12_cancel_12 m τ ρ' u1 u2 x) (fun q' => q.1 = q'.1)) := fun s y1 y2 hi' hs hs4 hy2 => by
        unfold F_X11_cancel_118
        refine kp_nm (fun x8 h8 => ih s y1 y2 x8 (i + 1) ?_ (by omega) hs hs4 hy2)
        rw [h8, ti_add (by rw [ti_1]; omega) (by rw [ti_1]; omega), ti_1, hv3]; omega
      unfold F_X11_cancel_11
      rw [w1 σ' hd]
      refine kp_ih (fun z => kp_some (fun m τ ρ' u1 u2 x hm bs hx => ?_)) (fun z => kp_bn (at_bs (N := N) (len := len) b hd) (fun o3 h3 => ?_))
      · have z := le_i z
        have ei : i = C := by omega
        cases m with
        | zero => exact kp_none
        | succ m =>
          unfold F_X12_cancel_12
          rw [hm.1.1 11 (by decide), ← t11]
          have hCC : (0 : Int) ≤ (C : Int) * C ∧ (C : Int) * C ≤ 36 := by
            have h1 : C * C ≤ 6 * 6 := Nat.mul_le_mul C6 C6
            have : ((C * C : Nat) : Int) ≤ 36 := by omega
            rw [Int.natCast_mul] at this; exact ⟨Int.mul_nonneg (by omega) (by omega), this⟩
          refine kp_nm (fun x2 h2 => kp_t (i_le ?_) (kp_some bs.1.symm))
          have : x2.toInt = (C : Int) * C := by rw [h2, Int32.toInt_mul, hC, bmod_id (by omega) (by omega)]
          rw [this, hx, ei]; omega
      have p3 := lt_i (nle z)
      have hi' : i < C := by omega
      rcases h3 with ⟨rfl, no⟩ | ⟨c, j0, rfl, v1', v2', hj0, ej0, hcj⟩
      · exact absurd ⟨i_le (by rw [ti_0]; omega), i_lt p3⟩ no
      have eji : j0 = i := by omega
      rw [eji] at hcj hj0 ej0
      have hcc : isC N K c = true := (b.1.2.2.1 i c hj0 hcj).1
      obtain ⟨th, tr'⟩ := thr i c hi' hcj
      show kp (gd (isC N K c) _) _
      refine kp_gd (fun _ => kp_bn2 (sim_step (d := 0) (th := σ c 4) b (by decide) rfl hv3 hj0 hcj hcc hd tr' (Or.inl ⟨rfl, rfl⟩)) (fun r25 σ25 h25 => ?_))
      have hd25 : KD σ σ25 := h25.1
      have h40' : ∀ k, k ≤ 5 → σ25 40 k = σ 3 k := fun k hk => (h25.2.1 40 k (by decide) (by decide)).trans (h40 k hk)
      -- the first cut on the reference's side
      have one : ∀ (τ : SG) (ρ' : RG), HOME σ τ → kp (F_X12_cuts v3 (σ 55 (44 + i)) τ ρ') (fun q => CUT 42 i 999 τ (r25, σ25) q ∧ AWAY σ q.2) := fun τ ρ' hm => by
        rw [← th]
        exact kp_mono (h25.2.2 τ ρ' 999 (by omega) hm.1 (home_le b hm h40) (home_lq b hm)) (fun q h => ⟨h.1, away_ft hj0 (home_away hm) h.1.1⟩)
      refine kp_ih (fun z1 => ?_) (fun z1 => ?_)
      · refine kp_mono (next σ25 v1 v2 hi' hd25 h40' hv2) (fun q hq m τ ρ' u1 u2 x hm bs hx => ?_)
        refine skip i v3 hv3 hi' (fun τ ρ' hm => kp_mono (one τ ρ' hm) (fun q h => ⟨h.2, ?_⟩)) C 0 m τ ρ' u1 u2 x _ (by omega) hm (by rw [hx]; omega) (fun m' τ' x' hm' hx' => hq m' τ' ρ' u1 u2 x' hm' bs hx')
        obtain ⟨-, -, -, g⟩ := h.1
        rcases g with ⟨q', -⟩ | ⟨-, q', -⟩
        · exact absurd (z1.symm.trans (show r25 = 1 from q')) (by decide)
        · exact q'
      -- the second cut
      have inner : ∀ (n2 : Nat) (s : SG) (y1 y2 v4 : Int32) (j : Nat), v4.toInt = (j : Int) → j ≤ C → KD σ s → (∀ k, k ≤ 5 → s 40 k = σ 3 k) → (∀ k, s 42 k = σ25 42 k) → y2.toInt < 1000 → kp (F_X11_cancel_45 N K len (F_X11_cancel_11 N K len n) n2 s ρ y1 y2 v3 v4) (fun q => ∀ (m : Nat) (τ : SG) (ρ' : RG) (u1 u2 x : Int32), HOME σ τ → BST y1 y2 u1 u2 → x.toInt = (i : Int) * C + j → kp (F_X12_cancel_12 m τ ρ' u1 u2 x) (fun q' => q.1 = q'.1)) := by
        intro n2
        induction n2 with
        | zero => intro s y1 y2 v4 j _ _ _ _ _ _; exact kp_none
        | succ n2 ih2 =>
          intro s y1 y2 v4 j hv4 hj hs hs4 hs42 hy2
          unfold F_X11_cancel_45
          rw [w1 s hs]
          refine kp_ih (fun z => kp_mono (next s y1 y2 hi' hs hs4 hy2) (fun q hq m τ ρ' u1 u2 x hm bs hx => hq m τ ρ' u1 u2 x hm bs ?_)) (fun z => kp_bn (at_bs (N := N) (len := len) b hs) (fun o9 h9 => ?_))
          · have z := le_i z
            have ej : j = C := by omega
            have e : ((i + 1 : Nat) : Int) * C = (i : Int) * C + C := by rw [Int.natCast_add, Int.add_mul]; omega
            rw [hx, e, ej]
          have p4 := lt_i (nle z)
          have hj' : j < C := by omega
          rcases h9 with ⟨rfl, no⟩ | ⟨x9, j1, rfl, w1', w2', hj1, ej1, hxj⟩
          · exact absurd ⟨i_le (by rw [ti_0]; omega), i_lt p4⟩ no
          have ejj : j1 = j := by omega
          rw [ejj] at hxj hj1 ej1
          have hxx : isC N K x9 = true := (b.1.2.2.1 j x9 hj1 hxj).1
          obtain ⟨th2, tr2⟩ := thr j x9 hj' hxj
          show kp (gd (isC N K x9) _) _
          refine kp_gd (fun _ => kp_bn2 (sim_step (d := 1) (th := σ x9 4) b (by decide) rfl hv4 hj1 hxj hxx hs tr2 (Or.inl ⟨rfl, rfl⟩)) (fun r20 σ20 h20 => ?_))
          have hd20 : KD σ σ20 := h20.1
          have k40 : ∀ k, k ≤ 5 → σ20 40 k = σ 3 k := fun k hk => (h20.2.1 40 k (by decide) (by decide)).trans (hs4 k hk)
          have k42 : ∀ k, σ20 42 k = σ25 42 k := fun k => (h20.2.1 42 k (by decide) (by decide)).trans (hs42 k)
          -- both cuts on the reference's side
          have T : TWO σ i j v3 v4 True (¬ r20 = 0) (babs (σ20 44 2) + babs (σ20 44 3)) := by
            intro τ ρ' hm
            refine kp_mono (one τ ρ' hm) (fun q h => ⟨h.2, ?_⟩)
            obtain ⟨⟨ft, le, lq, g⟩, aw⟩ := h
            rcases g with ⟨q1, q2, -⟩ | ⟨q1, -⟩
            rotate_left
            · exact absurd q1 z1
            refine Or.inr ⟨trivial, q2, ?_⟩
            have le2 : LE (40 + 2 * 1) s q.2 := ⟨(hs42 1).trans le.1, (hs42 2).trans le.2.1, (hs42 3).trans le.2.2.1, (hs42 4).trans le.2.2.2.1, (hs42 5).trans le.2.2.2.2⟩
            rw [← th2]
            refine kp_mono (h20.2.2 q.2 ρ' (999 + 1) (by omega) aw.1 le2 lq) (fun q2 h2 => ⟨away_ft hj1 aw h2.1.1, ?_⟩)
            obtain ⟨-, le3, lq3, g2⟩ := h2.1
            have l2 : σ20 44 2 = q2.2 55 1 := le3.2.1
            have l3 : σ20 44 3 = q2.2 55 2 := le3.2.2.1
            rcases g2 with ⟨p1, p2, -⟩ | ⟨p1, p2, -⟩
            · refine Or.inr ⟨by rw [show r20 = 1 from p1]; decide, p2, by rw [l2, l3], ?_⟩
              have b2 := babs_rg lq3.1
              have b3 := babs_rg lq3.2.1
              rw [l2, l3, ti_add (by have := b2.1; have := b3.1; omega) (by have := b2.2; have := b3.2; omega)]
              have := b2.2
              have := b3.2
              omega
            · exact Or.inl ⟨fun y => y p1, p2⟩
          have fr : ∀ (y1' y2' : Int32), y2'.toInt < 1000 → (∀ (u1 u2 : Int32), BST y1 y2 u1 u2 → ((r20 = 0 ∨ (u2 ≤ (babs (σ20 44 2) + babs (σ20 44 3)) ∧ (babs (σ20 44 2) + babs (σ20 44 3)).toInt ≤ 198)) → BST y1' y2' u1 u2) ∧ (¬ r20 = 0 → ¬ u2 ≤ (babs (σ20 44 2) + babs (σ20 44 3)) → BST y1' y2' (10 * v3 + v4) (babs (σ20 44 2) + babs (σ20 44 3)))) → kp (F_X11_cancel_112 N K len (F_X11_cancel_45 N K len (F_X11_cancel_11 N K len n) n2) σ20 ρ y1' y2' v3 v4) (fun q => ∀ (m : Nat) (τ : SG) (ρ' : RG) (u1 u2 x : Int32), HOME σ τ → BST y1 y2 u1 u2 → x.toInt = (i : Int) * C + j → kp (F_X12_cancel_12 m τ ρ' u1 u2 x) (fun q' => q.1 = q'.1)) := fun y1' y2' hy2' hB => by
            unfold F_X11_cancel_112
            refine kp_nm (fun x13 h13 => ?_)
            have e13 : x13.toInt = ((j + 1 : Nat) : Int) := by rw [h13, ti_add (by rw [ti_1]; omega) (by rw [ti_1]; omega), ti_1, hv4]; omega
            refine kp_mono (ih2 σ20 y1' y2' x13 (j + 1) e13 (by omega) hd20 k40 k42 hy2') (fun q hq m τ ρ' u1 u2 x hm bs hx => cancel_ref b hC hv3 hv4 hi' hj' T m τ ρ' u1 u2 x _ hm hx (fun nn m' τ' x' hm' hx' => hq m' τ' ρ' u1 u2 x' hm' ((hB u1 u2 bs).1 ?_) (by rw [hx', hx]; omega)) (fun _ f2 g m' τ' x' hm' hx' => hq m' τ' ρ' _ _ x' hm' ((hB u1 u2 bs).2 f2 g) (by rw [hx', hx]; omega)))
            rcases nn with nn | nn | nn
            · exact absurd trivial nn
            · exact Or.inl (by by_cases y : r20 = 0; exact y; exact absurd y nn)
            · exact Or.inr nn
          have take : ¬ r20 = 0 → (∀ u1 u2 : Int32, BST y1 y2 u1 u2 → ¬ (u2 ≤ (babs (σ20 44 2) + babs (σ20 44 3)) ∧ (babs (σ20 44 2) + babs (σ20 44 3)).toInt ≤ 198)) → kp (F_X11_cancel_94 N K len (F_X11_cancel_45 N K len (F_X11_cancel_11 N K len n) n2) σ20 ρ v3 v4) (fun q => ∀ (m : Nat) (τ : SG) (ρ' : RG) (u1 u2 x : Int32), HOME σ τ → BST y1 y2 u1 u2 → x.toInt = (i : Int) * C + j → kp (F_X12_cancel_12 m τ ρ' u1 u2 x) (fun q' => q.1 = q'.1)) := fun nz hu => by
            unfold F_X11_cancel_94
            refine kp_bn k_slope (fun r hr => kp_nm (fun x16 h16 => kp_nm (fun x17 h17 => ?_)))
            have q16 : x16.toInt = 10 * (i : Int) := by rw [h16, Int32.toInt_mul, e10, hv3, bmod_id (by omega) (by omega)]
            have q17 : x17.toInt = 10 * (i : Int) + j := by rw [h17, ti_add (by omega) (by omega), q16, hv4]
            refine fr r x17 (by omega) (fun u1 u2 bs => ⟨fun nn => ?_, fun _ _ => ⟨by rw [h17, h16], fun z => by rw [z, em5] at q17; omega, fun _ => hr.symm⟩⟩)
            rcases nn with nn | nn
            · exact absurd nn nz
            · exact absurd nn (hu u1 u2 bs)
          refine kp_ih (fun z2 => fr y1 y2 hy2 (fun u1 u2 bs => ⟨fun _ => bs, fun y => absurd z2 y⟩)) (fun z2 => kp_ih (fun z3 => take z2 (fun u1 u2 bs y => ?_)) (fun z3 => kp_bn k_slope (fun r23 h23 => kp_ih (fun z4 => fr y1 y2 hy2 (fun u1 u2 bs => ⟨fun _ => bs, fun _ g => absurd (by rw [bs.2.2 z3, ← h23]; exact z4) g⟩)) (fun z4 => take z2 (fun u1 u2 bs y => z4 (by rw [h23, ← bs.2.2 z3]; exact y.1))))))
          have := le_i y.1
          rw [bs.2.1 z3, eM] at this
          have := y.2
          omega
      refine kp_mono (inner 1024 σ25 v1 v2 0 0 rfl (by omega) hd25 h40' (fun _ => rfl) hv2) (fun q hq m τ ρ' u1 u2 x hm bs hx => hq m τ ρ' u1 u2 x hm bs (by rw [hx]; omega))
  unfold F_X11_cancel
  refine kp_bn (k_start b.1.1) (fun σ1 h1 => kp_mono (outer 1024 σ1 0 (-5) 0 0 rfl (by omega) h1.1 h1.2 (by decide)) (fun q hq τ ρ' t => ?_))
  unfold F_X12_cancel
  exact kp_bn (home_keeps b t) (fun τ1 g1 => hq 1024 τ1 ρ' (-5) 1000000 0 g1 ⟨rfl, fun _ => rfl, fun z => absurd rfl z⟩ (by rw [ti_0]; omega))
