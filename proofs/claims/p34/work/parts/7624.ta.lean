/-! PART 7624.ta: by hand: act, trace, count -/
theorem at_11c {N : Nat} {K len : Nat → Nat} {a1 : Int32} {σ : SG} {ρ : RG} (hB0 : rg (σ 1 1) 0 6) (R : RA K σ ρ) {σ2 : SG} (e : ∀ k, σ2 1 k = σ 1 k) : kp (F_X8_cutterAt_1 a1 σ2 ρ) (fun o => (o = none ∧ ¬ ((0 : Int32) ≤ a1 ∧ a1 < σ 1 1)) ∨ ∃ c j : Nat, o = some c ∧ (0 : Int32) ≤ a1 ∧ a1 < σ 1 1 ∧ j < 6 ∧ a1.toInt = (j : Int) ∧ ρ 2 j = some c) := by
  have h := kp_ok (at_11 (N := N) (len := len) (a1 := a1) hB0 R)
  have e' : F_X8_cutterAt_1 a1 σ2 ρ = F_X8_cutterAt_1 a1 σ ρ := by
    unfold F_X8_cutterAt_1
    rw [e 1]
  rw [e']
  exact h
theorem sim_act {N : Nat} {K len : Nat → Nat} {a1 a2 a3 : Int32} {σ : SG} {ρ : RG} (hQ : PR N K len ρ) (hB0 : rg (σ 1 1) 0 6) (hc : rg (σ 55 11) 0 6) (R : RA K σ ρ) : kp (F_X11_act N K len a1 a2 a3 σ ρ) (fun q => ∀ (τ : SG) (ρ' : RG), (∀ k, τ 55 k = σ 55 k) → kp (F_X12_act a1 a2 a3 τ ρ') (fun q' => q.1 = q'.1 ∧ TRC 8 q.2 q'.2)) := by
  have t11 : σ 1 1 = σ 55 11 := R.1.1
  have e20 : (20 : Int32).toInt = 20 := rfl
  have e26 : (26 : Int32).toInt = 26 := rfl
  have tr0 : ∀ (τ : SG), TRC 8 (s2 σ 27 1 0) (s2 τ 54 30 0) := fun τ => ⟨by rw [sv, sv], by rw [sv]; exact ⟨by decide, by decide⟩, fun k _ kl => by rw [sv, ti_0] at kl; omega⟩
  unfold F_X11_act
  refine kp_nm (fun σ2 h2 => kp_bn (at_11c (N := N) (len := len) hB0 R (fun k => by rw [h2, sn (by omega)])) (fun o3 h3 => ?_))
  rcases h3 with ⟨rfl, n⟩ | ⟨c, j, rfl, v1, v2, hj, ej, hcj⟩
  · show kp (some ((0 : Int32), σ2)) _
    refine kp_some (fun τ ρ' hτ => ?_)
    unfold F_X12_act
    refine kp_nm (fun τ2 g2 => kp_bn (kp_ok (ic_12 (by rw [g2, sn (by omega), hτ 11]; exact hc))) (fun r3 g3 => kp_t ?_ (kp_some ⟨rfl, ?_⟩)))
    · by_cases z : r3 = 0
      · exact z
      · have := g3.mp z
        rw [g2, sn (by omega), hτ 11, ← t11] at this
        exact absurd this n
    · show TRC 8 σ2 τ2
      rw [h2, g2]; exact tr0 τ
  show kp (gd (isC N K c) _) _
  refine kp_gd (fun gc => ?_)
  have kc := hQ.2.2.1 j c hj hcj
  have c65 := ck_65 hQ.1 kc.1
  obtain ⟨⟨f1, f2, -⟩, f0⟩ := (R.2.1 j hj).2 c hcj
  -- the reference
  have ref : ∀ (τ : SG) (ρ' : RG) (Q : Int32 × SG → Prop), (∀ k, τ 55 k = σ 55 k) → (¬ ((0 : Int32) ≤ a2 ∧ a2 ≤ 2) → Q (0, s2 τ 54 30 0)) → ((0 : Int32) ≤ a2 ∧ a2 ≤ 2 → ∀ τ16 : SG, ACX 0 K c σ2 τ16 → kp (if a2 = 0 then bn2 (F_X12_cutsActs a3 τ16 ρ') fun r21 σ21 => some (r21, σ21) else if a2 = (1 : Int32) then bn2 (F_X12_eatsActs a3 τ16 ρ') fun r20 σ20 => some (r20, σ20) else bn2 (F_X12_tellsActs a3 τ16 ρ') fun r19 σ19 => some (r19, σ19)) Q) → kp (F_X12_act a1 a2 a3 τ ρ') Q := by
    intro τ ρ' Q hτ h0 hQ'
    unfold F_X12_act
    refine kp_nm (fun τ2 g2 => kp_bn (kp_ok (ic_12 (by rw [g2, sn (by omega), hτ 11]; exact hc))) (fun r3 g3 => kp_f (fun z => (g3.mpr ⟨v1, by rw [g2, sn (by omega), hτ 11, ← t11]; exact v2⟩) z) (kp_bn (kp_ok in_0) (fun r5 g5 => kp_ih (fun z => kp_some ?_) (fun z => kp_nm (fun x7 g7 => kp_gd (fun _ => kp_nm (fun τ10 g10 => kp_nm (fun τ12 g12 => kp_nm (fun x13 g13 => kp_gd (fun _ => kp_nm (fun τ16 g16 => hQ' (g5.2.mp z) τ16 ?_))))))))))))
    · rw [g2]
      exact h0 (fun y => g5.2.mpr y z)
    · have n7 : x7.toNatClampNeg = 20 + j := cn (by rw [g7, ti_add (by omega) (by omega), e20, ej]; omega)
      have n13 : x13.toNatClampNeg = 26 + j := cn (by rw [g13, ti_add (by omega) (by omega), e26, ej]; omega)
      rw [n7] at g10
      rw [n13] at g16
      have r2' : ∀ k, τ2 55 k = σ 55 k := fun k => by rw [g2, sn (by omega), hτ k]
      have r12 : ∀ k, τ12 55 k = σ 55 k := fun k => by rw [g12, sn (by omega), g10, sn (by omega), r2' k]
      have z30 : τ16 54 30 = 0 := by rw [g16, sn (by omega), g12, sn (by omega), g10, sn (by omega), g2, sv]
      refine ⟨⟨by rw [h2, sv, z30], by rw [z30]; exact ⟨by decide, by decide⟩, fun k _ kl => by rw [z30, ti_0] at kl; omega⟩, ?_, ?_, ?_⟩
      · rw [g16, sn (by omega), g12, sn (by omega), g10, sv, r2']; exact f1
      · rw [h2, sn (by omega), g16, sn (by omega), g12, sv]
        exact ieq (f0.trans ej.symm)
      · rw [h2, sn (by omega), g16, sv, r12]; exact f2
  have fin : ∀ {m : Int} {q q' : Int32 × SG}, m ≤ 8 → AO m K c q q' → q.1 = q'.1 ∧ TRC 8 q.2 q'.2 := fun hm a => ⟨a.1, a.2.1.1, rg_w a.2.1.2.1 (Int.le_refl _) hm, a.2.1.2.2⟩
  have acc : ∀ (τ : SG) (ρ' : RG), (∀ k, τ 55 k = σ 55 k) → ∀ (v : Int32 × SG), True → True := fun _ _ _ _ _ => trivial
  refine kp_ih (fun d0 => ?_) (fun d0 => kp_ih (fun d1 => ?_) (fun d1 => kp_ih (fun d2 => ?_) (fun d2 => kp_some (fun τ ρ' hτ => ref τ ρ' _ hτ (fun _ => ⟨rfl, by show TRC 8 σ2 _; rw [h2]; exact tr0 τ⟩) (fun y => ?_)))))
  · intro q hq τ ρ' hτ
    refine ref τ ρ' _ hτ (fun n => absurd ⟨by rw [d0]; decide, by rw [d0]; decide⟩ n) (fun _ τ16 A => kp_t d0 ?_)
    have : kp (bn2 (F_v_cuts N K len c a3 σ2 ρ) fun r6 σ6 => some (r6, σ6)) (fun q => kp (bn2 (F_X12_cutsActs a3 τ16 ρ') fun r21 σ21 => some (r21, σ21)) (fun q' => q.1 = q'.1 ∧ TRC 8 q.2 q'.2)) :=
      kp_bn2 (sim_cutsA (ρ' := ρ') c65 (by decide) gc A) (fun r6 σ6 h6 => kp_some (kp_bn2 h6 (fun r τ' g => kp_some (fin (by decide) g))))
    exact this q hq
  · intro q hq τ ρ' hτ
    refine ref τ ρ' _ hτ (fun n => absurd ⟨by rw [d1]; decide, by rw [d1]; decide⟩ n) (fun _ τ16 A => kp_f d0 (kp_t d1 ?_))
    have : kp (bn2 (F_v_eats N K len c a3 σ2 ρ) fun r6 σ6 => some (r6, σ6)) (fun q => kp (bn2 (F_X12_eatsActs a3 τ16 ρ') fun r21 σ21 => some (r21, σ21)) (fun q' => q.1 = q'.1 ∧ TRC 8 q.2 q'.2)) :=
      kp_bn2 (sim_eatsA (ρ' := ρ') c65 (by decide) gc A) (fun r6 σ6 h6 => kp_some (kp_bn2 h6 (fun r τ' g => kp_some (fin (by decide) g))))
    exact this q hq
  · intro q hq τ ρ' hτ
    refine ref τ ρ' _ hτ (fun n => absurd ⟨by rw [d2]; decide, by rw [d2]; decide⟩ n) (fun _ τ16 A => kp_f d0 (kp_f d1 ?_))
    have : kp (bn2 (F_v_tells N K len c a3 σ2 ρ) fun r6 σ6 => some (r6, σ6)) (fun q => kp (bn2 (F_X12_tellsActs a3 τ16 ρ') fun r21 σ21 => some (r21, σ21)) (fun q' => q.1 = q'.1 ∧ TRC 8 q.2 q'.2)) :=
      kp_bn2 (sim_tellsA (ρ' := ρ') c65 (by decide) gc A) (fun r6 σ6 h6 => kp_some (kp_bn2 h6 (fun r τ' g => kp_some (fin (by decide) g))))
    exact this q hq
  · exfalso
    have y0 := le_i y.1
    have y1 := le_i y.2
    have e2 : (2 : Int32).toInt = 2 := rfl
    rw [ti_0] at y0
    rw [e2] at y1
    have : a2.toInt ≠ 0 := fun z => d0 (ieq (by rw [z]; rfl))
    have : a2.toInt ≠ 1 := fun z => d1 (ieq (by rw [z]; rfl))
    have : a2.toInt ≠ 2 := fun z => d2 (ieq (by rw [z]; rfl))
    omega
theorem tr_keep {m : Int} {σ σ' : SG} (h : TRC m σ σ) (h1 : σ' 27 1 = σ 27 1) (h2 : ∀ k, σ' 28 k = σ 28 k) (h3 : σ' 54 30 = σ 54 30) (h4 : ∀ k, σ' 64 k = σ 64 k) : TRC m σ' σ' := by
  obtain ⟨a, b, c⟩ := h
  refine ⟨by rw [h1, h3]; exact a, by rw [h3]; exact b, fun k hk kl => ?_⟩
  rw [h3] at kl
  rw [h2, h4]; exact c k hk kl
/-- a call that is no act -/
theorem tr_call {m : Int} {σ σ3 σ6 : SG} (h : TRC m σ σ) (hc : KC σ σ3) (ht : KT σ σ3) (hr : KR σ3 σ6) (hs : KS σ3 σ6) : TRC m σ6 σ6 :=
  tr_keep h (by rw [hr 27 1 (krP_lo (by decide)), ht 27 1 rfl]) (fun k => by rw [hr 28 k (krP_lo (by decide)), ht 28 k rfl]) (by rw [hs 54 30 rfl, hc 54 30 (kcP_ref (by decide) (by decide))]) (fun k => by rw [hs 64 k rfl, hc 64 k (kcP_ref (by decide) (by decide))])
theorem sim_trace {m : Int} {a1 : Int32} {σ : SG} {ρ : RG} (h : TRC m σ σ) : kp (F_X11_trace a1 σ ρ) (fun q => kp (F_X12_trace a1 σ ρ) (fun q' => q = q')) := by
  obtain ⟨t1, ⟨t2, t2'⟩, t3⟩ := h
  have e20 : (20 : Int32).toInt = 20 := rfl
  have e19 : (19 : Int32).toInt = 19 := rfl
  -- the reference's answer
  have ref : ∀ (Q : Int32 → Prop), (¬ (0 ≤ a1.toInt ∧ a1.toInt < 20 ∧ a1.toInt < (σ 54 30).toInt) → Q (-1)) → ((0 ≤ a1.toInt ∧ a1.toInt < 20 ∧ a1.toInt < (σ 54 30).toInt) → Q (σ 64 a1.toNatClampNeg)) → kp (F_X12_trace a1 σ ρ) Q := by
    intro Q q1 q2
    unfold F_X12_trace
    have go : ∀ k2 : Int32, (k2.toInt = 20 ∧ 20 ≤ (σ 54 30).toInt) ∨ (k2 = σ 54 30 ∧ (σ 54 30).toInt < 20) → kp (F_X12_trace_20 a1 σ ρ a1 a1 0 k2) Q := by
      intro k2 hk
      unfold F_X12_trace_20
      refine kp_nm (fun x2 h2 => kp_bn (kp_ok in_0) (fun r3 h3 => ?_))
      have k0 : 0 ≤ k2.toInt ∧ k2.toInt ≤ 20 := by
        rcases hk with ⟨a, b⟩ | ⟨a, b⟩
        · omega
        · rw [a]; omega
      have e2 : x2.toInt = k2.toInt - 1 := by rw [h2, ti_sub (by rw [ti_1]; omega) (by rw [ti_1]; omega), ti_1]
      refine kp_ih (fun z => kp_some (q1 (fun y => ?_))) (fun z => kp_gd (fun _ => kp_some (q2 ?_)))
      · refine h3.2.mpr ⟨i_le (by rw [ti_0]; omega), i_le ?_⟩ z
        rcases hk with ⟨a, b⟩ | ⟨a, b⟩
        · omega
        · rw [a] at e2; omega
      · have y := h3.2.mp z
        have y0 := le_i y.1
        have y1 := le_i y.2
        rw [ti_0] at y0
        rcases hk with ⟨a, b⟩ | ⟨a, b⟩
        · omega
        · rw [a] at e2; omega
    refine kp_ih (fun c => go 20 (Or.inl ⟨rfl, ?_⟩)) (fun c => go _ (Or.inr ⟨rfl, ?_⟩))
    · have := le_i c; omega
    · have := lt_i (nle c); omega
  unfold F_X11_trace
  refine kp_nm (fun x1 h1 => ?_)
  have e1 : x1.toInt = 19 := by rw [h1]; rfl
  refine kp_bn (kp_ok wi_0) (fun r2 h2 => kp_ih (fun z => kp_some (ref _ (fun _ => rfl) (fun y => ?_))) (fun z => ?_))
  · exfalso
    exact h2.2.mpr ⟨i_le (by rw [ti_0]; omega), i_le (by omega)⟩ z
  · have y := h2.2.mp z
    have y0 := le_i y.1
    have y1 := le_i y.2
    rw [ti_0] at y0
    refine kp_ih (fun c => kp_gd (fun _ => kp_some (ref _ (fun n => ?_) (fun _ => ?_)))) (fun c => kp_some (ref _ (fun _ => rfl) (fun w => ?_)))
    · exfalso
      have := lt_i c
      rw [t1] at this
      exact n ⟨y0, by omega, this⟩
    · have := lt_i c
      rw [t1] at this
      have c0 := cl0 y0
      exact t3 a1.toNatClampNeg (by omega) (by omega)
    · exfalso
      have := le_i (nlt c)
      rw [t1] at this
      omega
theorem sim_count {m : Int} {K : Nat → Nat} {a1 : Int32} {σ : SG} {ρ ρ' : RG} (h : TRC m σ σ) (A : RA K σ ρ) (B : RB σ) : kp (F_X11_count a1 σ ρ) (fun q => kp (F_X12_count a1 σ ρ') (fun q' => q = q')) := by
  have e11 : (11 : Int32).toInt = 11 := rfl
  have cnt : ∀ (j : Nat) (v : Int32), a1.toInt = (j : Int) → j < 5 → v = σ 55 (11 + j) → kp (F_X12_count a1 σ ρ') (fun q' => v = q') := by
    intro j v ej hj hv
    unfold F_X12_count
    refine kp_f (fun z => by rw [z] at ej; have : (5 : Int32).toInt = 5 := rfl; omega) (kp_bn (kp_ok in_0) (fun r2 h2 => kp_f (h2.2.mpr ⟨i_le (by rw [ti_0]; omega), i_le (by rw [show (4 : Int32).toInt = 4 from rfl]; omega)⟩) (kp_nm (fun x4 h4 => kp_gd (fun _ => kp_some ?_)))))
    rw [cn (x := x4) (z := 11 + j) (by rw [h4, ti_add (by omega) (by omega), e11, ej]; omega)]
    exact hv
  have t := A.1
  have b := B.1
  unfold F_X11_count
  refine kp_ih (fun d => kp_some (cnt 0 _ (by rw [d]; rfl) (by decide) t.1)) (fun d0 => kp_ih (fun d => kp_some (cnt 1 _ (by rw [d]; rfl) (by decide) b.2.2.1)) (fun d1 => kp_ih (fun d => kp_some (cnt 2 _ (by rw [d]; rfl) (by decide) t.2.1)) (fun d2 => kp_ih (fun d => kp_some (cnt 3 _ (by rw [d]; rfl) (by decide) t.2.2.1)) (fun d3 => kp_ih (fun d => kp_some (cnt 4 _ (by rw [d]; rfl) (by decide) b.2.1)) (fun d4 => kp_ih (fun d => kp_some ?_) (fun d5 => kp_some ?_))))))
  · unfold F_X12_count
    exact kp_t d (kp_some h.1)
  · unfold F_X12_count
    refine kp_f d5 (kp_bn (kp_ok in_0) (fun r2 h2 => kp_ih (fun _ => kp_some rfl) (fun z => ?_)))
    exfalso
    have y := h2.2.mp z
    have y0 := le_i y.1
    have y1 := le_i y.2
    rw [ti_0] at y0
    rw [show (4 : Int32).toInt = 4 from rfl] at y1
    have n : ∀ j : Int32, ¬ a1 = j → a1.toInt ≠ j.toInt := fun j hj z => hj (ieq z)
    have n0 := n 0 d0
    have n1 := n 1 d1
    have n2 := n 2 d2
    have n3 := n 3 d3
    have n4 := n 4 d4
    rw [ti_0] at n0
    rw [ti_1] at n1
    rw [show (2 : Int32).toInt = 2 from rfl] at n2
    rw [show (3 : Int32).toInt = 3 from rfl] at n3
    rw [show (4 : Int32).toInt = 4 from rfl] at n4
    omega
