/-! PART 7660.st: by hand: a try of a cut, side by side; would, who -/
/-- all that stands when the law calls -/
def BS (N : Nat) (K len : Nat → Nat) (σ : SG) (ρ : RG) : Prop := PR N K len ρ ∧ RA K σ ρ ∧ RB σ ∧ LSS σ σ ρ ∧ rg (σ 1 1) 0 6
/-- the reference under way -/
def ET (e : Int32) (σ τ : SG) : Prop := (∀ k, 11 ≤ k → τ 55 k = σ 55 k) ∧ τ 54 17 = 0 ∧ τ 54 18 = e
/-- as it was, with the face kept -/
def HOME (σ τ : SG) : Prop := ET 0 σ τ ∧ (∀ k, k < 11 → τ 55 k = σ 55 k) ∧ ∀ k, k < 11 → τ 57 k = σ 55 k
def AWAY (σ τ : SG) : Prop := ET 0 σ τ ∧ ∀ k, k < 11 → τ 57 k = σ 55 k
theorem et_rt {N : Nat} {K len : Nat → Nat} {σ τ : SG} {ρ : RG} (b : BS N K len σ ρ) (t : RT σ τ) : ET 0 σ τ := ⟨fun k _ => t 55 k (by decide) (by decide), (t 54 17 (by decide) (by decide)).trans b.2.2.2.1.2.1.1, (t 54 18 (by decide) (by decide)).trans b.2.2.2.1.2.1.2⟩
theorem et_ft {e : Int32} {j : Nat} {σ τ τ' : SG} (hj : j < 6) (t : ET e σ τ) (f : FT j τ τ') : ET e σ τ' := ⟨fun k hk => by rw [f 55 k (by decide) (by decide) (by omega) (by omega)]; exact t.1 k hk, by rw [f 54 17 (by decide) (by decide) (by omega) (by omega)]; exact t.2.1, by rw [f 54 18 (by decide) (by decide) (by omega) (by omega)]; exact t.2.2⟩
theorem home_keeps {N : Nat} {K len : Nat → Nat} {σ τ : SG} {ρ ρ' : RG} (b : BS N K len σ ρ) (t : RT σ τ) : kp (F_X12_keeps τ ρ') (fun q => HOME σ q) := kp_mono k_keeps (fun q h => by
  have e := et_rt b t
  refine ⟨⟨fun k hk => by rw [h.1 55 (by decide)]; exact e.1 k hk, by rw [h.1 54 (by decide)]; exact e.2.1, by rw [h.1 54 (by decide)]; exact e.2.2⟩, fun k _ => by rw [h.1 55 (by decide)]; exact t 55 k (by decide) (by decide), fun k hk => by rw [h.2 k hk]; exact t 55 k (by decide) (by decide)⟩)
theorem home_back {σ τ : SG} {ρ' : RG} (a : AWAY σ τ) : kp (F_X12_goesBack τ ρ') (fun q => HOME σ q ∧ ∀ r, r ≠ 55 → q r = τ r) := kp_mono k_back (fun q h => ⟨⟨⟨fun k hk => by rw [h.2.1 k hk]; exact a.1.1 k hk, by rw [h.1 54 (by decide)]; exact a.1.2.1, by rw [h.1 54 (by decide)]; exact a.1.2.2⟩, fun k hk => by rw [h.2.2 k hk]; exact a.2 k hk, fun k hk => by rw [h.1 57 (by decide)]; exact a.2 k hk⟩, h.1⟩)
theorem home_away {σ τ : SG} (h : HOME σ τ) : AWAY σ τ := ⟨h.1, h.2.2⟩
theorem away_ft {j : Nat} {σ τ τ' : SG} (hj : j < 6) (a : AWAY σ τ) (f : FT j τ τ') : AWAY σ τ' := ⟨et_ft hj a.1 f, fun k hk => by rw [f 57 k (by decide) (by decide) (by omega) (by omega)]; exact a.2 k hk⟩
theorem home_lq {N : Nat} {K len : Nat → Nat} {σ τ : SG} {ρ : RG} (b : BS N K len σ ρ) (h : HOME σ τ) : LQ 999 τ := by
  have x := b.2.2.2.1.1.2.1
  exact ⟨by rw [h.2.1 1 (by decide)]; exact x.1, by rw [h.2.1 2 (by decide)]; exact x.2.1, by rw [h.2.1 3 (by decide)]; exact x.2.2⟩
/-- a loaf of the class that says what the loaf says -/
theorem home_le {N : Nat} {K len : Nat → Nat} {i : Nat} {σ σ' τ : SG} {ρ : RG} (b : BS N K len σ ρ) (h : HOME σ τ) (l : ∀ k, k ≤ 5 → σ' i k = σ 3 k) : LE i σ' τ := by
  have x := b.2.2.2.1.1.1
  exact ⟨(l 1 (by decide)).trans ((x 0 (by decide)).trans (h.2.1 0 (by decide)).symm), (l 2 (by decide)).trans ((x 1 (by decide)).trans (h.2.1 1 (by decide)).symm), (l 3 (by decide)).trans ((x 2 (by decide)).trans (h.2.1 2 (by decide)).symm), (l 4 (by decide)).trans ((x 3 (by decide)).trans (h.2.1 3 (by decide)).symm), (l 5 (by decide)).trans ((x 4 (by decide)).trans (h.2.1 4 (by decide)).symm)⟩
theorem kd_hi {σ σ' : SG} (h : KD σ σ') {r k : Nat} (a : 54 ≤ r) : σ' r k = σ r k := h r k (by unfold kdP; rw [Nat.ble_eq.mpr a]; simp)
theorem kd_lo {σ σ' : SG} (h : KD σ σ') {r k : Nat} (a : 1 ≤ r) (b : r ≤ 26) : σ' r k = σ r k := h r k (by unfold kdP; rw [Nat.ble_eq.mpr a, Nat.ble_eq.mpr b]; rfl)
theorem cx_et {N : Nat} {K len : Nat → Nat} {j c : Nat} {e : Int32} {σ σ' τ : SG} {ρ : RG} (b : BS N K len σ ρ) (hd : KD σ σ') (t : ET e σ τ) (hj : j < 6) (hc : ρ 2 j = some c) : CX N K j c σ' ρ τ := by
  obtain ⟨a1, a2, a3, a4, a5, a6, a7⟩ := cx_of (τ := τ) b.1 b.2.1 (fun k h _ => t.1 k (by omega)) hj hc
  have c65 := (pr_65 b.1 (Or.inl rfl) hj hc).1
  exact ⟨a1, by rw [kd_hi hd (by omega)]; exact a2, a3, by rw [kd_hi hd (by omega)]; exact a4, by rw [kd_hi hd (by omega)]; exact a5, by rw [kd_hi hd (by omega)]; exact a6, fun k9 d hq => ⟨(a7 k9 d hq).1, fun k hk => by rw [kd_hi hd (by have := (a7 k9 d hq).1.2; omega)]; exact (a7 k9 d hq).2 k hk⟩⟩
theorem hb_et {N : Nat} {K len : Nat → Nat} {e : Int32} {σ σ' τ : SG} {ρ : RG} (b : BS N K len σ ρ) (hd : KD σ σ') (t : ET e σ τ) : HB 5 55 σ' τ := hb_congr b.2.2.1.1.2.2.2 (fun k _ => kd_lo hd (by decide) (by decide)) (fun k _ => kd_lo hd (by decide) (by decide)) (fun k _ => kd_lo hd (by decide) (by decide)) (fun k _ => kd_lo hd (by decide) (by decide)) (fun k _ => kd_lo hd (by decide) (by decide)) (fun k _ h => t.1 k (by omega))
theorem th_bs {N : Nat} {K len : Nat → Nat} {j c : Nat} {σ : SG} {ρ : RG} (b : BS N K len σ ρ) (hj : j < 6) (hc : ρ 2 j = some c) (hl : (j : Int) < (σ 1 1).toInt) : σ c 4 = σ 55 (44 + j) ∧ rg (σ 55 (44 + j)) 1 40 := th_of (N := N) (len := len) b.2.2.2.1 b.2.1 b.2.2.2.2 hj hc hl
theorem at_bs {N : Nat} {K len : Nat → Nat} {a : Int32} {σ σ' : SG} {ρ : RG} (b : BS N K len σ ρ) (hd : KD σ σ') : kp (F_X8_cutterAt_1 a σ' ρ) (fun o => (o = none ∧ ¬ ((0 : Int32) ≤ a ∧ a < σ 1 1)) ∨ ∃ c j : Nat, o = some c ∧ (0 : Int32) ≤ a ∧ a < σ 1 1 ∧ j < 6 ∧ a.toInt = (j : Int) ∧ ρ 2 j = some c) := at_11c (N := N) (len := len) b.2.2.2.2 b.2.1 (fun k => kd_lo hd (by decide) (by decide))
theorem ic_et {N : Nat} {K len : Nat → Nat} {a e : Int32} {σ τ : SG} {ρ ρ' : RG} (b : BS N K len σ ρ) (t : ET e σ τ) : kp (F_X12_isCutter a τ ρ') (fun q => ¬ q = 0 ↔ (0 : Int32) ≤ a ∧ a < σ 1 1) := by
  have t11 : σ 1 1 = σ 55 11 := b.2.1.1.1
  have z := t.1 11 (by decide)
  refine kp_mono (kp_ok (ic_12 (by rw [z, ← t11]; exact b.2.2.2.2))) (fun q hq => ?_)
  rw [z, ← t11] at hq; exact hq
/-! one cut -/
def CUT (i j : Nat) (M : Int) (τ : SG) (q q' : Int32 × SG) : Prop := FT j τ q'.2 ∧ LE i q.2 q'.2 ∧ LQ (M + 1) q'.2 ∧ ((q.1 = 1 ∧ q'.1 = 1 ∧ q'.2 55 3 = τ 55 3 + 1 ∧ (q.2 i 6 = q'.2 54 14 ∧ q.2 i 7 = q'.2 54 15 ∧ q.2 i 8 = q'.2 54 16) ∧ q'.2 55 (5 + j) = τ 55 (5 + j) + q'.2 54 14) ∨ (q.1 = 0 ∧ q'.1 = 0 ∧ (∀ k, k ≤ 4 → q'.2 55 k = τ 55 k) ∧ q'.2 55 (5 + j) = τ 55 (5 + j)))
theorem sim_try {N : Nat} {K len : Nat → Nat} {i j c : Nat} {th a5 J e : Int32} {σ σ' : SG} {ρ : RG} (b : BS N K len σ ρ) (hi : isLx i = true) (hJ : J.toInt = (j : Int)) (hj : j < 6) (hc : ρ 2 j = some c) (hcc : isC N K c = true) (hd : KD σ σ') (ht : rg th 0 100) (he : e = 0 ↔ a5 = 0) : kp (F_X3_tryCut N K len i c th 0 a5 σ' ρ) (fun q => KD σ q.2 ∧ KI i σ' q.2 ∧ ∀ (τ : SG) (ρ' : RG) (M : Int), M ≤ 100000 → ET e σ τ → LE i σ' τ → LQ M τ → kp (F_X12_cuts J th τ ρ') (fun q' => CUT i j M τ q q' ∧ ET e σ q'.2)) := by
  have ib := isLx_b hi
  intro q hq
  have k1 := kd_X3_tryCut b.1.1 hi hcc q hq
  have sim : ∀ (τ : SG) (ρ' : RG) (M : Int), M ≤ 100000 → ET e σ τ → LE i σ' τ → LQ M τ → kp (F_X12_cuts J th τ ρ') (fun q' => CUR i j M σ' τ q q') := fun τ ρ' M hM t l m => sim_cut (ρ' := ρ') hM b.1.1 ib hJ hj (cx_et b hd t hj hc) (hb_et b hd t) l m ht t.2.1 (by rw [t.2.2]; exact he) q hq
  refine ⟨kd_trans hd k1, ki_X3_tryCut b.1.1 hi hcc q hq, fun τ ρ' M hM t l m => ?_⟩
  refine kp_mono (sim τ ρ' M hM t l m) (fun q' h => ?_)
  obtain ⟨f1, f2, f3, f4⟩ := h
  refine ⟨⟨f2, f3, ?_, ?_⟩, et_ft hj t f2⟩
  · rcases f4 with ⟨-, -, x, -⟩ | ⟨-, -, x, -⟩
    · exact x
    · exact ⟨by rw [x 1 (by decide)]; exact m.1, by rw [x 2 (by decide)]; exact m.2.1, by rw [x 3 (by decide)]; exact ⟨m.2.2.1, by have := m.2.2.2; omega⟩⟩
  · rcases f4 with ⟨x1, x2, x3, x4, x5, x6⟩ | x
    · exact Or.inl ⟨x1, x2, x4, x5, x6⟩
    · exact Or.inr x
/-! a step -/
theorem k_tk {i j : Nat} {σ : SG} {ρ : RG} (n : i ≠ j) : kp (F_X3_takes i j σ ρ) (fun q => (∀ r k, ¬ (r = i ∧ k ≤ 8) → q r k = σ r k) ∧ ∀ k, k ≤ 5 → q i k = σ j k) := by
  unfold F_X3_takes
  refine kp_nm (fun σ2 h2 => kp_nm (fun σ4 h4 => kp_nm (fun σ6 h6 => kp_nm (fun σ8 h8 => kp_nm (fun σ10 h10 => kp_nm (fun σ12 h12 => kp_nm (fun σ14 h14 => kp_nm (fun σ16 h16 => kp_nm (fun σ18 h18 => kp_some ⟨fun r k n => ?_, fun k hk => ?_⟩)))))))))
  · rw [h18, sn (by omega), h16, sn (by omega), h14, sn (by omega), h12, sn (by omega), h10, sn (by omega), h8, sn (by omega), h6, sn (by omega), h4, sn (by omega), h2, sn (by omega)]
  · have g2 : ∀ k, σ2 j k = σ j k := fun k => by rw [h2, sn (by omega)]
    have g4 : ∀ k, σ4 j k = σ j k := fun k => by rw [h4, sn (by omega)]; exact g2 k
    have g6 : ∀ k, σ6 j k = σ j k := fun k => by rw [h6, sn (by omega)]; exact g4 k
    have g8 : ∀ k, σ8 j k = σ j k := fun k => by rw [h8, sn (by omega)]; exact g6 k
    have g10 : ∀ k, σ10 j k = σ j k := fun k => by rw [h10, sn (by omega)]; exact g8 k
    rcases (show k = 0 ∨ k = 1 ∨ k = 2 ∨ k = 3 ∨ k = 4 ∨ k = 5 by omega) with rfl | rfl | rfl | rfl | rfl | rfl
    · rw [h18, sn (by omega), h16, sn (by omega), h14, sn (by omega), h12, sn (by omega), h10, sn (by omega), h8, sn (by omega), h6, sn (by omega), h4, sn (by omega), h2, sv]
    · rw [h18, sn (by omega), h16, sn (by omega), h14, sn (by omega), h12, sn (by omega), h10, sn (by omega), h8, sn (by omega), h6, sn (by omega), h4, sv]; exact g2 1
    · rw [h18, sn (by omega), h16, sn (by omega), h14, sn (by omega), h12, sn (by omega), h10, sn (by omega), h8, sn (by omega), h6, sv]; exact g4 2
    · rw [h18, sn (by omega), h16, sn (by omega), h14, sn (by omega), h12, sn (by omega), h10, sn (by omega), h8, sv]; exact g6 3
    · rw [h18, sn (by omega), h16, sn (by omega), h14, sn (by omega), h12, sn (by omega), h10, sv]; exact g8 4
    · rw [h18, sn (by omega), h16, sn (by omega), h14, sn (by omega), h12, sv]; exact g10 5
theorem k_start {N : Nat} {K len : Nat → Nat} {σ : SG} {ρ : RG} (hL : Lay N K len ρ) : kp (F_X11_startSteps σ ρ) (fun q => KD σ q ∧ ∀ k, k ≤ 5 → q 40 k = σ 3 k) := by
  intro q hq
  refine ⟨kd_X11_startSteps hL q hq, ?_⟩
  have h : kp (F_X11_startSteps σ ρ) (fun q => ∀ k, k ≤ 5 → q 40 k = σ 3 k) := by
    unfold F_X11_startSteps
    refine kp_bn (k_tk (by decide)) (fun σ1 h1 => kp_nm (fun σ3 h3 => kp_nm (fun σ5 h5 => kp_nm (fun σ7 h7 => kp_some (fun k hk => ?_)))))
    rw [h7, sn (by omega), h5, sn (by omega), h3, sn (by omega)]
    exact h1.2 k hk
  exact h q hq
theorem ly34 {N : Nat} {K len : Nat → Nat} {ρ : RG} (h : Lay N K len ρ) {k : Nat} (hk : k < 7) : ρ 34 k = some (40 + 2 * k) := by
  rcases (show k = 0 ∨ k = 1 ∨ k = 2 ∨ k = 3 ∨ k = 4 ∨ k = 5 ∨ k = 6 by omega) with rfl | rfl | rfl | rfl | rfl | rfl | rfl
  · exact lf_34_0 h
  · exact lf_34_1 h
  · exact lf_34_2 h
  · exact lf_34_3 h
  · exact lf_34_4 h
  · exact lf_34_5 h
  · exact lf_34_6 h
theorem lx_d {d : Nat} (hd : d < 6) : isLx (42 + 2 * d) = true := by
  have h : ∀ d : Fin 6, isLx (42 + 2 * d.val) = true := by decide
  exact h ⟨d, hd⟩
/-- loaf d of the steps says what the face says, and the face keeps the kept one -/
theorem sim_step {N : Nat} {K len : Nat → Nat} {d j c : Nat} {a1 a3 th J : Int32} {σ σ' : SG} {ρ : RG} (b : BS N K len σ ρ) (hd6 : d < 6) (ha : a1.toInt = (d : Int)) (hJ : J.toInt = (j : Int)) (hj : j < 6) (hc : ρ 2 j = some c) (hcc : isC N K c = true) (hd : KD σ σ') (ht : rg th 0 100) (hth : (a3 = 0 ∧ th = σ c 4) ∨ (¬ a3 = 0 ∧ th = a3)) : kp (F_X11_tryStep N K len a1 c a3 σ' ρ) (fun q => KD σ q.2 ∧ (∀ r k, r ≠ 42 + 2 * d → r ≠ 43 + 2 * d → q.2 r k = σ' r k) ∧ ∀ (τ : SG) (ρ' : RG) (M : Int), M ≤ 100000 → ET 0 σ τ → LE (40 + 2 * d) σ' τ → LQ M τ → kp (F_X12_cuts J th τ ρ') (fun q' => CUT (42 + 2 * d) j M τ q q' ∧ ET 0 σ q'.2)) := by
  have i7 : (7 : Int32).toInt = 7 := rfl
  have c65 := (pr_65 b.1 (Or.inl rfl) hj hc).1
  unfold F_X11_tryStep
  refine kp_f (fun z => by have := lt_i z; rw [ti_0] at this; omega) (kp_nm (fun x2 h2 => ?_))
  have e2 : x2.toInt = ((d + 1 : Nat) : Int) := by rw [h2, ti_add (by rw [ti_1]; omega) (by rw [ti_1]; omega), ti_1, ha]; omega
  refine kp_t (i_lt (by omega)) (kp_nm (fun x4 h4 => kp_gd (fun _ => ?_)))
  have n4 : x4.toNatClampNeg = d + 1 := cn (by rw [h4, ← h2]; exact e2)
  have na : a1.toNatClampNeg = d := cn ha
  rw [n4, ly34 b.1.1 (by omega : d + 1 < 7)]
  show kp (gd (isLb _) _) _
  refine kp_gd (fun _ => kp_gd (fun _ => ?_))
  rw [na, ly34 b.1.1 (by omega : d < 7)]
  show kp (gd (isLb _) _) _
  refine kp_gd (fun _ => kp_bn (k_tk (by omega)) (fun σ9 h9 => kp_nm (fun x10 h10 => kp_gd (fun _ => ?_))))
  have n10 : x10.toNatClampNeg = d + 1 := cn (by rw [h10, ← h2]; exact e2)
  rw [n10, ly34 b.1.1 (by omega : d + 1 < 7)]
  show kp (gd (isLb _) _) _
  have ed : 40 + 2 * (d + 1) = 42 + 2 * d := by omega
  rw [ed] at h9 ⊢
  have d9 : KD σ' σ9 := fun r k p => h9.1 r k (fun z => by
    rw [z.1] at p
    have h : ∀ d : Fin 6, ∀ k : Fin 9, kdP (42 + 2 * d.val) k.val = false := by decide
    rw [h ⟨d, hd6⟩ ⟨k, by omega⟩] at p
    cases p)
  have go : ∀ t : Int32, t = th → kp (F_X11_tryStep_59 N K len a1 c a3 σ9 ρ (42 + 2 * d) c t) (fun q => KD σ q.2 ∧ (∀ r k, r ≠ 42 + 2 * d → r ≠ 43 + 2 * d → q.2 r k = σ' r k) ∧ ∀ (τ : SG) (ρ' : RG) (M : Int), M ≤ 100000 → ET 0 σ τ → LE (40 + 2 * d) σ' τ → LQ M τ → kp (F_X12_cuts J th τ ρ') (fun q' => CUT (42 + 2 * d) j M τ q q' ∧ ET 0 σ q'.2)) := fun t et => by
    rw [et]
    unfold F_X11_tryStep_59
    refine kp_gd (fun _ => kp_gd (fun _ => kp_bn2 (sim_try (a5 := 0) (e := 0) b (lx_d hd6) hJ hj hc hcc (kd_trans hd d9) ht ⟨fun _ => rfl, fun _ => rfl⟩) (fun r14 σ14 h14 => kp_gd (fun _ => kp_some ⟨h14.1, fun r k n n' => ?_, fun τ ρ' M hM t l m => ?_⟩))))
    · exact (h14.2.1 r k n (by omega)).trans (h9.1 r k (by omega))
    · refine h14.2.2 τ ρ' M hM t ?_ m
      obtain ⟨l1, l2, l3, l4, l5⟩ := l
      exact ⟨(h9.2 1 (by decide)).trans l1, (h9.2 2 (by decide)).trans l2, (h9.2 3 (by decide)).trans l3, (h9.2 4 (by decide)).trans l4, (h9.2 5 (by decide)).trans l5⟩
  refine kp_gd (fun _ => ?_)
  rcases hth with ⟨z, e⟩ | ⟨z, e⟩
  · refine kp_t z (go _ ?_)
    rw [h9.1 c 4 (by omega), kd_hi hd (by omega), e]
  · exact kp_f z (go _ e.symm)
/-! would -/
theorem jn {J : Int32} {j : Nat} (hJ : J.toInt = (j : Int)) (hj : j < 6) {x : Int32} (hx : x = 44 + J) : x.toNatClampNeg = 44 + j := cn (by
  have e44 : (44 : Int32).toInt = 44 := rfl
  rw [hx, ti_add (by omega) (by omega), e44, hJ]; omega)
theorem would_l {N : Nat} {K len : Nat → Nat} {a w : Int32} {σ : SG} {ρ : RG} (b : BS N K len σ ρ) : kp (F_X11_would N K len a w σ ρ) (fun q => ∀ (τ : SG) (ρ' : RG), RT σ τ → kp (F_X12_would a w τ ρ') (fun q' => q.1 = q'.1)) := by
  unfold F_X11_would
  refine kp_bn (at_bs (N := N) (len := len) b (kd_refl σ)) (fun o1 h1 => ?_)
  rcases h1 with ⟨rfl, n⟩ | ⟨c, j, rfl, v1, v2, hj, ej, hcj⟩
  · refine kp_some (fun τ ρ' t => ?_)
    unfold F_X12_would
    exact kp_bn (ic_et b (et_rt b t)) (fun r1 g1 => kp_ih (fun _ => kp_some rfl) (fun z => absurd (g1.mp z) n))
  show kp (gd (isC N K c) _) _
  refine kp_gd (fun hcc => kp_bn (kp_ok wi_0) (fun r3 h3 => kp_ih (fun d => kp_some (fun τ ρ' t => ?_)) (fun d => kp_bn (k_start b.1.1) (fun σ5 h5 => kp_bn (at_bs (N := N) (len := len) b h5.1) (fun o6 h6 => ?_)))))
  · have n : ¬ ((0 : Int32) ≤ w ∧ w ≤ (6 : Int32)) := fun q => h3.2.mpr q d
    unfold F_X12_would
    exact kp_bn (ic_et b (et_rt b t)) (fun r1 g1 => kp_ih (fun _ => kp_some rfl) (fun _ => kp_bn (kp_ok in_0) (fun r g => kp_ih (fun _ => kp_some rfl) (fun z => absurd (g.2.mp z) n))))
  have y := h3.2.mp d
  rcases h6 with ⟨rfl, n⟩ | ⟨c', j', rfl, -, -, hj', ej', hcj'⟩
  · exact absurd ⟨v1, v2⟩ n
  have ejj : j' = j := by omega
  rw [ejj, hcj] at hcj'; cases hcj'
  show kp (gd (isC N K c) _) _
  obtain ⟨th, tr⟩ := th_bs b hj hcj (by have := lt_i v2; omega)
  have tr' : rg (σ c 4) 0 100 := by rw [th]; exact ⟨by have := tr.1; omega, by have := tr.2; omega⟩
  refine kp_gd (fun _ => kp_bn2 (sim_step (d := 0) (th := σ c 4) b (by decide) rfl ej hj hcj hcc h5.1 tr' (Or.inl ⟨rfl, rfl⟩)) (fun r12 σ12 h12 => ?_))
  -- the reference, up to its cut
  have ref : ∀ (τ : SG) (ρ' : RG) (P : Int32 × SG → Prop), RT σ τ → (∀ (τ5 : SG) (r8 : Int32) (τ8 : SG) (x11 : Int32), HOME σ τ5 → CUT 42 j 999 τ5 (r12, σ12) (r8, τ8) → AWAY σ τ8 → x11 = τ8 55 4 - τ8 57 4 → kp (if r8 = 0 then bn (F_X12_goesBack τ8 ρ') fun σ10 => some ((-10005 : Int32), σ10) else if w = 0 then bn (F_X12_goesBack τ8 ρ') fun σ23 => some ((τ8 54 14), σ23) else if w = (1 : Int32) then bn (F_X12_goesBack τ8 ρ') fun σ22 => some ((τ8 54 15), σ22) else if w = (2 : Int32) then bn (F_X12_goesBack τ8 ρ') fun σ21 => some ((τ8 54 16), σ21) else if w = (6 : Int32) then bn (F_X12_goesBack τ8 ρ') fun σ20 => some (x11, σ20) else nm ((0 : Int32) + w) fun x16 => nm (x16 - (3 : Int32)) fun x17 => gd (inb x17 909) <| bn (F_X12_goesBack τ8 ρ') fun σ19 => some ((τ8 55 (x17).toNatClampNeg), σ19)) P) → kp (F_X12_would a w τ ρ') P := fun τ ρ' P t k => by
    unfold F_X12_would
    refine kp_bn (ic_et b (et_rt b t)) (fun r1 g1 => kp_f (g1.mpr ⟨v1, v2⟩) (kp_bn (kp_ok in_0) (fun r g => kp_f (g.2.mpr y) (kp_bn (home_keeps b t) (fun τ5 g5 => kp_nm (fun x6 g6 => kp_gd (fun _ => ?_)))))))
    rw [jn ej hj g6, g5.1.1 (44 + j) (by omega), ← th]
    refine kp_bn2 (h12.2.2 τ5 ρ' 999 (by omega) g5.1 (home_le b g5 h5.2) (home_lq b g5)) (fun r8 τ8 g8 => ?_)
    have aw : AWAY σ τ8 := away_ft hj (home_away g5) g8.1.1
    by_cases z : r8 = 0
    · rw [if_pos z]
      have := k τ5 r8 τ8 (τ8 55 4 - τ8 57 4) g5 g8.1 aw rfl
      rw [if_pos z] at this; exact this
    · rw [if_neg z]
      refine kp_nm (fun x11 h11 => ?_)
      have := k τ5 r8 τ8 x11 g5 g8.1 aw h11
      rw [if_neg z] at this; exact this
  have bk : ∀ (τ8 : SG) (ρ' : RG) (v w' : Int32), v = w' → kp (bn (F_X12_goesBack τ8 ρ') fun σ23 => some (w', σ23)) (fun q' => v = q'.1) := fun τ8 ρ' v w' e => kp_bn (fun _ _ => trivial : kp _ (fun _ => True)) (fun σ23 _ => kp_some e)
  refine kp_ih (fun z => kp_some (fun τ ρ' t => ref τ ρ' _ t (fun τ5 r8 τ8 x11 hm g aw ex => ?_))) (fun z => ?_)
  · obtain ⟨-, -, -, g⟩ := g
    rcases g with ⟨q, -⟩ | ⟨-, q, -⟩
    · exact absurd (z.symm.trans (show r12 = 1 from q)) (by decide)
    · exact kp_t q (bk _ _ _ _ rfl)
  -- it can be cut
  have yes : ∀ (v : Int32) (τ : SG) (ρ' : RG), RT σ τ → (∀ (τ5 τ8 : SG) (x11 : Int32), HOME σ τ5 → AWAY σ τ8 → LE 42 σ12 τ8 → (σ12 42 6 = τ8 54 14 ∧ σ12 42 7 = τ8 54 15 ∧ σ12 42 8 = τ8 54 16) → x11 = τ8 55 4 - τ8 57 4 → kp (if w = 0 then bn (F_X12_goesBack τ8 ρ') fun σ23 => some ((τ8 54 14), σ23) else if w = (1 : Int32) then bn (F_X12_goesBack τ8 ρ') fun σ22 => some ((τ8 54 15), σ22) else if w = (2 : Int32) then bn (F_X12_goesBack τ8 ρ') fun σ21 => some ((τ8 54 16), σ21) else if w = (6 : Int32) then bn (F_X12_goesBack τ8 ρ') fun σ20 => some (x11, σ20) else nm ((0 : Int32) + w) fun x16 => nm (x16 - (3 : Int32)) fun x17 => gd (inb x17 909) <| bn (F_X12_goesBack τ8 ρ') fun σ19 => some ((τ8 55 (x17).toNatClampNeg), σ19)) (fun q' => v = q'.1)) → kp (F_X12_would a w τ ρ') (fun q' => v = q'.1) := fun v τ ρ' t k => ref τ ρ' _ t (fun τ5 r8 τ8 x11 hm g aw ex => by
    obtain ⟨-, le, -, g⟩ := g
    rcases g with ⟨-, q, -, ww, -⟩ | ⟨q, -⟩
    · exact kp_f (by rw [show r8 = 1 from q]; decide) (k τ5 τ8 x11 hm aw le ww ex)
    · exact absurd (show r12 = 0 from q) z)
  have nw : ∀ {m : Int32}, w = m → ∀ n : Int32, ¬ m = n → ¬ w = n := fun e n h z => h (e.symm.trans z)
  have ff : ∀ (m : Int32) (k : Nat) (τ8 : SG) (ρ' : RG) (x11 v : Int32), w = m → ¬ m = 0 → ¬ m = 1 → ¬ m = 2 → ¬ m = 6 → (m - 3).toNatClampNeg = k → (0 : Int32) + m = m → v = τ8 55 k → kp (if w = 0 then bn (F_X12_goesBack τ8 ρ') fun σ23 => some ((τ8 54 14), σ23) else if w = (1 : Int32) then bn (F_X12_goesBack τ8 ρ') fun σ22 => some ((τ8 54 15), σ22) else if w = (2 : Int32) then bn (F_X12_goesBack τ8 ρ') fun σ21 => some ((τ8 54 16), σ21) else if w = (6 : Int32) then bn (F_X12_goesBack τ8 ρ') fun σ20 => some (x11, σ20) else nm ((0 : Int32) + w) fun x16 => nm (x16 - (3 : Int32)) fun x17 => gd (inb x17 909) <| bn (F_X12_goesBack τ8 ρ') fun σ19 => some ((τ8 55 (x17).toNatClampNeg), σ19)) (fun q' => v = q'.1) := fun m k τ8 ρ' x11 v e n0 n1 n2 n6 hk h0 hv => by
    refine kp_f (nw e _ n0) (kp_f (nw e _ n1) (kp_f (nw e _ n2) (kp_f (nw e _ n6) (kp_nm (fun x16 h16 => kp_nm (fun x17 h17 => kp_gd (fun _ => ?_)))))))
    rw [h17, h16, e, h0, hk]
    exact bk _ _ _ _ hv
  refine kp_ih (fun e => kp_some (fun τ ρ' t => yes _ τ ρ' t (fun τ5 τ8 x11 hm aw le ww ex => kp_t e (bk _ _ _ _ ww.1)))) (fun n0 => kp_ih (fun e => kp_some (fun τ ρ' t => yes _ τ ρ' t (fun τ5 τ8 x11 hm aw le ww ex => kp_f n0 (kp_t e (bk _ _ _ _ ww.2.1))))) (fun n1 => kp_ih (fun e => kp_some (fun τ ρ' t => yes _ τ ρ' t (fun τ5 τ8 x11 hm aw le ww ex => kp_f n0 (kp_f n1 (kp_t e (bk _ _ _ _ ww.2.2)))))) (fun n2 => kp_ih (fun e => kp_some (fun τ ρ' t => yes _ τ ρ' t (fun τ5 τ8 x11 hm aw le ww ex => ff 3 0 τ8 ρ' x11 _ e (by decide) (by decide) (by decide) (by decide) (by decide) (by decide) le.1))) (fun n3 => kp_ih (fun e => kp_some (fun τ ρ' t => yes _ τ ρ' t (fun τ5 τ8 x11 hm aw le ww ex => ff 4 1 τ8 ρ' x11 _ e (by decide) (by decide) (by decide) (by decide) (by decide) (by decide) le.2.1))) (fun n4 => kp_ih (fun e => kp_some (fun τ ρ' t => yes _ τ ρ' t (fun τ5 τ8 x11 hm aw le ww ex => ff 5 2 τ8 ρ' x11 _ e (by decide) (by decide) (by decide) (by decide) (by decide) (by decide) le.2.2.1))) (fun n5 => kp_nm (fun x15 h15 => kp_some (fun τ ρ' t => yes _ τ ρ' t (fun τ5 τ8 x11 hm aw le ww ex => ?_)))))))))
  have e6 : w = 6 := by
    have g := rc_i y
    have i0 : (0 : Int32).toInt = 0 := rfl
    have i1 : (1 : Int32).toInt = 1 := rfl
    have i2 : (2 : Int32).toInt = 2 := rfl
    have i3 : (3 : Int32).toInt = 3 := rfl
    have i4 : (4 : Int32).toInt = 4 := rfl
    have i5 : (5 : Int32).toInt = 5 := rfl
    have i6 : (6 : Int32).toInt = 6 := rfl
    have k : ∀ m : Int32, ¬ w = m → w.toInt ≠ m.toInt := fun m n z => n (ieq z)
    have k0 := k 0 n0
    have k1 := k 1 n1
    have k2 := k 2 n2
    have k3 := k 3 n3
    have k4 := k 4 n4
    have k5 := k 5 n5
    exact ieq (by omega)
  refine kp_f n0 (kp_f n1 (kp_f n2 (kp_t e6 (bk _ _ _ _ ?_))))
  have s35 : σ12 3 5 = σ 3 5 := kd_lo h12.1 (by decide) (by decide)
  have l4 : σ 3 5 = σ 55 4 := b.2.2.2.1.1.1 4 (by decide)
  rw [h15, ex, s35, l4, aw.2 4 (by decide), le.2.2.2.2]
/-! who -/
theorem who_l {N : Nat} {K len : Nat → Nat} {σ : SG} {ρ : RG} (b : BS N K len σ ρ) : kp (F_X11_who N K len σ ρ) (fun q => ∀ (τ : SG) (ρ' : RG), RT σ τ → kp (F_X12_who τ ρ') (fun q' => q.1 = q'.1)) := by
  have t11 : σ 1 1 = σ 55 11 := b.2.1.1.1
  have s7 : ∀ σ' : SG, KD σ σ' → σ' 1 7 = σ 55 18 ∧ σ' 1 8 = σ 55 19 := fun σ' h => ⟨(kd_lo h (by decide) (by decide)).trans b.2.2.2.1.1.2.2.2.2.1.1, (kd_lo h (by decide) (by decide)).trans b.2.2.2.1.1.2.2.2.2.1.2⟩
  obtain ⟨c0, c6⟩ := b.2.2.2.2
  have loop : ∀ (n : Nat) (σ' : SG) (v1 v2 : Int32), KD σ σ' → (∀ k, k ≤ 5 → σ' 40 k = σ 3 k) → 0 ≤ v2.toInt → v2.toInt ≤ 6 → kp (F_X11_who_8 N K len n σ' ρ v1 v2) (fun q => ∀ (m : Nat) (τ : SG) (ρ' : RG), HOME σ τ → kp (F_X12_who_8 m τ ρ' v1 v2) (fun q' => q.1 = q'.1)) := by
    intro n
    induction n with
    | zero => intro σ' v1 v2 _ _ _ _; exact kp_none
    | succ n ih =>
      intro σ' v1 v2 hd h40 hv0 hv6
      have w1 : σ' 1 1 = σ 1 1 := kd_lo hd (by decide) (by decide)
      unfold F_X11_who_8
      rw [w1]
      refine kp_ih (fun d => kp_some (fun m τ ρ' hm => ?_)) (fun d => kp_bn (at_bs (N := N) (len := len) b hd) (fun o3 h3 => ?_))
      · cases m with
        | zero => exact kp_none
        | succ m =>
          unfold F_X12_who_8
          exact kp_t (by rw [hm.1.1 11 (by decide), ← t11]; exact d) (kp_some rfl)
      have p2 := lt_i (nle d)
      rcases h3 with ⟨rfl, no⟩ | ⟨c, j, rfl, v1', v2', hj, ej, hcj⟩
      · exact absurd ⟨i_le (by rw [ti_0]; omega), i_lt p2⟩ no
      show kp (gd (isC N K c) _) _
      obtain ⟨th, tr⟩ := th_bs b hj hcj (by omega)
      have tr' : rg (σ c 4) 0 100 := by rw [th]; exact ⟨by have := tr.1; omega, by have := tr.2; omega⟩
      refine kp_gd (fun hcc => kp_bn2 (sim_step (d := 0) (th := σ c 4) b (by decide) rfl ej hj hcj hcc hd tr' (Or.inl ⟨rfl, rfl⟩)) (fun r12 σ12 h12 => ?_))
      have hd12 : KD σ σ12 := h12.1
      have s12 := s7 σ12 hd12
      have h40' : ∀ k, k ≤ 5 → σ12 40 k = σ 3 k := fun k hk => (h12.2.1 40 k (by decide) (by decide)).trans (h40 k hk)
      -- a round of the reference
      have ref : ∀ (m : Nat) (τ : SG) (ρ' : RG) (P : Int32 × SG → Prop), HOME σ τ → (∀ (m' : Nat) (τ8 : SG) (x7 x9 : Int32), HOME σ τ8 → x9 = v2 + 1 → (x7 = (if r12 = 0 then v1 ||| 0 else if σ12 42 2 = σ12 1 7 then (if σ12 42 3 = σ12 1 8 then v1 ||| ((1 : Int32) <<< (v2 &&& 31)) else v1 ||| 0) else v1 ||| 0)) → kp (F_X12_who_8 m' τ8 ρ' x7 x9) P) → kp (F_X12_who_8 m τ ρ' v1 v2) P := fun m τ ρ' P hm k => by
        cases m with
        | zero => exact kp_none
        | succ m =>
          unfold F_X12_who_8
          refine kp_f (by rw [hm.1.1 11 (by decide), ← t11]; exact d) (kp_nm (fun x3 g3 => kp_gd (fun _ => ?_)))
          rw [jn ej hj g3, hm.1.1 (44 + j) (by omega), ← th]
          refine kp_bn2 (h12.2.2 τ ρ' 999 (by omega) hm.1 (home_le b hm h40) (home_lq b hm)) (fun r5 τ5 g5 => ?_)
          have aw : AWAY σ τ5 := away_ft hj (home_away hm) g5.1.1
          have t18 : τ5 55 18 = σ 55 18 := aw.1.1 18 (by decide)
          have t19 : τ5 55 19 = σ 55 19 := aw.1.1 19 (by decide)
          have fin : ∀ k1 : Int32, (v1 ||| k1 = (if r12 = 0 then v1 ||| 0 else if σ12 42 2 = σ12 1 7 then (if σ12 42 3 = σ12 1 8 then v1 ||| ((1 : Int32) <<< (v2 &&& 31)) else v1 ||| 0) else v1 ||| 0)) → kp (F_X12_who_76 (F_X12_who_8 m) τ5 ρ' v2 v1 k1) P := fun k1 e => by
            unfold F_X12_who_76
            exact kp_nm (fun x7 g7 => kp_bn (home_back aw) (fun τ8 g8 => kp_nm (fun x9 g9 => k m τ8 x7 x9 g8.1 g9 (g7.trans e))))
          obtain ⟨-, le, -, g⟩ := g5.1
          have le2 : σ12 42 2 = τ5 55 1 := le.2.1
          have le3 : σ12 42 3 = τ5 55 2 := le.2.2.1
          rcases g with ⟨q, q', -⟩ | ⟨q, q', -⟩
          · have q : r12 = 1 := q
            have q' : r5 = 1 := q'
            have nq : ¬ r12 = 0 := by rw [q]; decide
            refine kp_f (by rw [q']; decide) ?_
            rw [t18, t19, ← le2, ← le3, ← s12.1, ← s12.2]
            refine kp_ih (fun z => kp_ih (fun z' => kp_nm (fun x12 g12 => fin x12 ?_)) (fun z' => ?_)) (fun z => ?_)
            · rw [if_neg nq, if_pos z, if_pos z', g12]
            · unfold F_X12_who_75
              exact fin 0 (by rw [if_neg nq, if_pos z, if_neg z'])
            · unfold F_X12_who_75
              exact fin 0 (by rw [if_neg nq, if_neg z])
          · have q : r12 = 0 := q
            have q' : r5 = 0 := q'
            refine kp_t q' ?_
            unfold F_X12_who_75
            exact fin 0 (by rw [if_pos q])
      have or0 : v1 ||| 0 = v1 := Int32.or_zero
      have nx : ∀ (y : Int32), (y = (if r12 = 0 then v1 ||| 0 else if σ12 42 2 = σ12 1 7 then (if σ12 42 3 = σ12 1 8 then v1 ||| ((1 : Int32) <<< (v2 &&& 31)) else v1 ||| 0) else v1 ||| 0)) → kp (F_X11_who_80 N K len (F_X11_who_8 N K len n) σ12 ρ y v2) (fun q => ∀ (m : Nat) (τ : SG) (ρ' : RG), HOME σ τ → kp (F_X12_who_8 m τ ρ' v1 v2) (fun q' => q.1 = q'.1)) := fun y ey => by
        unfold F_X11_who_80
        refine kp_nm (fun x7 h7 => ?_)
        have e7 : x7.toInt = v2.toInt + 1 := by rw [h7, ti_add (by rw [ti_1]; omega) (by rw [ti_1]; omega), ti_1]
        refine kp_mono (ih σ12 y x7 hd12 h40' (by omega) (by omega)) (fun q hq m τ ρ' hm => ref m τ ρ' _ hm (fun m' τ8 x7' x9' g1 g2 g3 => ?_))
        rw [g2, ← h7, g3, ← ey]
        exact hq m' τ8 ρ' g1
      refine kp_ih (fun z => nx v1 (by rw [if_pos z, or0])) (fun z => kp_ih (fun z1 => kp_ih (fun z2 => kp_nm (fun x16 h16 => kp_nm (fun x17 h17 => nx x17 ?_))) (fun z2 => nx v1 ?_)) (fun z1 => nx v1 ?_))
      · rw [if_neg z, if_pos z1, if_pos z2, h17, h16]
      · rw [if_neg z, if_pos z1, if_neg z2, or0]
      · rw [if_neg z, if_neg z1, or0]
  unfold F_X11_who
  refine kp_bn (k_start b.1.1) (fun σ1 h1 => kp_mono (loop 1024 σ1 0 0 h1.1 h1.2 (by decide) (by decide)) (fun q hq τ ρ' t => ?_))
  unfold F_X12_who
  exact kp_bn (home_keeps b t) (fun τ1 g1 => hq 1024 τ1 ρ' g1)
