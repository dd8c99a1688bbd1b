/-! PART 7690.wx: by hand: what a try of a cut leaves on the class's loaf: weight, least and greatest edge, slopes -/
def WX (i : Nat) (q : SG) : Prop := (0 ≤ (q i 6).toInt ∧ (q i 6).toInt ≤ 2400) ∧ rg (q i 7) 0 600 ∧ rg (q i 8) 0 600
def WY (i : Nat) (q : SG) : Prop := WX i q ∧ rg (q i 2) (-99) 99 ∧ rg (q i 3) (-99) 99
theorem wgx_8 {i : Nat} {b1 b2 b3 v1 v2 v3 : Int32} {ρ : RG} (h1 : rg v1 0 100) (h2 : rg v2 (-198) 198) (h3 : rg v3 (-198) 198) : ∀ (n k : Nat) (σ : SG) (v4 : Int32), v4.toInt = (k : Int) → k ≤ 4 → 0 ≤ (σ i 6).toInt → (σ i 6).toInt ≤ 600 * (k : Int) → (1 ≤ k → rg (σ i 7) 0 600 ∧ rg (σ i 8) 0 600) → kp (F_X3_weigh_8 i b1 b2 b3 n σ ρ v1 v2 v3 v4) (WX i) := by
  have e4 : (4 : Int32).toInt = 4 := rfl
  intro n
  induction n with
  | zero => intro k σ v4 _ _ _ _ _; exact kp_none
  | succ n ih =>
    intro k σ v4 hk hk4 w0 w1 w78
    unfold F_X3_weigh_8
    refine kp_ih (fun c => kp_some ?_) (fun c => kp_bn (k_across hk) (fun r4 g4 => kp_nm (fun x5 g5 => kp_nm (fun x6 g6 => kp_nm (fun x7 g7 => kp_nm (fun σ9 g9 => ?_))))))
    · have := le_i c
      obtain ⟨y7, y8⟩ := w78 (by omega)
      exact ⟨⟨w0, by omega⟩, y7, y8⟩
    have c4 := lt_i (nle c)
    have ra := acr_rg (k := k) h2 h3
    rw [← g4] at ra
    have a1 := ra.1
    have a2 := ra.2
    have b1' := h1.1
    have b2' := h1.2
    have e5 : x5.toInt = v1.toInt + r4.toInt := by rw [g5, ti_add (by omega) (by omega)]
    have e6 : rg x6 0 600 := by
      by_cases z : 0 < x5
      · rw [if_pos z] at g6
        have := lt_i z
        rw [ti_0] at this
        rw [g6]; exact ⟨by omega, by omega⟩
      · rw [if_neg z] at g6
        rw [g6]; exact ⟨by decide, by decide⟩
    have e61 := e6.1
    have e62 := e6.2
    have e7 : x7.toInt = (σ i 6).toInt + x6.toInt := by rw [g7, ti_add (by omega) (by omega)]
    have w9 : (σ9 i 6).toInt = (σ i 6).toInt + x6.toInt := by rw [g9, sv]; exact e7
    have last : ∀ (s : SG) (y : Int32), s i 6 = σ9 i 6 → rg (s i 7) 0 600 → rg y 0 600 → kp (F_X3_weigh_83 i b1 b2 b3 (F_X3_weigh_8 i b1 b2 b3 n) s ρ v1 v2 v3 v4 y) (WX i) := fun s y hs h7 hy => by
      unfold F_X3_weigh_83
      refine kp_nm (fun σ17 g17 => kp_nm (fun x18 g18 => ?_))
      have e18 : x18.toInt = ((k + 1 : Nat) : Int) := by rw [g18, ti_add (by rw [ti_1]; omega) (by rw [ti_1]; omega), ti_1, hk]; omega
      have w17 : σ17 i 6 = σ9 i 6 := by rw [g17, sn (by omega)]; exact hs
      have w7 : σ17 i 7 = s i 7 := by rw [g17, sn (by omega)]
      have w8 : σ17 i 8 = y := by rw [g17, sv]
      exact ih (k + 1) σ17 x18 e18 (by omega) (by rw [w17]; omega) (by rw [w17]; omega) (fun _ => ⟨by rw [w7]; exact h7, by rw [w8]; exact hy⟩)
    have mid : ∀ (z : Int32), rg z 0 600 → kp (F_X3_weigh_60 i b1 b2 b3 (F_X3_weigh_8 i b1 b2 b3 n) σ9 ρ v1 v2 v3 v4 x6 z) (WX i) := fun z hz => by
      unfold F_X3_weigh_60
      refine kp_nm (fun σ13 g13 => ?_)
      have w13 : σ13 i 6 = σ9 i 6 := by rw [g13, sn (by omega)]
      have w7 : rg (σ13 i 7) 0 600 := by rw [g13, sv]; exact hz
      have w8 : σ13 i 8 = σ i 8 := by rw [g13, sn (by omega), g9, sn (by omega)]
      refine kp_ih (fun y => last σ13 x6 w13 w7 e6) (fun y => kp_nm (fun x15 g15 => last σ13 x15 w13 w7 ?_))
      have k1 : 1 ≤ k := by
        rcases Nat.eq_zero_or_pos k with z0 | z0
        · exact absurd (ieq (by rw [hk, z0, ti_0]; rfl)) y
        · exact z0
      have y8 := (w78 k1).2
      rw [g15, w8]
      by_cases w : σ i 8 < x6
      · rw [if_pos w]; exact e6
      · rw [if_neg w]; exact y8
    refine kp_ih (fun y => mid x6 e6) (fun y => kp_nm (fun x11 g11 => mid x11 ?_))
    have k1 : 1 ≤ k := by
      rcases Nat.eq_zero_or_pos k with z0 | z0
      · exact absurd (ieq (by rw [hk, z0, ti_0]; rfl)) y
      · exact z0
    have w7 : σ9 i 7 = σ i 7 := by rw [g9, sn (by omega)]
    have y7 := (w78 k1).1
    rw [g11, w7]
    by_cases w : x6 < σ i 7
    · rw [if_pos w]; exact e6
    · rw [if_neg w]; exact y7
theorem wgx_111 {N : Nat} {K len : Nat → Nat} {i z q0 : Nat} {a2 a4 a5 v2 v5 v6 v7 v8 v9 v11 v12 k1 : Int32} {σ : SG} {ρ : RG} (hu : rg (σ i 2) (-99) 99) (hs : rg (σ i 3) (-99) 99) (ht : rg v2 0 100) (hv : rg v12 (-99) 99) : kp (F_X3_tryCut_111 N K len i z a2 a4 a5 σ ρ v2 v5 v6 v7 v8 v9 v11 v12 q0 k1) (fun q => q.1 = 1 → WY i q.2) := by
  unfold F_X3_tryCut_111
  refine kp_gd (fun _ => kp_bx (fun r10 => kp_nm (fun x11 _ => kp_bn k_held (fun r12 g12 => kp_nm (fun x13 g13 => kp_nm (fun x14 g14 => ?_))))))
  have r12' : rg r12 (-99) 99 := by rw [g12]; exact hld_rg _
  have sub : ∀ a b c : Int32, rg a (-99) 99 → rg b (-99) 99 → c = a - b → rg c (-198) 198 := fun a b c ha hb hc => by
    have a1 := ha.1
    have a2 := ha.2
    have b1 := hb.1
    have b2 := hb.2
    have e : c.toInt = a.toInt - b.toInt := by rw [hc, ti_sub (by omega) (by omega)]
    exact ⟨by omega, by omega⟩
  have w : kp (F_X3_weigh i v2 x13 x14 σ ρ) (WX i) := by
    unfold F_X3_weigh
    exact kp_nm (fun σ2 g2 => wgx_8 ht (sub _ _ _ hu hv g13) (sub _ _ _ hs r12' g14) 1024 0 σ2 0 rfl (by decide) (by rw [g2, sv]; decide) (by rw [g2, sv]; decide) (fun q => absurd q (by decide)))
  refine kp_bn w (fun σ15 g15 => kp_nm (fun x16 _ => kp_nm (fun σ18 g18 => kp_nm (fun σ20 g20 => kp_nm (fun σ22 g22 => ?_)))))
  have w22 : ∀ k, 6 ≤ k → σ22 i k = σ15 i k := fun k hk => by rw [g22, sn (by omega), g20, sn (by omega), g18, sn (by omega)]
  have w2 : σ22 i 2 = v12 := by rw [g22, sn (by omega), g20, sv]
  have w3 : σ22 i 3 = r12 := by rw [g22, sv]
  have fin : kp (F_X3_tryCut_180 N K len i z a2 a4 a5 σ22 ρ) (fun q => q.1 = 1 → WY i q.2) := by
    unfold F_X3_tryCut_180
    refine kp_nm (fun x24 _ => kp_nm (fun σ26 g26 => kp_some (fun _ => ?_)))
    have u : ∀ k, k ≠ 4 → σ26 i k = σ22 i k := fun k hk => by rw [g26, sn (by omega)]
    show WY i σ26
    refine ⟨⟨?_, ?_, ?_⟩, ?_, ?_⟩
    · rw [u 6 (by decide), w22 6 (by decide)]; exact g15.1
    · rw [u 7 (by decide), w22 7 (by decide)]; exact g15.2.1
    · rw [u 8 (by decide), w22 8 (by decide)]; exact g15.2.2
    · rw [u 2 (by decide), w2]; exact hv
    · rw [u 3 (by decide), w3]; exact r12'
  exact kp_if (kp_bx (fun r27 => kp_if (kp_nm (fun σ30 _ => kp_nm (fun σ32 _ => kp_nm (fun σ34 _ => kp_nm (fun σ36 _ => kp_some (fun q => absurd q (show ¬ (0 : Int32) = 1 by decide))))))) fin)) fin
theorem wgx_try {N : Nat} {K len : Nat → Nat} {i c : Nat} {th a5 : Int32} {σ : SG} {ρ : RG} (hc : isC N K c = true) (hci : c ≠ i + 1) (hu : rg (σ i 2) (-99) 99) (hs : rg (σ i 3) (-99) 99) (ht : rg th 0 100) : kp (F_X3_tryCut N K len i c th 0 a5 σ ρ) (fun q => q.1 = 1 → WY i q.2) := by
  unfold F_X3_tryCut
  refine kp_bn (k_note hc hci) (fun σ1 h1 => kp_bx (fun r2 => kp_bx (fun r3 => ?_)))
  have u1 : rg (σ1 i 2) (-99) 99 := by rw [h1.1 i 2 (by omega)]; exact hu
  have s1 : rg (σ1 i 3) (-99) 99 := by rw [h1.1 i 3 (by omega)]; exact hs
  have prep : kp (F_v_prepare N K len c i σ1 ρ) (fun q => rg (q i 2) (-99) 99 ∧ rg (q i 3) (-99) 99) := by
    unfold F_v_prepare
    refine kp_if (kp_bx (fun _ => kp_some ⟨u1, s1⟩)) (kp_if (kp_bx (fun _ => kp_some ⟨u1, s1⟩)) (kp_if ?_ (kp_if ?_ (kp_if (kp_bx (fun _ => kp_some ⟨u1, s1⟩)) (kp_if (kp_bx (fun _ => kp_some ⟨u1, s1⟩)) (kp_if (kp_bx (fun _ => kp_some ⟨u1, s1⟩)) kp_none))))))
    · unfold F_X4_prepare
      refine kp_nm (fun x1 y1 => kp_nm (fun σ3 y3 => kp_some ⟨?_, ?_⟩))
      · rw [y3, sv, y1]; exact rg_ng u1
      · rw [y3, sn (by omega)]; exact s1
    · unfold F_X5_prepare
      refine kp_bn2 k_straight (fun r1 σ3 y => kp_some ?_)
      obtain ⟨-, -, -, y3, y4, -⟩ := y
      have y3 : σ3 i 2 = 0 := y3
      have y4 : σ3 i 3 = 0 := y4
      exact ⟨by rw [y3]; exact ⟨by decide, by decide⟩, by rw [y4]; exact ⟨by decide, by decide⟩⟩
  refine kp_bn prep (fun σ4 h4 => ?_)
  have go : ∀ k1 : Int32, kp (F_X3_tryCut_80 N K len i c th 0 a5 σ4 ρ c th 0 a5 (σ i 1) (σ i 2) (σ i 3) (σ i 5) r2 r3 c k1) (fun q => q.1 = 1 → WY i q.2) := fun k1 => by
    unfold F_X3_tryCut_80
    refine kp_gd (fun _ => kp_gd (fun _ => kp_bx (fun r6 => kp_nm (fun x7 _ => kp_bn k_held (fun r8 g8 => ?_)))))
    have r8' : rg r8 (-99) 99 := by rw [g8]; exact hld_rg _
    exact kp_if (wgx_111 h4.1 h4.2 ht r8') (kp_nm (fun x37 _ => wgx_111 h4.1 h4.2 ht r8'))
  exact kp_if (go _) (kp_nm (fun x38 _ => go _))
theorem wgx_step {N : Nat} {K len : Nat → Nat} {d c : Nat} {a1 a3 : Int32} {s : SG} {ρ : RG} (hL : Lay N K len ρ) (hd6 : d < 6) (ha : a1.toInt = (d : Int)) (hcc : isC N K c = true) (hu : rg (s (40 + 2 * d) 2) (-99) 99) (hs : rg (s (40 + 2 * d) 3) (-99) 99) (ht : (a3 = 0 → rg (s c 4) 0 100) ∧ (¬ a3 = 0 → rg a3 0 100)) : kp (F_X11_tryStep N K len a1 c a3 s ρ) (fun q => (q.1 = 0 ∨ q.1 = 1) ∧ (q.1 = 1 → WY (42 + 2 * d) q.2)) := by
  have c65 := ck_65 hL hcc
  have i7 : (7 : Int32).toInt = 7 := rfl
  unfold F_X11_tryStep
  refine kp_f (fun z => by have := lt_i z; rw [ti_0] at this; omega) (kp_nm (fun x2 h2 => ?_))
  have e2 : x2.toInt = ((d + 1 : Nat) : Int) := by rw [h2, ti_add (by rw [ti_1]; omega) (by rw [ti_1]; omega), ti_1, ha]; omega
  refine kp_t (i_lt (by omega)) (kp_nm (fun x4 h4 => kp_gd (fun _ => ?_)))
  have n4 : x4.toNatClampNeg = d + 1 := cn (by rw [h4, ← h2]; exact e2)
  have na : a1.toNatClampNeg = d := cn ha
  rw [n4, ly34 hL (by omega : d + 1 < 7)]
  show kp (gd (isLb _) _) _
  refine kp_gd (fun _ => kp_gd (fun _ => ?_))
  rw [na, ly34 hL (by omega : d < 7)]
  show kp (gd (isLb _) _) _
  refine kp_gd (fun _ => kp_bn (k_tk (by omega)) (fun σ9 h9 => kp_nm (fun x10 h10 => kp_gd (fun _ => ?_))))
  have n10 : x10.toNatClampNeg = d + 1 := cn (by rw [h10, ← h2]; exact e2)
  rw [n10, ly34 hL (by omega : d + 1 < 7)]
  show kp (gd (isLb _) _) _
  have ed : 40 + 2 * (d + 1) = 42 + 2 * d := by omega
  rw [ed] at h9 ⊢
  have go : ∀ t : Int32, rg t 0 100 → kp (F_X11_tryStep_59 N K len a1 c a3 σ9 ρ (42 + 2 * d) c t) (fun q => (q.1 = 0 ∨ q.1 = 1) ∧ (q.1 = 1 → WY (42 + 2 * d) q.2)) := fun t rt => by
    unfold F_X11_tryStep_59
    exact kp_gd (fun _ => kp_gd (fun _ => kp_bn2 (wgx_try (i := 42 + 2 * d) hcc (by omega) (by rw [h9.2 2 (by decide)]; exact hu) (by rw [h9.2 3 (by decide)]; exact hs) rt) (fun r14 σ14 h14 => kp_gd (fun g => kp_some ⟨by unfold isb at g; simpa using g, h14⟩))))
  refine kp_gd (fun _ => kp_ih (fun z => go _ ?_) (fun z => go _ (ht.2 z)))
  rw [h9.1 c 4 (by omega)]; exact ht.1 z
