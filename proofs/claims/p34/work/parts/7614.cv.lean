/-! PART 7614.cv: by hand: one cut, class and reference side by side: the whole -/
theorem hb_ca {ob row : Nat} {σ τ : SG} (H : HB ob row σ τ) : ∃ ca : Nat, ca ≤ 10 ∧ (σ ob 2).toInt = (ca : Int) ∧ CW (σ (ob + 4)) (σ (ob + 3)) ca := by
  rcases H with ⟨a, b, c, d⟩ | ⟨b, ca, b5, e16, e12, c10, v0, v1, v2, v3, v4, R⟩
  · exact ⟨0, by decide, by rw [d]; rfl, fun i hi => absurd hi (Nat.not_lt_zero _)⟩
  · exact ⟨ca, c10, v2, cdr_cw R⟩
theorem lb_54 {i : Nat} (h : isLb i = true) : i + 1 < 54 ∧ (i = 3 ∨ i = 16 ∨ 37 ≤ i) := by
  rcases lb_or h with rfl | rfl | rfl | rfl | rfl | rfl | rfl | rfl | rfl | rfl <;> exact ⟨by decide, by decide⟩
/-- what a cut by the class leaves; by the reference -/
def FC (i : Nat) (σ σ' : SG) : Prop := ∀ r k, ¬ (r = i ∧ 1 ≤ k) → r ≠ i + 1 → σ' r k = σ r k
def FT (j : Nat) (τ τ' : SG) : Prop := ∀ r k, r ≠ 58 → r ≠ 59 → ¬ (r = 54 ∧ 12 ≤ k ∧ k ≤ 16) → ¬ (r = 55 ∧ (k ≤ 4 ∨ k = 5 + j)) → τ' r k = τ r k
theorem fc_trans {i : Nat} {σ σ1 σ2 : SG} (h : FC i σ σ1) (h' : FC i σ1 σ2) : FC i σ σ2 := fun r k a b => (h' r k a b).trans (h r k a b)
theorem ft_trans {j : Nat} {τ τ1 τ2 : SG} (h : FT j τ τ1) (h' : FT j τ1 τ2) : FT j τ τ2 := fun r k a b c d => (h' r k a b c d).trans (h r k a b c d)
theorem fc_refl {i : Nat} {σ : SG} : FC i σ σ := fun _ _ _ _ => rfl
theorem ft_refl {j : Nat} {σ : SG} : FT j σ σ := fun _ _ _ _ _ _ => rfl
theorem k_note {N : Nat} {K len : Nat → Nat} {i c : Nat} {a2 : Int32} {σ : SG} {ρ : RG} (hc : isC N K c = true) (hci : c ≠ i + 1) : kp (F_X3_noteStart N K len i c a2 σ ρ) (fun q => (∀ r k, r ≠ i + 1 → q r k = σ r k) ∧ q (i + 1) 0 = σ c 0 ∧ q (i + 1) 1 = kno (K c) ∧ q (i + 1) 2 = a2 ∧ q (i + 1) 3 = babs (σ i 2) ∧ q (i + 1) 4 = σ i 1 / 10 ∧ q (i + 1) 5 = σ i 4 - σ i 4 / 10 * 10) := by
  unfold F_X3_noteStart
  refine kp_nm (fun σ2 h2 => kp_bn (k_kind hc) (fun r3 h3 => kp_nm (fun σ5 h5 => kp_nm (fun σ7 h7 => kp_nm (fun x8 h8 => kp_nm (fun σ10 h10 => kp_nm (fun x11 h11 => kp_nm (fun σ13 h13 => kp_nm (fun x14 h14 => kp_nm (fun σ16 h16 => kp_some ?_))))))))))
  have o7 : ∀ r k, r ≠ i + 1 → σ7 r k = σ r k := fun r k n => by rw [h7, sn (by omega), h5, sn (by omega), h2, sn (by omega)]
  have o10 : ∀ r k, r ≠ i + 1 → σ10 r k = σ r k := fun r k n => by rw [h10, sn (by omega), o7 r k n]
  have o13 : ∀ r k, r ≠ i + 1 → σ13 r k = σ r k := fun r k n => by rw [h13, sn (by omega), o10 r k n]
  refine ⟨fun r k n => by rw [h16, sn (by omega), o13 r k n], ?_, ?_, ?_, ?_, ?_, ?_⟩
  · rw [h16, sn (by omega), h13, sn (by omega), h10, sn (by omega), h7, sn (by omega), h5, sn (by omega), h2, sv]
  · rw [h16, sn (by omega), h13, sn (by omega), h10, sn (by omega), h7, sn (by omega), h5, sv, h3]
  · rw [h16, sn (by omega), h13, sn (by omega), h10, sn (by omega), h7, sv]
  · rw [h16, sn (by omega), h13, sn (by omega), h10, sv, h8, o7 i 2 (by omega)]; rfl
  · rw [h16, sn (by omega), h13, sv, h11, o10 i 1 (by omega)]
  · rw [h16, sv, h14, o13 i 4 (by omega)]
theorem k_slope {i : Nat} {σ : SG} {ρ : RG} : kp (F_X3_slope i σ ρ) (fun q => q = babs (σ i 2) + babs (σ i 3)) := by
  unfold F_X3_slope
  exact kp_nm (fun x h => kp_nm (fun y g => kp_nm (fun z e => kp_some (by rw [e, g, h]; rfl))))
theorem k_leastC {i : Nat} {σ : SG} {ρ : RG} : kp (F_X3_leastCorner i σ ρ) (fun q => q = σ i 1 - (babs (σ i 2) + babs (σ i 3))) := by
  unfold F_X3_leastCorner
  exact kp_bn k_slope (fun r h => kp_nm (fun x g => kp_some (by rw [g, h])))
theorem k_leastR {τ : SG} {ρ : RG} : kp (F_X12_leastCorner τ ρ) (fun q => q = τ 55 0 - (babs (τ 55 1) + babs (τ 55 2))) := by
  unfold F_X12_leastCorner
  refine kp_bn k_size (fun r h => kp_nm (fun x g => kp_bn k_size (fun s e => kp_nm (fun y f => kp_some ?_))))
  rw [f, e, g, h]
  generalize babs (τ 55 1) = a
  generalize babs (τ 55 2) = b
  grind
/-- put right: both -/
theorem k_straight {i : Nat} {σ : SG} {ρ : RG} : kp (F_X3_straighten i σ ρ) (fun q => q.1 = 4 * (babs (σ i 2) + babs (σ i 3)) ∧ (∀ r k, ¬ (r = i ∧ (k = 1 ∨ k = 2 ∨ k = 3 ∨ k = 5)) → q.2 r k = σ r k) ∧ q.2 i 1 = σ i 1 - (babs (σ i 2) + babs (σ i 3)) ∧ q.2 i 2 = 0 ∧ q.2 i 3 = 0 ∧ q.2 i 5 = σ i 5 + 4 * (babs (σ i 2) + babs (σ i 3))) := by
  unfold F_X3_straighten
  refine kp_bn k_slope (fun r1 h1 => kp_nm (fun x2 h2 => kp_nm (fun σ4 h4 => kp_nm (fun σ6 h6 => kp_nm (fun σ8 h8 => kp_nm (fun x9 h9 => kp_nm (fun x10 h10 => kp_nm (fun σ12 h12 => kp_nm (fun x13 h13 => kp_some ?_)))))))))
  refine ⟨?_, fun r k n => ?_, ?_, ?_, ?_, ?_⟩
  · show x13 = _
    rw [h13, h1]
  · show σ12 r k = _
    rw [h12, sn (by omega), h8, sn (by omega), h6, sn (by omega), h4, sn (by omega)]
  · show σ12 i 1 = _
    rw [h12, sn (by omega), h8, sn (by omega), h6, sn (by omega), h4, sv, h2, h1]
  · show σ12 i 2 = _
    rw [h12, sn (by omega), h8, sn (by omega), h6, sv]
  · show σ12 i 3 = _
    rw [h12, sn (by omega), h8, sv]
  · show σ12 i 5 = _
    rw [h12, sv, h10, h9, h1, h8, sn (by omega), h6, sn (by omega), h4, sn (by omega)]
theorem k_rights {τ : SG} {ρ : RG} : kp (F_X12_rights τ ρ) (fun q => (∀ r k, ¬ (r = 55 ∧ (k = 0 ∨ k = 1 ∨ k = 2 ∨ k = 4)) → q r k = τ r k) ∧ q 55 0 = τ 55 0 - (babs (τ 55 1) + babs (τ 55 2)) ∧ q 55 1 = 0 ∧ q 55 2 = 0 ∧ q 55 4 = τ 55 4 + 4 * (babs (τ 55 1) + babs (τ 55 2))) := by
  unfold F_X12_rights
  refine kp_bn k_leastR (fun r1 h1 => kp_nm (fun x2 h2 => kp_nm (fun x3 h3 => kp_nm (fun x4 h4 => kp_nm (fun σ6 h6 => kp_nm (fun σ8 h8 => kp_nm (fun σ10 h10 => kp_nm (fun σ12 h12 => kp_some ?_))))))))
  refine ⟨fun r k n => ?_, ?_, ?_, ?_, ?_⟩
  · rw [h12, sn (by omega), h10, sn (by omega), h8, sn (by omega), h6, sn (by omega)]
  · rw [h12, sn (by omega), h10, sn (by omega), h8, sv, h1]
  · rw [h12, sn (by omega), h10, sv]
  · rw [h12, sv]
  · rw [h12, sn (by omega), h10, sn (by omega), h8, sn (by omega), h6, sv, h4, h3, h2, h1]
    generalize babs (τ 55 1) = a
    generalize babs (τ 55 2) = b
    generalize τ 55 0 = x
    generalize τ 55 4 = y
    grind
/-- behind what the cutter prepares: slopes and sums, as the new face is found -/
theorem sim_new {N : Nat} {K len : Nat → Nat} {i j c : Nat} {a2 a4 th a5 slip pull w1 w2 w3 w5 J x2' : Int32} {σ τ : SG} {ρ ρ' : RG} {M : Int} (hM : M ≤ 100000) (hL : Lay N K len ρ) (hi : isLb i = true) (hJ : J.toInt = (j : Int)) (hj : j < 6) (hX : CX N K j c σ ρ τ) (hH : HB 5 55 σ τ) (hE : LE i σ τ) (hq : LQ M τ) (ht : rg th 0 100) (hs : slip = τ 54 12) (hp : pull = τ 54 13) (h17 : τ 54 17 = 0) (h18 : τ 54 18 = 0 ↔ a5 = 0) : kp (F_X3_tryCut_80 N K len i c a2 a4 a5 σ ρ c th 0 a5 w1 w2 w3 w5 slip pull c (σ c 2)) (fun q => kp (F_X12_cuts_83 J th τ ρ' J th w1 w2 w3 w5) (fun q' => FC i σ q.2 ∧ FT j τ q'.2 ∧ ((q.1 = 1 ∧ q'.1 = 1 ∧ (LE i q.2 q'.2 ∧ LQ (M + 1) q'.2 ∧ q'.2 55 3 = τ 55 3 + 1) ∧ (q.2 i 6 = q'.2 54 14 ∧ q.2 i 7 = q'.2 54 15 ∧ q.2 i 8 = q'.2 54 16) ∧ q'.2 55 (5 + j) = τ 55 (5 + j) + q'.2 54 14) ∨ (q.1 = 0 ∧ q'.1 = 0 ∧ (q.2 i 1 = w1 ∧ q.2 i 2 = w2 ∧ q.2 i 3 = w3 ∧ q.2 i 4 = σ i 4 ∧ q.2 i 5 = w5) ∧ (q'.2 55 0 = w1 ∧ q'.2 55 1 = w2 ∧ q'.2 55 2 = w3 ∧ q'.2 55 3 = τ 55 3 ∧ q'.2 55 4 = w5) ∧ q'.2 55 (5 + j) = τ 55 (5 + j))))) := by
  obtain ⟨hc, c0, ck, cu, cs, ct, cd⟩ := hX
  obtain ⟨l1, l2, l3, l4, l5⟩ := hE
  obtain ⟨q1, q2, q3⟩ := hq
  obtain ⟨i54, i3⟩ := lb_54 hi
  have c65 := ck_65 hL hc
  have kk := isC_7 hc
  have e20 : (20 : Int32).toInt = 20 := rfl
  have e32 : (32 : Int32).toInt = 32 := rfl
  have e38 : (38 : Int32).toInt = 38 := rfl
  have e4 : (4 : Int32).toInt = 4 := rfl
  have e50 : (50 : Int32).toInt = 50 := rfl
  have s0 : 0 ≤ (σ i 4).toInt := by rw [l4]; exact q3.1
  obtain ⟨own, hown⟩ : ∃ own : Int32, own = if K c = 9 then τ 55 (50 + 4 * j + (m4 (σ i 4)).toNatClampNeg) - 4 else σ c 2 := ⟨_, rfl⟩
  obtain ⟨nu, hnu⟩ : ∃ nu : Int32, nu = hld (slo (K c) own (σ i 2) + slip) := ⟨_, rfl⟩
  obtain ⟨ns, hns⟩ : ∃ ns : Int32, ns = hld (slo (K c) (σ c 3) (σ i 3) + pull) := ⟨_, rfl⟩
  have rnu : rg nu (-99) 99 := hnu ▸ hld_rg _
  have rns : rg ns (-99) 99 := hns ▸ hld_rg _
  have ru : rg (τ 55 1 - nu) (-198) 198 := rg_sub q1 rnu (by decide) (by decide) (by decide) (by decide)
  have rs : rg (τ 55 2 - ns) (-198) 198 := rg_sub q2 rns (by decide) (by decide) (by decide) (by decide)
  unfold F_X3_tryCut_80
  refine kp_gd (fun _ => kp_gd (fun _ => kp_bn (k_up (j := j) (τ := τ) hc (fun k9 d hd => (cd k9 d hd).2) s0) (fun r6 h6 => kp_nm (fun x7 h7 => kp_bn k_held (fun r8 h8 => kp_t rfl ?_)))))
  have e8 : r8 = nu := by rw [h8, h7, h6, hnu, hown]
  unfold F_X3_tryCut_111
  refine kp_gd (fun _ => kp_bn (k_side hc) (fun r10 h10 => kp_nm (fun x11 h11 => kp_bn k_held (fun r12 h12 => kp_nm (fun x13 h13 => kp_nm (fun x14 h14 => ?_))))))
  have e12 : r12 = ns := by rw [h12, h11, h10, hns]
  have e13 : x13 = τ 55 1 - nu := by rw [h13, e8, l2]
  have e14 : x14 = τ 55 2 - ns := by rw [h14, e12, l3]
  unfold F_X3_weigh
  rw [e13, e14, e8, e12]
  refine kp_bn (Q := fun q => FW i σ q ∧ ∀ (τ' : SG) (n' : Nat), (∀ k, τ' 55 k = τ 55 k) → τ' 54 14 = 0 → τ' 54 15 = 1000000 → τ' 54 16 = 0 → kp (F_X12_cuts_305 J th n' τ' ρ' J (τ 55 0 - th) nu ns 0) (fun q' => q'.1 = 1 ∧ (q i 6 = q'.2 54 14 ∧ q i 7 = q'.2 54 15 ∧ q i 8 = q'.2 54 16) ∧ (q'.2 55 0 = τ 55 0 - th ∧ q'.2 55 1 = nu ∧ q'.2 55 2 = ns ∧ q'.2 55 3 = τ 55 3 + 1 ∧ q'.2 55 (5 + j) = τ 55 (5 + j) + q'.2 54 14) ∧ FV2 j τ' q'.2)) ?_ (fun σ15 h15 => ?_)
  · refine kp_nm (fun σ2 h2 => ?_)
    intro q hq
    have base : ∀ (τ' : SG), (∀ k, τ' 55 k = τ 55 k) → τ' 54 14 = 0 → τ' 54 15 = 1000000 → τ' 54 16 = 0 → FW i σ2 q ∧ ∀ n' : Nat, kp (F_X12_cuts_305 J th n' τ' ρ' J (τ 55 0 - th) nu ns 0) (fun q' => q'.1 = 1 ∧ (q i 6 = q'.2 54 14 ∧ q i 7 = q'.2 54 15 ∧ q i 8 = q'.2 54 16) ∧ (q'.2 55 0 = τ 55 0 - th ∧ q'.2 55 1 = nu ∧ q'.2 55 2 = ns ∧ q'.2 55 3 = τ' 55 3 + 1 ∧ q'.2 55 (5 + j) = τ' 55 (5 + j) + q'.2 54 14) ∧ FV2 j τ' q'.2) := fun τ' t0 t1 t2 t3 =>
      sim_weigh (ρ := ρ) (ρ' := ρ') (b1 := J) (b2 := th) (at0 := τ 55 0) (up0 := τ 55 1) (side0 := τ 55 2) hJ hj ht ru rs 1024 0 σ2 τ' 0 rfl (by decide) ⟨by rw [h2, sv], t1, t2, t3⟩ (t0 0) (t0 1) (t0 2) q hq
    refine ⟨?_, fun τ' n' t0 t1 t2 t3 => ?_⟩
    · have := (base (s2 (s2 (s2 τ 54 14 0) 54 15 1000000) 54 16 0) (fun k => by rw [sn (by omega), sn (by omega), sn (by omega)]) (by rw [sn (by omega), sn (by omega), sv]) (by rw [sn (by omega), sv]) (by rw [sv])).1
      exact fun r k n => (this r k n).trans (by rw [h2, sn (by omega)])
    · refine kp_mono ((base τ' t0 t1 t2 t3).2 n') (fun q' hq' => ?_)
      rw [t0 3, t0 (5 + j)] at hq'
      exact hq'
  obtain ⟨f15, W⟩ := h15
  refine kp_nm (fun x16 h16 => kp_nm (fun σ18 h18' => kp_nm (fun σ20 h20 => kp_nm (fun σ22 h22 => ?_))))
  have i1 : σ15 i 1 = τ 55 0 := by rw [f15 i 1 (by omega), l1]
  have n22 : ∀ r k, ¬ (r = i ∧ (k = 1 ∨ k = 2 ∨ k = 3)) → σ22 r k = σ15 r k := fun r k n => by rw [h22, sn (by omega), h20, sn (by omega), h18', sn (by omega)]
  have a1 : σ22 i 1 = τ 55 0 - th := by rw [h22, sn (by omega), h20, sn (by omega), h18', sv, h16, i1]
  have a2' : σ22 i 2 = nu := by rw [h22, sn (by omega), h20, sv]
  have a3' : σ22 i 3 = ns := by rw [h22, sv]
  have fc22 : FC i σ σ22 := fun r k n1 n2 => by rw [n22 r k (by omega), f15 r k (by omega)]
  have end22 : σ22 5 1 = σ 5 1 := fc22 5 1 (by omega) (by omega)
  -- the reference up to the question
  have ref : ∀ Q : Int32 × SG → Prop, (kp (if τ 54 18 = 0 then bn (F_X12_size nu τ ρ') fun r63 => nm ((τ 55 0 - th) - r63) fun x64 => bn (F_X12_size ns τ ρ') fun r65 => nm (x64 - r65) fun x66 => bn (F_X12_tellsOf (199 : Int32) (10 : Int32) τ ρ') fun r67 => if r67 ≤ x66 then F_X12_cuts_286 J th τ ρ' J (τ 55 0 - th) nu ns else nm (s2 τ 55 0 w1) fun σ70 => nm (s2 σ70 55 1 w2) fun σ72 => nm (s2 σ72 55 2 w3) fun σ74 => nm (s2 σ74 55 4 w5) fun σ76 => some ((0 : Int32), σ76) else F_X12_cuts_286 J th τ ρ' J (τ 55 0 - th) nu ns) Q) → kp (F_X12_cuts_83 J th τ ρ' J th w1 w2 w3 w5) Q := by
    intro Q hQ
    have mid : ∀ k0 : Int32, k0 = own → kp (F_X12_cuts_145 J th τ ρ' J w1 w2 w3 w5 (τ 55 0 - th) k0) Q := by
      intro k0 hk0
      unfold F_X12_cuts_145
      refine kp_bn (k_slant kk hJ hj ck) (fun r15 g15 => kp_bn (k_half h17) (fun r16 g16 => kp_nm (fun x17 g17 => kp_bn k_within (fun r18 g18 => kp_nm (fun x19 g19 => kp_gd (fun _ => kp_bn (k_half h17) (fun r21 g21 => kp_bn (k_slant kk hJ hj ck) (fun r22 g22 => kp_bn (k_half h17) (fun r23 g23 => kp_nm (fun x24 g24 => kp_bn k_within (fun r25 g25 => ?_)))))))))))
      have n19 : x19.toNatClampNeg = 38 + j := cn (by rw [g19, ti_add (by omega) (by omega), e38, hJ]; omega)
      rw [n19] at g21
      have y18 : r18 = nu := by rw [g18, g17, g15, g16, hk0, ← hs, hnu, l2]
      have y25 : r25 = ns := by rw [g25, g24, g22, g23, g21, ← hp, hns, cs, l3]
      rw [y18, y25]
      exact hQ
    unfold F_X12_cuts_83
    refine kp_nm (fun x8 g8 => kp_nm (fun x9 g9 => kp_gd (fun _ => ?_)))
    have n9 : x9.toNatClampNeg = 20 + j := cn (by rw [g9, ti_add (by omega) (by omega), e20, hJ]; omega)
    rw [n9, ← ck, g8]
    refine kp_ih (fun d => kp_nm (fun x77 g77 => kp_nm (fun x78 g78 => kp_nm (fun x79 g79 => kp_nm (fun x80 g80 => kp_gd (fun _ => kp_nm (fun x82 g82 => mid x82 ?_))))))) (fun d => kp_nm (fun x12 g12 => kp_gd (fun _ => kp_bn (k_half h17) (fun r14 g14 => mid r14 ?_))))
    · have k9 : K c = 9 := (kno_at kk).1.mp d
      have w77 : x77.toInt = 4 * (j : Int) := by rw [g77, Int32.toInt_mul, e4, hJ, bmod_id (by omega) (by omega)]
      have w78 : x78.toInt = 50 + 4 * (j : Int) := by rw [g78, ti_add (by omega) (by omega), e50, w77]
      have w79 : x79.toInt = (σ i 4).toInt % 4 := by rw [show x79 = m4 (τ 55 3) from g79, ← l4]; exact m4_v s0
      have em : x79 = m4 (σ i 4) := by rw [l4]; exact g79
      have n80 : x80.toNatClampNeg = 50 + 4 * j + (m4 (σ i 4)).toNatClampNeg := cn (by
        rw [g80, ti_add (by omega) (by omega), w78, ← em]
        have := cl0 (x := x79) (by omega)
        omega)
      rw [g82, n80, hown, if_pos k9]
    · have k9 : ¬ K c = 9 := fun z => d ((kno_at kk).1.mpr z)
      have n12 : x12.toNatClampNeg = 32 + j := cn (by rw [g12, ti_add (by omega) (by omega), e32, hJ]; omega)
      rw [g14, n12, hown, if_neg k9, cu]
  -- both cut
  have cut : ∀ (q : Int32 × SG), (q = (1, s2 σ22 i 4 (σ22 i 4 + 1))) → kp (F_X12_cuts_286 J th τ ρ' J (τ 55 0 - th) nu ns) (fun q' => FC i σ q.2 ∧ FT j τ q'.2 ∧ ((q.1 = 1 ∧ q'.1 = 1 ∧ (LE i q.2 q'.2 ∧ LQ (M + 1) q'.2 ∧ q'.2 55 3 = τ 55 3 + 1) ∧ (q.2 i 6 = q'.2 54 14 ∧ q.2 i 7 = q'.2 54 15 ∧ q.2 i 8 = q'.2 54 16) ∧ q'.2 55 (5 + j) = τ 55 (5 + j) + q'.2 54 14) ∨ (q.1 = 0 ∧ q'.1 = 0 ∧ (q.2 i 1 = w1 ∧ q.2 i 2 = w2 ∧ q.2 i 3 = w3 ∧ q.2 i 4 = σ i 4 ∧ q.2 i 5 = w5) ∧ (q'.2 55 0 = w1 ∧ q'.2 55 1 = w2 ∧ q'.2 55 2 = w3 ∧ q'.2 55 3 = τ 55 3 ∧ q'.2 55 4 = w5) ∧ q'.2 55 (5 + j) = τ 55 (5 + j)))) := by
    intro q hq
    subst hq
    unfold F_X12_cuts_286
    refine kp_nm (fun τ28 g28 => kp_nm (fun τ30 g30 => kp_nm (fun τ32 g32 => ?_)))
    have o32 : ∀ r k, ¬ (r = 54 ∧ (k = 14 ∨ k = 15 ∨ k = 16)) → τ32 r k = τ r k := fun r k n => by rw [g32, sn (by omega), g30, sn (by omega), g28, sn (by omega)]
    refine kp_mono (W τ32 1024 (fun k => o32 55 k (by omega)) (by rw [g32, sn (by omega), g30, sn (by omega), g28, sv]) (by rw [g32, sn (by omega), g30, sv]) (by rw [g32, sv])) (fun q' hq' => ?_)
    obtain ⟨y1, ⟨y2, y3, y4⟩, ⟨y5, y6, y7, y8, y9⟩, y10⟩ := hq'
    have g1 : ∀ k, k ≠ 4 → s2 σ22 i 4 (σ22 i 4 + 1) i k = σ22 i k := fun k n => sn (by omega)
    have i4 : σ22 i 4 = τ 55 3 := by rw [n22 i 4 (by omega), f15 i 4 (by omega), l4]
    have i5 : σ22 i 5 = τ 55 4 := by rw [n22 i 5 (by omega), f15 i 5 (by omega), l5]
    refine ⟨fun r k n1 n2 => ?_, fun r k n1 n2 n3 n4 => ?_, Or.inl ⟨rfl, y1, ⟨⟨?_, ?_, ?_, ?_, ?_⟩, ⟨?_, ?_, ?_⟩, y8⟩, ⟨?_, ?_, ?_⟩, y9⟩⟩
    · show s2 σ22 i 4 (σ22 i 4 + 1) r k = σ r k
      rw [sn (by omega)]; exact fc22 r k n1 n2
    · rw [y10 r k (by omega) (by omega), o32 r k (by omega)]
    · rw [y5]; show s2 σ22 i 4 (σ22 i 4 + 1) i 1 = _; rw [g1 1 (by omega), a1]
    · rw [y6]; show s2 σ22 i 4 (σ22 i 4 + 1) i 2 = _; rw [g1 2 (by omega), a2']
    · rw [y7]; show s2 σ22 i 4 (σ22 i 4 + 1) i 3 = _; rw [g1 3 (by omega), a3']
    · rw [y8]; show s2 σ22 i 4 (σ22 i 4 + 1) i 4 = _; rw [sv, i4]
    · show s2 σ22 i 4 (σ22 i 4 + 1) i 5 = _; rw [g1 5 (by omega), i5, y10 55 4 (by omega) (by omega), o32 55 4 (by omega)]
    · rw [y6]; exact rnu
    · rw [y7]; exact rns
    · rw [y8]
      have u1 := q3.1
      have u2 := q3.2
      have e : (τ 55 3 + 1).toInt = (τ 55 3).toInt + 1 := by rw [ti_add (by rw [ti_1]; omega) (by rw [ti_1]; omega), ti_1]
      exact ⟨by omega, by omega⟩
    · show s2 σ22 i 4 (σ22 i 4 + 1) i 6 = _; rw [g1 6 (by omega), n22 i 6 (by omega), y2]
    · show s2 σ22 i 4 (σ22 i 4 + 1) i 7 = _; rw [g1 7 (by omega), n22 i 7 (by omega), y3]
    · show s2 σ22 i 4 (σ22 i 4 + 1) i 8 = _; rw [g1 8 (by omega), n22 i 8 (by omega), y4]
  have c180 : ∀ q, F_X3_tryCut_180 N K len i c a2 a4 a5 σ22 ρ = some q → q = (1, s2 σ22 i 4 (σ22 i 4 + 1)) := by
    intro q hq
    have : kp (F_X3_tryCut_180 N K len i c a2 a4 a5 σ22 ρ) (fun q => q = (1, s2 σ22 i 4 (σ22 i 4 + 1))) := by
      unfold F_X3_tryCut_180
      exact kp_nm (fun x24 h24 => kp_nm (fun σ26 h26 => kp_some (by rw [h26, h24])))
    exact this q hq
  refine kp_ih (fun d5 => kp_bn k_leastC (fun r27 h27 => ?_)) (fun d5 => fun q hq => ref _ (kp_f (fun z => d5 (h18.mp z)) (cut q (c180 q hq))))
  rw [a1, a2', a3', ] at h27
  have asks : ∀ Q : Int32 × SG → Prop, kp (if σ 5 1 ≤ (τ 55 0 - th) - (babs nu + babs ns) then F_X12_cuts_286 J th τ ρ' J (τ 55 0 - th) nu ns else nm (s2 τ 55 0 w1) fun σ70 => nm (s2 σ70 55 1 w2) fun σ72 => nm (s2 σ72 55 2 w3) fun σ74 => nm (s2 σ74 55 4 w5) fun σ76 => some ((0 : Int32), σ76)) Q → kp (F_X12_cuts_83 J th τ ρ' J th w1 w2 w3 w5) Q := by
    intro Q hQ
    refine ref Q (kp_t (h18.mpr d5) (kp_bn k_size (fun r63 g63 => kp_nm (fun x64 g64 => kp_bn k_size (fun r65 g65 => kp_nm (fun x66 g66 => kp_bn (k_tells hH (Or.inr ⟨rfl, rfl, rfl⟩)) (fun r67 g67 => ?_)))))))
    have e66 : x66 = (τ 55 0 - th) - (babs nu + babs ns) := by
      rw [g66, g65, g64, g63]
      generalize babs nu = a
      generalize babs ns = b
      generalize τ 55 0 - th = x
      grind
    rw [g67, e66]
    exact hQ
  rw [end22]
  refine kp_ih (fun dl => kp_nm (fun σ30 h30 => kp_nm (fun σ32 h32 => kp_nm (fun σ34 h34 => kp_nm (fun σ36 h36 => kp_some (asks _ (kp_f (fun z => ?_) (kp_nm (fun τ70 g70 => kp_nm (fun τ72 g72 => kp_nm (fun τ74 g74 => kp_nm (fun τ76 g76 => kp_some ?_)))))))))))) (fun dl => fun q hq => asks _ (kp_t ?_ (cut q (c180 q hq))))
  · rw [h27] at dl
    have := lt_i dl
    have := le_i z
    omega
  · have o36 : ∀ r k, ¬ (r = i ∧ (k = 1 ∨ k = 2 ∨ k = 3 ∨ k = 5)) → σ36 r k = σ22 r k := fun r k n => by rw [h36, sn (by omega), h34, sn (by omega), h32, sn (by omega), h30, sn (by omega)]
    have o76 : ∀ r k, ¬ (r = 55 ∧ (k = 0 ∨ k = 1 ∨ k = 2 ∨ k = 4)) → τ76 r k = τ r k := fun r k n => by rw [g76, sn (by omega), g74, sn (by omega), g72, sn (by omega), g70, sn (by omega)]
    refine ⟨fun r k n1 n2 => ?_, fun r k n1 n2 n3 n4 => ?_, Or.inr ⟨rfl, rfl, ⟨?_, ?_, ?_, ?_, ?_⟩, ⟨?_, ?_, ?_, ?_, ?_⟩, ?_⟩⟩
    · show σ36 r k = σ r k
      rw [o36 r k (by omega)]; exact fc22 r k n1 n2
    · show τ76 r k = τ r k
      exact o76 r k (by omega)
    · show σ36 i 1 = w1
      rw [h36, sn (by omega), h34, sn (by omega), h32, sn (by omega), h30, sv]
    · show σ36 i 2 = w2
      rw [h36, sn (by omega), h34, sn (by omega), h32, sv]
    · show σ36 i 3 = w3
      rw [h36, sn (by omega), h34, sv]
    · show σ36 i 4 = σ i 4
      rw [o36 i 4 (by omega), n22 i 4 (by omega), f15 i 4 (by omega)]
    · show σ36 i 5 = w5
      rw [h36, sv]
    · show τ76 55 0 = w1
      rw [g76, sn (by omega), g74, sn (by omega), g72, sn (by omega), g70, sv]
    · show τ76 55 1 = w2
      rw [g76, sn (by omega), g74, sn (by omega), g72, sv]
    · show τ76 55 2 = w3
      rw [g76, sn (by omega), g74, sv]
    · show τ76 55 3 = τ 55 3
      exact o76 55 3 (by omega)
    · show τ76 55 4 = w5
      rw [g76, sv]
    · show τ76 55 (5 + j) = τ 55 (5 + j)
      exact o76 55 (5 + j) (by omega)
  · rw [h27] at dl
    exact nlt dl
