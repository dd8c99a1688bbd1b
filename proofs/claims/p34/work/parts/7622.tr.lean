/-! PART 7622.tr: by hand: the trace of the bodies: class and reference -/
def TRC (m : Int) (σ τ : SG) : Prop := σ 27 1 = τ 54 30 ∧ rg (τ 54 30) 0 m ∧ ∀ k : Nat, k < 20 → (k : Int) < (τ 54 30).toInt → σ 28 k = τ 64 k
/-- a cutter z whose bodies run -/
def ACX (m : Int) (K : Nat → Nat) (z : Nat) (σ τ : SG) : Prop := TRC m σ τ ∧ kno (K z) = τ 54 31 ∧ σ z 0 = τ 54 32 ∧ σ z 1 = τ 54 33
theorem sim_began {m : Int} {K : Nat → Nat} {z : Nat} {b : Int32} {σ τ : SG} {ρ ρ' : RG} (hz : 65 ≤ z) (hm : m ≤ 1000) (h : ACX m K z σ τ) : kp (F_X10_began b σ ρ) (fun q => kp (F_X12_ranBody b τ ρ') (fun q' => ACX (m + 1) K z q q')) := by
  obtain ⟨⟨t1, ⟨t2, t2'⟩, t3⟩, a1, a2, a3⟩ := h
  have e20 : (20 : Int32).toInt = 20 := rfl
  -- one more has run
  have step : ∀ (σ1 τ1 : SG), (∀ r, r ≠ 28 → σ1 r = σ r) → (∀ r, r ≠ 64 → τ1 r = τ r) → (∀ k : Nat, k < 20 → (k : Int) < (τ 54 30).toInt + 1 → σ1 28 k = τ1 64 k) → ∀ (x y : Int32), x = σ1 27 1 + 1 → y = τ1 54 30 + 1 → ACX (m + 1) K z (s2 σ1 27 1 x) (s2 τ1 54 30 y) := by
    intro σ1 τ1 hs ht hk x y hx hy
    rw [hs 27 (by decide)] at hx
    rw [ht 54 (by decide)] at hy
    have ey : y.toInt = (τ 54 30).toInt + 1 := by rw [hy, ti_add (by rw [ti_1]; omega) (by rw [ti_1]; omega), ti_1]
    refine ⟨⟨by rw [sv, sv, hx, hy, t1], by rw [sv]; exact ⟨by omega, by omega⟩, fun k k20 kl => ?_⟩, ?_, ?_, ?_⟩
    · rw [sv] at kl
      rw [sn (by omega), sn (by omega)]
      exact hk k k20 (by omega)
    · rw [sn (by omega), ht 54 (by decide)]; exact a1
    · rw [sn (by omega), sn (by omega), hs z (by omega), ht 54 (by decide)]; exact a2
    · rw [sn (by omega), sn (by omega), hs z (by omega), ht 54 (by decide)]; exact a3
  unfold F_X10_began
  refine kp_ih (fun c => ?_) (fun _ => kp_ih (fun c => ?_) (fun c => kp_gd (fun _ => kp_nm (fun σ8 h8 => ?_))))
  · have := lt_i c
    rw [t1, ti_0] at this
    omega
  · unfold F_X10_began_29
    refine kp_nm (fun x2 h2 => kp_nm (fun σ4 h4 => kp_some ?_))
    unfold F_X12_ranBody
    have c' := c
    rw [t1] at c'
    refine kp_t c' ?_
    unfold F_X12_ranBody_19
    refine kp_nm (fun y2 g2 => kp_nm (fun τ4 g4 => kp_some ?_))
    rw [h4, g4]
    have := le_i c'
    exact step σ τ (fun _ _ => rfl) (fun _ _ => rfl) (fun k k20 kl => t3 k k20 (by omega)) x2 y2 h2 g2
  · have lt := lt_i (nle c)
    rw [t1, e20] at lt
    unfold F_X10_began_29
    refine kp_nm (fun x2 h2 => kp_nm (fun σ4 h4 => kp_some ?_))
    unfold F_X12_ranBody
    refine kp_f (fun w => by have := le_i w; omega) (kp_gd (fun _ => kp_nm (fun τ7 g7 => ?_)))
    unfold F_X12_ranBody_19
    refine kp_nm (fun y2 g2 => kp_nm (fun τ4 g4 => kp_some ?_))
    rw [h4, g4]
    rw [t1] at h8
    refine step σ8 τ7 (fun r hr => by rw [h8, s2_ne r hr]) (fun r hr => by rw [g7, s2_ne r hr]) (fun k k20 kl => ?_) x2 y2 h2 g2
    have c0 := cl0 t2
    by_cases e : k = (τ 54 30).toNatClampNeg
    · rw [e, h8, sv, g7, sv]
    · rw [h8, sn (by omega), g7, sn (by omega)]
      exact t3 k k20 (by omega)
def isU (kd a2 : Int32) : Int32 := if a2 = 0 then 1 else if a2 = kd then 1 else if a2 ≤ 0 then 0 else if 4 ≤ a2 then 0 else if kd = a2 + 3 then 1 else 0
theorem k_under {a1 a2 : Int32} {σ : SG} {ρ : RG} : kp (F_X12_isUnder a1 a2 σ ρ) (fun q => q = isU a1 a2) := by
  unfold F_X12_isUnder isU
  refine kp_ih (fun c => kp_some (by rw [if_pos c])) (fun c => kp_ih (fun d => kp_some (by rw [if_neg c, if_pos d])) (fun d => kp_ih (fun e => kp_some (by rw [if_neg c, if_neg d, if_pos e])) (fun e => kp_ih (fun f => kp_some (by rw [if_neg c, if_neg d, if_neg e, if_pos f])) (fun f => kp_nm (fun x hx => kp_ih (fun g => kp_some ?_) (fun g => kp_some ?_))))))
  · rw [hx] at g
    rw [if_neg c, if_neg d, if_neg e, if_neg f, if_pos g]
  · rw [hx] at g
    rw [if_neg c, if_neg d, if_neg e, if_neg f, if_neg g]
/-- both answer alike, with d bodies more -/
def AO (m : Int) (K : Nat → Nat) (z : Nat) (q q' : Int32 × SG) : Prop := q.1 = q'.1 ∧ ACX m K z q.2 q'.2
theorem sim_pcuts {m : Int} {N : Nat} {K len : Nat → Nat} {z : Nat} {x : Int32} {σ τ : SG} {ρ ρ' : RG} (hz : 65 ≤ z) (hm : m ≤ 900) (h : ACX m K z σ τ) : kp (F_X1_cuts N K len z x σ ρ) (fun q => kp (F_X12_plainCuts x τ ρ') (fun q' => AO (m + 1) K z q q')) := by
  unfold F_X1_cuts F_X12_plainCuts
  refine kp_bn (sim_began (b := 1) (ρ' := ρ') hz (by omega) h) (fun σ1 h1 => kp_nm (fun x2 e2 => kp_some (kp_bn h1 (fun τ1 g1 => kp_nm (fun y2 f2 => kp_some ⟨?_, g1⟩)))))
  show x2 = y2
  rw [e2, f2, g1.2.2.1]
theorem sim_X7cuts {m : Int} {N : Nat} {K len : Nat → Nat} {z : Nat} {x : Int32} {σ τ : SG} {ρ ρ' : RG} (hz : 65 ≤ z) (hm : m ≤ 800) (h : ACX m K z σ τ) (hu : K z = 5 ∨ K z = 7) : kp (F_X7_cuts N K len z x σ ρ) (fun q => kp (F_X12_cutsActs x τ ρ') (fun q' => AO (m + 2) K z q q')) := by
  have hu' : isU (τ 54 31) 1 = 1 := by
    rw [← h.2.1]
    rcases hu with e | e <;> rw [e] <;> decide
  unfold F_X7_cuts F_X12_cutsActs
  refine kp_bn (sim_began (b := 11) (ρ' := ρ') hz (by omega) h) (fun σ1 h1 => kp_nm (fun x2 e2 => ?_))
  intro q hq
  refine kp_bn k_under (fun r1 g1 => kp_f (by rw [g1, hu']; decide) (kp_bn h1 (fun τ1 k1 => kp_nm (fun y2 f2 => ?_))))
  rw [f2, ← e2]
  refine kp_bn2 (Q := fun q' => AO (m + 1 + 1) K z q q') ?_ (fun r10 σ10 g10 => kp_some (by rw [show m + 2 = m + 1 + 1 by omega]; exact g10))
  have : kp (bn2 (F_X1_cuts N K len z x2 σ1 ρ) fun r3 σ3 => some (r3, σ3)) (fun q => kp (F_X12_plainCuts x2 τ1 ρ') (fun q' => AO (m + 1 + 1) K z q q')) :=
    kp_bn2 (sim_pcuts (ρ' := ρ') hz (by omega) k1) (fun r3 σ3 h3 => kp_some h3)
  exact this q hq
theorem sim_cutsA {m : Int} {N : Nat} {K len : Nat → Nat} {z : Nat} {x : Int32} {σ τ : SG} {ρ ρ' : RG} (hz : 65 ≤ z) (hm : m ≤ 800) (hc : isC N K z = true) (h : ACX m K z σ τ) : kp (F_v_cuts N K len z x σ ρ) (fun q => kp (F_X12_cutsActs x τ ρ') (fun q' => AO (m + 2) K z q q')) := by
  have lo : ∀ {q q'}, AO (m + 1) K z q q' → AO (m + 2) K z q q' := fun a => ⟨a.1, ⟨a.2.1.1, rg_w a.2.1.2.1 (Int.le_refl _) (by omega), a.2.1.2.2⟩, a.2.2⟩
  have plain : isU (τ 54 31) 1 = 0 → ¬ τ 54 31 = 5 → kp (F_X1_cuts N K len z x σ ρ) (fun q => kp (F_X12_cutsActs x τ ρ') (fun q' => AO (m + 2) K z q q')) := fun u n => by
    refine kp_mono (sim_pcuts (ρ' := ρ') hz (by omega) h) (fun q hq => ?_)
    unfold F_X12_cutsActs
    exact kp_bn k_under (fun r1 g1 => kp_t (g1.trans u) (kp_f n (kp_bn2 hq (fun r4 σ4 g4 => kp_some (lo g4)))))
  have e31 := h.2.1
  unfold F_v_cuts
  rcases isC_7 hc with e | e | e | e | e | e | e <;> rw [e] <;> rw [e] at e31
  · exact plain (by rw [← e31]; decide) (by rw [← e31]; decide)
  · exact plain (by rw [← e31]; decide) (by rw [← e31]; decide)
  · show kp (F_X4_cuts N K len z x σ ρ) _
    unfold F_X4_cuts F_X12_cutsActs
    refine kp_bn (sim_began (b := 51) (ρ' := ρ') hz (by omega) h) (fun σ1 h1 => ?_)
    intro q hq
    refine kp_bn k_under (fun r1 g1 => kp_t (g1.trans (by rw [← e31]; decide)) (kp_t e31.symm (kp_bn h1 (fun τ1 k1 => ?_))))
    have : kp (bn2 (F_X1_cuts N K len z x σ1 ρ) fun r2 σ2 => nm (r2 ^^^ (σ2 z 0)) fun x3 => some (x3, σ2)) (fun q => kp (bn2 (F_X12_plainCuts x τ1 ρ') fun r6 σ6 => nm (r6 ^^^ (σ6 54 32)) fun x7 => some (x7, σ6)) (fun q' => AO (m + 2) K z q q')) := by
      refine kp_bn2 (sim_pcuts (ρ' := ρ') hz (by omega) k1) (fun r2 σ2 h2 => kp_nm (fun x3 e3 => kp_some (kp_bn2 h2 (fun r6 τ6 g6 => kp_nm (fun x7 e7 => kp_some ⟨?_, ?_⟩)))))
      · show x3 = x7
        have a : r2 = r6 := g6.1
        have b : σ2 z 0 = τ6 54 32 := g6.2.2.2.1
        rw [e3, e7, a, b]
      · rw [show m + 2 = m + 1 + 1 by omega]; exact g6.2
    exact this q hq
  · exact sim_X7cuts hz hm h (Or.inl e)
  · exact plain (by rw [← e31]; decide) (by rw [← e31]; decide)
  · exact sim_X7cuts hz hm h (Or.inr e)
  · exact plain (by rw [← e31]; decide) (by rw [← e31]; decide)
theorem sim_peats {m : Int} {N : Nat} {K len : Nat → Nat} {z : Nat} {x : Int32} {σ τ : SG} {ρ ρ' : RG} (hz : 65 ≤ z) (hm : m ≤ 700) (hc : isC N K z = true) (h : ACX m K z σ τ) : kp (F_X1_eats N K len z x σ ρ) (fun q => kp (F_X12_plainEats x τ ρ') (fun q' => AO (m + 3) K z q q')) := by
  unfold F_X1_eats F_X12_plainEats
  refine kp_bn (sim_began (b := 2) (ρ' := ρ') hz (by omega) h) (fun σ1 h1 => ?_)
  intro q hq
  refine kp_bn h1 (fun τ1 k1 => ?_)
  have : kp (bn2 (F_v_cuts N K len z x σ1 ρ) fun r2 σ2 => nm (r2 - (σ2 z 1)) fun x3 => some (x3, σ2)) (fun q => kp (bn2 (F_X12_cutsActs x τ1 ρ') fun r2 σ2 => nm (r2 - (σ2 54 33)) fun x3 => some (x3, σ2)) (fun q' => AO (m + 3) K z q q')) := by
    refine kp_bn2 (sim_cutsA (ρ' := ρ') hz (by omega) hc k1) (fun r2 σ2 h2 => kp_nm (fun x3 e3 => kp_some (kp_bn2 h2 (fun r6 τ6 g6 => kp_nm (fun x7 e7 => kp_some ⟨?_, ?_⟩)))))
    · show x3 = x7
      have a : r2 = r6 := g6.1
      have b : σ2 z 1 = τ6 54 33 := g6.2.2.2.2
      rw [e3, e7, a, b]
    · rw [show m + 3 = m + 1 + 2 by omega]; exact g6.2
  exact this q hq
theorem sim_eatsA {m : Int} {N : Nat} {K len : Nat → Nat} {z : Nat} {x : Int32} {σ τ : SG} {ρ ρ' : RG} (hz : 65 ≤ z) (hm : m ≤ 600) (hc : isC N K z = true) (h : ACX m K z σ τ) : kp (F_v_eats N K len z x σ ρ) (fun q => kp (F_X12_eatsActs x τ ρ') (fun q' => AO (m + 4) K z q q')) := by
  have lo : ∀ {q q'}, AO (m + 3) K z q q' → AO (m + 4) K z q q' := fun a => ⟨a.1, ⟨a.2.1.1, rg_w a.2.1.2.1 (Int.le_refl _) (by omega), a.2.1.2.2⟩, a.2.2⟩
  have plain : isU (τ 54 31) 2 = 0 → ¬ τ 54 31 = 6 → kp (F_X1_eats N K len z x σ ρ) (fun q => kp (F_X12_eatsActs x τ ρ') (fun q' => AO (m + 4) K z q q')) := fun u n => by
    refine kp_mono (sim_peats (ρ' := ρ') hz (by omega) hc h) (fun q hq => ?_)
    unfold F_X12_eatsActs
    exact kp_bn k_under (fun r1 g1 => kp_t (g1.trans u) (kp_f n (kp_bn2 hq (fun r4 σ4 g4 => kp_some (lo g4)))))
  have slant : isU (τ 54 31) 2 = 1 → kp (F_X6_eats N K len z x σ ρ) (fun q => kp (F_X12_eatsActs x τ ρ') (fun q' => AO (m + 4) K z q q')) := fun u => by
    unfold F_X6_eats F_X12_eatsActs
    refine kp_bn (sim_began (b := 21) (ρ' := ρ') hz (by omega) h) (fun σ1 h1 => ?_)
    intro q hq
    refine kp_bn k_under (fun r1 g1 => kp_f (by rw [g1, u]; decide) (kp_bn h1 (fun τ1 k1 => ?_)))
    have : kp (bn2 (F_X1_eats N K len z x σ1 ρ) fun r2 σ2 => nm (-r2) fun x3 => some (x3, σ2)) (fun q => kp (bn2 (F_X12_plainEats x τ1 ρ') fun r9 σ9 => nm (-r9) fun x10 => some (x10, σ9)) (fun q' => AO (m + 4) K z q q')) := by
      refine kp_bn2 (sim_peats (ρ' := ρ') hz (by omega) hc k1) (fun r2 σ2 h2 => kp_nm (fun x3 e3 => kp_some (kp_bn2 h2 (fun r6 τ6 g6 => kp_nm (fun x7 e7 => kp_some ⟨?_, ?_⟩)))))
      · show x3 = x7
        have a : r2 = r6 := g6.1
        rw [e3, e7, a]
      · rw [show m + 4 = m + 1 + 3 by omega]; exact g6.2
    exact this q hq
  have e31 := h.2.1
  unfold F_v_eats
  rcases isC_7 hc with e | e | e | e | e | e | e <;> rw [e] <;> rw [e] at e31
  · exact plain (by rw [← e31]; decide) (by rw [← e31]; decide)
  · exact plain (by rw [← e31]; decide) (by rw [← e31]; decide)
  · exact slant (by rw [← e31]; decide)
  · exact plain (by rw [← e31]; decide) (by rw [← e31]; decide)
  · exact slant (by rw [← e31]; decide)
  · exact plain (by rw [← e31]; decide) (by rw [← e31]; decide)
  · show kp (F_X9_eats N K len z x σ ρ) _
    unfold F_X9_eats F_X12_eatsActs
    refine kp_bn (sim_began (b := 61) (ρ' := ρ') hz (by omega) h) (fun σ1 h1 => ?_)
    intro q hq
    refine kp_bn k_under (fun r1 g1 => kp_t (g1.trans (by rw [← e31]; decide)) (kp_t e31.symm (kp_bn h1 (fun τ1 k1 => ?_))))
    have : kp (bn2 (F_X1_eats N K len z x σ1 ρ) fun r2 σ2 => nm (r2 + (σ2 z 1)) fun x3 => some (x3, σ2)) (fun q => kp (bn2 (F_X12_plainEats x τ1 ρ') fun r6 σ6 => nm (r6 + (σ6 54 33)) fun x7 => some (x7, σ6)) (fun q' => AO (m + 4) K z q q')) := by
      refine kp_bn2 (sim_peats (ρ' := ρ') hz (by omega) hc k1) (fun r2 σ2 h2 => kp_nm (fun x3 e3 => kp_some (kp_bn2 h2 (fun r6 τ6 g6 => kp_nm (fun x7 e7 => kp_some ⟨?_, ?_⟩)))))
      · show x3 = x7
        have a : r2 = r6 := g6.1
        have b : σ2 z 1 = τ6 54 33 := g6.2.2.2.2
        rw [e3, e7, a, b]
      · rw [show m + 4 = m + 1 + 3 by omega]; exact g6.2
    exact this q hq
theorem sim_ptells {m : Int} {N : Nat} {K len : Nat → Nat} {z : Nat} {x : Int32} {σ τ : SG} {ρ ρ' : RG} (hz : 65 ≤ z) (hm : m ≤ 500) (hc : isC N K z = true) (h : ACX m K z σ τ) : kp (F_X1_tells N K len z x σ ρ) (fun q => kp (F_X12_plainTells x τ ρ') (fun q' => AO (m + 5) K z q q')) := by
  unfold F_X1_tells F_X12_plainTells
  refine kp_bn (sim_began (b := 3) (ρ' := ρ') hz (by omega) h) (fun σ1 h1 => ?_)
  intro q hq
  refine kp_bn h1 (fun τ1 k1 => ?_)
  have : kp (bn2 (F_v_eats N K len z x σ1 ρ) fun r2 σ2 => nm (r2 * (2 : Int32)) fun x3 => some (x3, σ2)) (fun q => kp (bn2 (F_X12_eatsActs x τ1 ρ') fun r2 σ2 => nm (r2 * (2 : Int32)) fun x3 => some (x3, σ2)) (fun q' => AO (m + 5) K z q q')) := by
    refine kp_bn2 (sim_eatsA (ρ' := ρ') hz (by omega) hc k1) (fun r2 σ2 h2 => kp_nm (fun x3 e3 => kp_some (kp_bn2 h2 (fun r6 τ6 g6 => kp_nm (fun x7 e7 => kp_some ⟨?_, ?_⟩)))))
    · show x3 = x7
      have a : r2 = r6 := g6.1
      rw [e3, e7, a]
    · rw [show m + 5 = m + 1 + 4 by omega]; exact g6.2
  exact this q hq
theorem sim_tellsA {m : Int} {N : Nat} {K len : Nat → Nat} {z : Nat} {x : Int32} {σ τ : SG} {ρ ρ' : RG} (hz : 65 ≤ z) (hm : m ≤ 400) (hc : isC N K z = true) (h : ACX m K z σ τ) : kp (F_v_tells N K len z x σ ρ) (fun q => kp (F_X12_tellsActs x τ ρ') (fun q' => AO (m + 8) K z q q')) := by
  have lo : ∀ {q q'}, AO (m + 5) K z q q' → AO (m + 8) K z q q' := fun a => ⟨a.1, ⟨a.2.1.1, rg_w a.2.1.2.1 (Int.le_refl _) (by omega), a.2.1.2.2⟩, a.2.2⟩
  have plain : isU (τ 54 31) 3 = 0 → ¬ τ 54 31 = 4 → kp (F_X1_tells N K len z x σ ρ) (fun q => kp (F_X12_tellsActs x τ ρ') (fun q' => AO (m + 8) K z q q')) := fun u n => by
    refine kp_mono (sim_ptells (ρ' := ρ') hz (by omega) hc h) (fun q hq => ?_)
    unfold F_X12_tellsActs
    exact kp_bn k_under (fun r1 g1 => kp_t (g1.trans u) (kp_f n (kp_bn2 hq (fun r4 σ4 g4 => kp_some (lo g4)))))
  have follow : isU (τ 54 31) 3 = 1 → kp (F_X2_tells N K len z x σ ρ) (fun q => kp (F_X12_tellsActs x τ ρ') (fun q' => AO (m + 8) K z q q')) := fun u => by
    unfold F_X2_tells F_X12_tellsActs
    refine kp_bn (sim_began (b := 31) (ρ' := ρ') hz (by omega) h) (fun σ1 h1 => ?_)
    intro q hq
    refine kp_bn k_under (fun r1 g1 => kp_f (by rw [g1, u]; decide) (kp_bn h1 (fun τ1 k1 => ?_)))
    have : kp (bn2 (F_X1_tells N K len z x σ1 ρ) fun r2 σ2 => nm (r2 ^^^ (7 : Int32)) fun x3 => some (x3, σ2)) (fun q => kp (bn2 (F_X12_plainTells x τ1 ρ') fun r11 σ11 => nm (r11 ^^^ (7 : Int32)) fun x12 => some (x12, σ11)) (fun q' => AO (m + 8) K z q q')) := by
      refine kp_bn2 (sim_ptells (ρ' := ρ') hz (by omega) hc k1) (fun r2 σ2 h2 => kp_nm (fun x3 e3 => kp_some (kp_bn2 h2 (fun r6 τ6 g6 => kp_nm (fun x7 e7 => kp_some ⟨?_, ?_⟩)))))
      · show x3 = x7
        have a : r2 = r6 := g6.1
        rw [e3, e7, a]
      · obtain ⟨⟨b1, b2, b3⟩, b4⟩ := g6.2
        exact ⟨⟨b1, rg_w b2 (Int.le_refl _) (by omega), b3⟩, b4⟩
    exact this q hq
  have e31 := h.2.1
  unfold F_v_tells
  rcases isC_7 hc with e | e | e | e | e | e | e
  · rw [e]; rw [e] at e31; exact plain (by rw [← e31]; decide) (by rw [← e31]; decide)
  · rw [e]; rw [e] at e31; exact follow (by rw [← e31]; decide)
  · rw [e]; rw [e] at e31; exact plain (by rw [← e31]; decide) (by rw [← e31]; decide)
  · rw [if_neg (by omega), if_neg (by omega), if_neg (by omega), if_pos e]
    rw [e] at e31
    unfold F_X5_tells F_X12_tellsActs
    refine kp_bn (sim_began (b := 41) (ρ' := ρ') hz (by omega) h) (fun σ1 h1 => kp_nm (fun x2 e2 => ?_))
    intro q hq
    refine kp_bn k_under (fun r1 g1 => kp_t (g1.trans (by rw [← e31]; decide)) (kp_t e31.symm (kp_bn h1 (fun τ1 k1 => kp_nm (fun x6 e6 => ?_)))))
    rw [e6, ← e2]
    have : kp (bn2 (F_X1_tells N K len z x2 σ1 ρ) fun r3 σ3 => gd (K z == 5) <| bn2 (F_X7_cuts N K len z (2 : Int32) σ3 ρ) fun r5 σ5 => nm (r3 + r5) fun x6 => some (x6, σ5)) (fun q => kp (bn2 (F_X12_plainTells x2 τ1 ρ') fun r7 σ7 => bn2 (F_X12_cutsActs (2 : Int32) σ7 ρ') fun r8 σ8 => nm (r7 + r8) fun x9 => some (x9, σ8)) (fun q' => AO (m + 8) K z q q')) := by
      refine kp_bn2 (sim_ptells (ρ' := ρ') hz (by omega) hc k1) (fun r3 σ3 h3 => kp_gd (fun _ => ?_))
      intro q2 hq2
      refine kp_bn2 h3 (fun r7 τ7 g7 => ?_)
      have a : r3 = r7 := g7.1
      have k7 : ACX (m + 1 + 5) K z σ3 τ7 := g7.2
      have T : kp (bn2 (F_X7_cuts N K len z (2 : Int32) σ3 ρ) fun r5 σ5 => nm (r3 + r5) fun x6 => some (x6, σ5)) (fun q => kp (bn2 (F_X12_cutsActs (2 : Int32) τ7 ρ') fun r8 σ8 => nm (r7 + r8) fun x9 => some (x9, σ8)) (fun q' => AO (m + 8) K z q q')) := by
        refine kp_bn2 (sim_X7cuts (ρ' := ρ') hz (by omega) k7 (Or.inl e)) (fun r5 σ5 h5 => kp_nm (fun y6 f6 => kp_some (kp_bn2 h5 (fun r8 τ8 g8 => kp_nm (fun y9 f9 => kp_some ⟨?_, ?_⟩)))))
        · show y6 = y9
          have b : r5 = r8 := g8.1
          rw [f6, f9, a, b]
        · rw [show m + 8 = m + 1 + 5 + 2 by omega]; exact g8.2
      exact T q2 hq2
    exact this q hq
  · rw [e]; rw [e] at e31; exact plain (by rw [← e31]; decide) (by rw [← e31]; decide)
  · rw [e]; rw [e] at e31; exact plain (by rw [← e31]; decide) (by rw [← e31]; decide)
  · rw [e]; rw [e] at e31; exact follow (by rw [← e31]; decide)
