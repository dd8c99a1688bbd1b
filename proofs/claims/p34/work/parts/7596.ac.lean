/-! PART 7596.ac: printed by wip/gen/ac36.py: act's answers -/
def AC (σ σ' : SG) : Prop := ∀ r, r ≠ 27 → r ≠ 28 → σ' r = σ r
theorem ac_refl (σ : SG) : AC σ σ := fun _ _ _ => rfl
theorem ac_trans {σ σ1 σ2 : SG} (h : AC σ σ1) (h' : AC σ1 σ2) : AC σ σ2 := fun r a b => (h' r a b).trans (h r a b)
theorem ac_29 {b : Int32} {σ : SG} {ρ : RG} : kp (F_X10_began_29 b σ ρ) (fun q => AC σ q) := by
  unfold F_X10_began_29
  exact kp_nm (fun x _ => kp_nm (fun σ4 h => kp_some (fun r a _ => s2_lt h a)))
theorem ac_began {b : Int32} {σ : SG} {ρ : RG} : kp (F_X10_began b σ ρ) (fun q => AC σ q) := by
  unfold F_X10_began
  exact kp_if ac_29 (kp_if ac_29 (kp_gd (fun _ => kp_nm (fun σ8 h => kp_mono ac_29 (fun q z => ac_trans (fun r _ b => s2_lt h b) z)))))
def cutR (κ a u0 : Int32) : Int32 := if κ = 1 ∨ κ = 4 then a * 3 + u0 else if κ = 5 then (a + u0) ^^^ u0 else a + u0
def eatR (κ a u0 u1 : Int32) : Int32 := if κ = 2 ∨ κ = 5 then -(cutR κ a u0 - u1) else if κ = 6 then cutR κ a u0 - u1 + u1 else cutR κ a u0 - u1
def telR (κ a u0 u1 : Int32) : Int32 := if κ = 3 ∨ κ = 6 then (eatR κ a u0 u1 * 2) ^^^ 7 else if κ = 4 then eatR κ (a - 1) u0 u1 * 2 + (2 * 3 + u0) else eatR κ a u0 u1 * 2
theorem cutR_0 {a u0 : Int32} : cutR 0 a u0 = a + u0 := by unfold cutR; rw [if_neg (by decide), if_neg (by decide)]
theorem eatR_0 {a u0 u1 : Int32} : eatR 0 a u0 u1 = cutR 0 a u0 - u1 := by unfold eatR; rw [if_neg (by decide), if_neg (by decide)]
theorem telR_0 {a u0 u1 : Int32} : telR 0 a u0 u1 = eatR 0 a u0 u1 * 2 := by unfold telR; rw [if_neg (by decide), if_neg (by decide)]
theorem cutR_1 {a u0 : Int32} : cutR 1 a u0 = a * 3 + u0 := by unfold cutR; rw [if_pos (by decide)]
theorem eatR_1 {a u0 u1 : Int32} : eatR 1 a u0 u1 = cutR 1 a u0 - u1 := by unfold eatR; rw [if_neg (by decide), if_neg (by decide)]
theorem telR_1 {a u0 u1 : Int32} : telR 1 a u0 u1 = eatR 1 a u0 u1 * 2 := by unfold telR; rw [if_neg (by decide), if_neg (by decide)]
theorem cutR_2 {a u0 : Int32} : cutR 2 a u0 = a + u0 := by unfold cutR; rw [if_neg (by decide), if_neg (by decide)]
theorem eatR_2 {a u0 u1 : Int32} : eatR 2 a u0 u1 = -(cutR 2 a u0 - u1) := by unfold eatR; rw [if_pos (by decide)]
theorem telR_2 {a u0 u1 : Int32} : telR 2 a u0 u1 = eatR 2 a u0 u1 * 2 := by unfold telR; rw [if_neg (by decide), if_neg (by decide)]
theorem cutR_3 {a u0 : Int32} : cutR 3 a u0 = a + u0 := by unfold cutR; rw [if_neg (by decide), if_neg (by decide)]
theorem eatR_3 {a u0 u1 : Int32} : eatR 3 a u0 u1 = cutR 3 a u0 - u1 := by unfold eatR; rw [if_neg (by decide), if_neg (by decide)]
theorem telR_3 {a u0 u1 : Int32} : telR 3 a u0 u1 = (eatR 3 a u0 u1 * 2) ^^^ 7 := by unfold telR; rw [if_pos (by decide)]
theorem cutR_4 {a u0 : Int32} : cutR 4 a u0 = a * 3 + u0 := by unfold cutR; rw [if_pos (by decide)]
theorem eatR_4 {a u0 u1 : Int32} : eatR 4 a u0 u1 = cutR 4 a u0 - u1 := by unfold eatR; rw [if_neg (by decide), if_neg (by decide)]
theorem telR_4 {a u0 u1 : Int32} : telR 4 a u0 u1 = eatR 4 (a - 1) u0 u1 * 2 + (2 * 3 + u0) := by unfold telR; rw [if_neg (by decide), if_pos (by decide)]
theorem cutR_5 {a u0 : Int32} : cutR 5 a u0 = (a + u0) ^^^ u0 := by unfold cutR; rw [if_neg (by decide), if_pos (by decide)]
theorem eatR_5 {a u0 u1 : Int32} : eatR 5 a u0 u1 = -(cutR 5 a u0 - u1) := by unfold eatR; rw [if_pos (by decide)]
theorem telR_5 {a u0 u1 : Int32} : telR 5 a u0 u1 = eatR 5 a u0 u1 * 2 := by unfold telR; rw [if_neg (by decide), if_neg (by decide)]
theorem cutR_6 {a u0 : Int32} : cutR 6 a u0 = a + u0 := by unfold cutR; rw [if_neg (by decide), if_neg (by decide)]
theorem eatR_6 {a u0 u1 : Int32} : eatR 6 a u0 u1 = cutR 6 a u0 - u1 + u1 := by unfold eatR; rw [if_neg (by decide), if_pos (by decide)]
theorem telR_6 {a u0 u1 : Int32} : telR 6 a u0 u1 = (eatR 6 a u0 u1 * 2) ^^^ 7 := by unfold telR; rw [if_pos (by decide)]
theorem ac_X1_cuts {N : Nat} {K len : Nat → Nat} {z : Nat} {a1 : Int32} {σ : SG} {ρ : RG} (hz : 65 ≤ z) : kp (F_X1_cuts N K len z a1 σ ρ) (fun q => q.1 = a1 + σ z 0 ∧ AC σ q.2) := by
  unfold F_X1_cuts
  exact kp_bn ac_began (fun σ1 h => kp_nm (fun x e => kp_some ⟨by show x = _; rw [e, h z (by omega) (by omega)], h⟩))
theorem ac_X4_cuts {N : Nat} {K len : Nat → Nat} {z : Nat} {a1 : Int32} {σ : SG} {ρ : RG} (hz : 65 ≤ z) : kp (F_X4_cuts N K len z a1 σ ρ) (fun q => q.1 = (a1 + σ z 0) ^^^ σ z 0 ∧ AC σ q.2) := by
  unfold F_X4_cuts
  refine kp_bn ac_began (fun σ1 h => kp_bn2 (ac_X1_cuts hz) (fun r2 σ2 h2 => kp_nm (fun x e => kp_some ⟨?_, ac_trans h h2.2⟩)))
  show x = _
  have h2' : AC σ1 σ2 := h2.2
  rw [e, show r2 = a1 + σ1 z 0 from h2.1, h2' z (by omega) (by omega), h z (by omega) (by omega)]
theorem ac_X7_cuts {N : Nat} {K len : Nat → Nat} {z : Nat} {a1 : Int32} {σ : SG} {ρ : RG} (hz : 65 ≤ z) : kp (F_X7_cuts N K len z a1 σ ρ) (fun q => q.1 = a1 * 3 + σ z 0 ∧ AC σ q.2) := by
  unfold F_X7_cuts
  refine kp_bn ac_began (fun σ1 h => kp_nm (fun x e => kp_bn2 (ac_X1_cuts hz) (fun r3 σ3 h3 => kp_some ⟨?_, ac_trans h h3.2⟩)))
  show r3 = _
  rw [show r3 = x + σ1 z 0 from h3.1, e, h z (by omega) (by omega)]
theorem ac_v_cuts {N : Nat} {K len : Nat → Nat} {z : Nat} {a1 : Int32} {σ : SG} {ρ : RG} (hk : isCk (K z) = true) (hz : 65 ≤ z) : kp (F_v_cuts N K len z a1 σ ρ) (fun q => q.1 = cutR (kno (K z)) a1 (σ z 0) ∧ AC σ q.2) := by
  unfold F_v_cuts
  rcases isCk_or hk with h | h | h | h | h | h | h
  · rw [if_pos h, h, show kno 1 = 0 from by decide]
    exact kp_mono (ac_X1_cuts hz) (fun q z => ⟨z.1.trans cutR_0.symm, z.2⟩)
  · rw [if_neg (by rw [h]; decide : ¬ K z = 1), if_pos h, h, show kno 2 = 3 from by decide]
    exact kp_mono (ac_X1_cuts hz) (fun q z => ⟨z.1.trans cutR_3.symm, z.2⟩)
  · rw [if_neg (by rw [h]; decide : ¬ K z = 1), if_neg (by rw [h]; decide : ¬ K z = 2), if_pos h, h, show kno 4 = 5 from by decide]
    exact kp_mono (ac_X4_cuts hz) (fun q z => ⟨z.1.trans cutR_5.symm, z.2⟩)
  · rw [if_neg (by rw [h]; decide : ¬ K z = 1), if_neg (by rw [h]; decide : ¬ K z = 2), if_neg (by rw [h]; decide : ¬ K z = 4), if_pos h, h, show kno 5 = 4 from by decide]
    exact kp_mono (ac_X7_cuts hz) (fun q z => ⟨z.1.trans cutR_4.symm, z.2⟩)
  · rw [if_neg (by rw [h]; decide : ¬ K z = 1), if_neg (by rw [h]; decide : ¬ K z = 2), if_neg (by rw [h]; decide : ¬ K z = 4), if_neg (by rw [h]; decide : ¬ K z = 5), if_pos h, h, show kno 6 = 2 from by decide]
    exact kp_mono (ac_X1_cuts hz) (fun q z => ⟨z.1.trans cutR_2.symm, z.2⟩)
  · rw [if_neg (by rw [h]; decide : ¬ K z = 1), if_neg (by rw [h]; decide : ¬ K z = 2), if_neg (by rw [h]; decide : ¬ K z = 4), if_neg (by rw [h]; decide : ¬ K z = 5), if_neg (by rw [h]; decide : ¬ K z = 6), if_pos h, h, show kno 7 = 1 from by decide]
    exact kp_mono (ac_X7_cuts hz) (fun q z => ⟨z.1.trans cutR_1.symm, z.2⟩)
  · rw [if_neg (by rw [h]; decide : ¬ K z = 1), if_neg (by rw [h]; decide : ¬ K z = 2), if_neg (by rw [h]; decide : ¬ K z = 4), if_neg (by rw [h]; decide : ¬ K z = 5), if_neg (by rw [h]; decide : ¬ K z = 6), if_neg (by rw [h]; decide : ¬ K z = 7), if_pos h, h, show kno 9 = 6 from by decide]
    exact kp_mono (ac_X1_cuts hz) (fun q z => ⟨z.1.trans cutR_6.symm, z.2⟩)
theorem ac_X1_eats {N : Nat} {K len : Nat → Nat} {z : Nat} {a1 : Int32} {σ : SG} {ρ : RG} (hk : isCk (K z) = true) (hz : 65 ≤ z) : kp (F_X1_eats N K len z a1 σ ρ) (fun q => q.1 = cutR (kno (K z)) a1 (σ z 0) - σ z 1 ∧ AC σ q.2) := by
  unfold F_X1_eats
  refine kp_bn ac_began (fun σ1 h => kp_bn2 (ac_v_cuts hk hz) (fun r2 σ2 h2 => kp_nm (fun x e => kp_some ⟨?_, ac_trans h h2.2⟩)))
  show x = _
  have h2' : AC σ1 σ2 := h2.2
  rw [e, show r2 = cutR (kno (K z)) a1 (σ1 z 0) from h2.1, h2' z (by omega) (by omega), h z (by omega) (by omega)]
theorem ac_X6_eats {N : Nat} {K len : Nat → Nat} {z : Nat} {a1 : Int32} {σ : SG} {ρ : RG} (hk : isCk (K z) = true) (hz : 65 ≤ z) : kp (F_X6_eats N K len z a1 σ ρ) (fun q => q.1 = -(cutR (kno (K z)) a1 (σ z 0) - σ z 1) ∧ AC σ q.2) := by
  unfold F_X6_eats
  refine kp_bn ac_began (fun σ1 h => kp_bn2 (ac_X1_eats hk hz) (fun r2 σ2 h2 => kp_nm (fun x e => kp_some ⟨?_, ac_trans h h2.2⟩)))
  show x = _
  rw [e, show r2 = cutR (kno (K z)) a1 (σ1 z 0) - σ1 z 1 from h2.1, h z (by omega) (by omega)]
theorem ac_X9_eats {N : Nat} {K len : Nat → Nat} {z : Nat} {a1 : Int32} {σ : SG} {ρ : RG} (hk : isCk (K z) = true) (hz : 65 ≤ z) : kp (F_X9_eats N K len z a1 σ ρ) (fun q => q.1 = cutR (kno (K z)) a1 (σ z 0) - σ z 1 + σ z 1 ∧ AC σ q.2) := by
  unfold F_X9_eats
  refine kp_bn ac_began (fun σ1 h => kp_bn2 (ac_X1_eats hk hz) (fun r2 σ2 h2 => kp_nm (fun x e => kp_some ⟨?_, ac_trans h h2.2⟩)))
  show x = _
  have h2' : AC σ1 σ2 := h2.2
  rw [e, show r2 = cutR (kno (K z)) a1 (σ1 z 0) - σ1 z 1 from h2.1, h2' z (by omega) (by omega), h z (by omega) (by omega)]
theorem ac_v_eats {N : Nat} {K len : Nat → Nat} {z : Nat} {a1 : Int32} {σ : SG} {ρ : RG} (hk : isCk (K z) = true) (hz : 65 ≤ z) : kp (F_v_eats N K len z a1 σ ρ) (fun q => q.1 = eatR (kno (K z)) a1 (σ z 0) (σ z 1) ∧ AC σ q.2) := by
  unfold F_v_eats
  rcases isCk_or hk with h | h | h | h | h | h | h
  · rw [if_pos h]
    refine kp_mono (ac_X1_eats hk hz) (fun q z => ⟨z.1.trans ?_, z.2⟩)
    rw [h, show kno 1 = 0 from by decide, eatR_0]
  · rw [if_neg (by rw [h]; decide : ¬ K z = 1), if_pos h]
    refine kp_mono (ac_X1_eats hk hz) (fun q z => ⟨z.1.trans ?_, z.2⟩)
    rw [h, show kno 2 = 3 from by decide, eatR_3]
  · rw [if_neg (by rw [h]; decide : ¬ K z = 1), if_neg (by rw [h]; decide : ¬ K z = 2), if_pos h]
    refine kp_mono (ac_X6_eats hk hz) (fun q z => ⟨z.1.trans ?_, z.2⟩)
    rw [h, show kno 4 = 5 from by decide, eatR_5]
  · rw [if_neg (by rw [h]; decide : ¬ K z = 1), if_neg (by rw [h]; decide : ¬ K z = 2), if_neg (by rw [h]; decide : ¬ K z = 4), if_pos h]
    refine kp_mono (ac_X1_eats hk hz) (fun q z => ⟨z.1.trans ?_, z.2⟩)
    rw [h, show kno 5 = 4 from by decide, eatR_4]
  · rw [if_neg (by rw [h]; decide : ¬ K z = 1), if_neg (by rw [h]; decide : ¬ K z = 2), if_neg (by rw [h]; decide : ¬ K z = 4), if_neg (by rw [h]; decide : ¬ K z = 5), if_pos h]
    refine kp_mono (ac_X6_eats hk hz) (fun q z => ⟨z.1.trans ?_, z.2⟩)
    rw [h, show kno 6 = 2 from by decide, eatR_2]
  · rw [if_neg (by rw [h]; decide : ¬ K z = 1), if_neg (by rw [h]; decide : ¬ K z = 2), if_neg (by rw [h]; decide : ¬ K z = 4), if_neg (by rw [h]; decide : ¬ K z = 5), if_neg (by rw [h]; decide : ¬ K z = 6), if_pos h]
    refine kp_mono (ac_X1_eats hk hz) (fun q z => ⟨z.1.trans ?_, z.2⟩)
    rw [h, show kno 7 = 1 from by decide, eatR_1]
  · rw [if_neg (by rw [h]; decide : ¬ K z = 1), if_neg (by rw [h]; decide : ¬ K z = 2), if_neg (by rw [h]; decide : ¬ K z = 4), if_neg (by rw [h]; decide : ¬ K z = 5), if_neg (by rw [h]; decide : ¬ K z = 6), if_neg (by rw [h]; decide : ¬ K z = 7), if_pos h]
    refine kp_mono (ac_X9_eats hk hz) (fun q z => ⟨z.1.trans ?_, z.2⟩)
    rw [h, show kno 9 = 6 from by decide, eatR_6]
theorem ac_X1_tells {N : Nat} {K len : Nat → Nat} {z : Nat} {a1 : Int32} {σ : SG} {ρ : RG} (hk : isCk (K z) = true) (hz : 65 ≤ z) : kp (F_X1_tells N K len z a1 σ ρ) (fun q => q.1 = eatR (kno (K z)) a1 (σ z 0) (σ z 1) * 2 ∧ AC σ q.2) := by
  unfold F_X1_tells
  refine kp_bn ac_began (fun σ1 h => kp_bn2 (ac_v_eats hk hz) (fun r2 σ2 h2 => kp_nm (fun x e => kp_some ⟨?_, ac_trans h h2.2⟩)))
  show x = _
  rw [e, show r2 = eatR (kno (K z)) a1 (σ1 z 0) (σ1 z 1) from h2.1, h z (by omega) (by omega)]
theorem ac_X2_tells {N : Nat} {K len : Nat → Nat} {z : Nat} {a1 : Int32} {σ : SG} {ρ : RG} (hk : isCk (K z) = true) (hz : 65 ≤ z) : kp (F_X2_tells N K len z a1 σ ρ) (fun q => q.1 = (eatR (kno (K z)) a1 (σ z 0) (σ z 1) * 2) ^^^ 7 ∧ AC σ q.2) := by
  unfold F_X2_tells
  refine kp_bn ac_began (fun σ1 h => kp_bn2 (ac_X1_tells hk hz) (fun r2 σ2 h2 => kp_nm (fun x e => kp_some ⟨?_, ac_trans h h2.2⟩)))
  show x = _
  rw [e, show r2 = eatR (kno (K z)) a1 (σ1 z 0) (σ1 z 1) * 2 from h2.1, h z (by omega) (by omega)]
theorem ac_X5_tells {N : Nat} {K len : Nat → Nat} {z : Nat} {a1 : Int32} {σ : SG} {ρ : RG} (hk : isCk (K z) = true) (h5 : K z = 5) (hz : 65 ≤ z) : kp (F_X5_tells N K len z a1 σ ρ) (fun q => q.1 = eatR (kno (K z)) (a1 - 1) (σ z 0) (σ z 1) * 2 + (2 * 3 + σ z 0) ∧ AC σ q.2) := by
  unfold F_X5_tells
  refine kp_bn ac_began (fun σ1 h => kp_nm (fun x2 e2 => kp_bn2 (ac_X1_tells hk hz) (fun r3 σ3 h3 => kp_gd (fun _ => kp_bn2 (ac_X7_cuts hz) (fun r5 σ5 h5' => kp_nm (fun x e => kp_some ⟨?_, ac_trans (ac_trans h h3.2) h5'.2⟩))))))
  show x = _
  have h3' : AC σ1 σ3 := h3.2
  rw [e, show r3 = eatR (kno (K z)) x2 (σ1 z 0) (σ1 z 1) * 2 from h3.1, show r5 = 2 * 3 + σ3 z 0 from h5'.1, e2, h3' z (by omega) (by omega), h z (by omega) (by omega)]
theorem ac_v_tells {N : Nat} {K len : Nat → Nat} {z : Nat} {a1 : Int32} {σ : SG} {ρ : RG} (hk : isCk (K z) = true) (hz : 65 ≤ z) : kp (F_v_tells N K len z a1 σ ρ) (fun q => q.1 = telR (kno (K z)) a1 (σ z 0) (σ z 1) ∧ AC σ q.2) := by
  unfold F_v_tells
  rcases isCk_or hk with h | h | h | h | h | h | h
  · rw [if_pos h]
    refine kp_mono (ac_X1_tells hk hz) (fun q z => ⟨z.1.trans ?_, z.2⟩)
    rw [h, show kno 1 = 0 from by decide, telR_0]
  · rw [if_neg (by rw [h]; decide : ¬ K z = 1), if_pos h]
    refine kp_mono (ac_X2_tells hk hz) (fun q z => ⟨z.1.trans ?_, z.2⟩)
    rw [h, show kno 2 = 3 from by decide, telR_3]
  · rw [if_neg (by rw [h]; decide : ¬ K z = 1), if_neg (by rw [h]; decide : ¬ K z = 2), if_pos h]
    refine kp_mono (ac_X1_tells hk hz) (fun q z => ⟨z.1.trans ?_, z.2⟩)
    rw [h, show kno 4 = 5 from by decide, telR_5]
  · rw [if_neg (by rw [h]; decide : ¬ K z = 1), if_neg (by rw [h]; decide : ¬ K z = 2), if_neg (by rw [h]; decide : ¬ K z = 4), if_pos h]
    refine kp_mono (ac_X5_tells hk h hz) (fun q z => ⟨z.1.trans ?_, z.2⟩)
    rw [h, show kno 5 = 4 from by decide, telR_4]
  · rw [if_neg (by rw [h]; decide : ¬ K z = 1), if_neg (by rw [h]; decide : ¬ K z = 2), if_neg (by rw [h]; decide : ¬ K z = 4), if_neg (by rw [h]; decide : ¬ K z = 5), if_pos h]
    refine kp_mono (ac_X1_tells hk hz) (fun q z => ⟨z.1.trans ?_, z.2⟩)
    rw [h, show kno 6 = 2 from by decide, telR_2]
  · rw [if_neg (by rw [h]; decide : ¬ K z = 1), if_neg (by rw [h]; decide : ¬ K z = 2), if_neg (by rw [h]; decide : ¬ K z = 4), if_neg (by rw [h]; decide : ¬ K z = 5), if_neg (by rw [h]; decide : ¬ K z = 6), if_pos h]
    refine kp_mono (ac_X1_tells hk hz) (fun q z => ⟨z.1.trans ?_, z.2⟩)
    rw [h, show kno 7 = 1 from by decide, telR_1]
  · rw [if_neg (by rw [h]; decide : ¬ K z = 1), if_neg (by rw [h]; decide : ¬ K z = 2), if_neg (by rw [h]; decide : ¬ K z = 4), if_neg (by rw [h]; decide : ¬ K z = 5), if_neg (by rw [h]; decide : ¬ K z = 6), if_neg (by rw [h]; decide : ¬ K z = 7), if_pos h]
    refine kp_mono (ac_X2_tells hk hz) (fun q z => ⟨z.1.trans ?_, z.2⟩)
    rw [h, show kno 9 = 6 from by decide, telR_6]
/-! the reference -/
def AR (σ σ' : SG) : Prop := ∀ r k, r ≠ 64 → ¬ (r = 54 ∧ k = 30) → σ' r k = σ r k
theorem ar_trans {σ σ1 σ2 : SG} (h : AR σ σ1) (h' : AR σ1 σ2) : AR σ σ2 := fun r k a b => (h' r k a b).trans (h r k a b)
theorem ar_19 {b : Int32} {σ : SG} {ρ : RG} : kp (F_X12_ranBody_19 b σ ρ) (fun q => AR σ q) := by
  unfold F_X12_ranBody_19
  refine kp_nm (fun x _ => kp_nm (fun σ4 h => kp_some (fun r k a b => ?_)))
  rw [h, s2_at]
  by_cases e : r = 54
  · rw [if_pos e, if_neg (fun q => b ⟨e, q⟩), e]
  · rw [if_neg e]
theorem ar_ran {b : Int32} {σ : SG} {ρ : RG} : kp (F_X12_ranBody b σ ρ) (fun q => AR σ q) := by
  unfold F_X12_ranBody
  exact kp_if ar_19 (kp_gd (fun _ => kp_nm (fun σ7 h => kp_mono ar_19 (fun q z => ar_trans (fun r k a _ => by rw [s2_lt h a]) z))))
theorem un_1 {κ a : Int32} {σ : SG} {ρ : RG} (ha : a = 1 ∨ a = 2 ∨ a = 3) : kp (F_X12_isUnder κ a σ ρ) (fun q => ¬ q = 0 ↔ κ = a ∨ κ = a + 3) := by
  unfold F_X12_isUnder
  have n0 : ¬ a = 0 := by rcases ha with rfl | rfl | rfl <;> decide
  have n1 : ¬ a ≤ 0 := by rcases ha with rfl | rfl | rfl <;> decide
  have n4 : ¬ (4 : Int32) ≤ a := by rcases ha with rfl | rfl | rfl <;> decide
  rw [if_neg n0]
  by_cases e : a = κ
  · rw [if_pos e]; exact kp_some ⟨fun _ => Or.inl e.symm, fun _ => by decide⟩
  rw [if_neg e, if_neg n1, if_neg n4]
  refine kp_nm (fun x5 h5 => ?_)
  by_cases e5 : κ = x5
  · rw [if_pos e5]; exact kp_some ⟨fun _ => Or.inr (e5.trans h5), fun _ => by decide⟩
  · rw [if_neg e5]; exact kp_some ⟨fun n => absurd rfl n, fun q => q.elim (fun q => absurd q.symm e) (fun q => absurd (q.trans h5.symm) e5)⟩
theorem ar_plainCuts {a1 : Int32} {σ : SG} {ρ : RG} : kp (F_X12_plainCuts a1 σ ρ) (fun q => q.1 = a1 + σ 54 32 ∧ AR σ q.2) := by
  unfold F_X12_plainCuts
  exact kp_bn ar_ran (fun σ1 h => kp_nm (fun x e => kp_some ⟨by show x = _; rw [e, h 54 32 (by decide) (by decide)], h⟩))
theorem ar_cuts {a1 : Int32} {σ : SG} {ρ : RG} : kp (F_X12_cutsActs a1 σ ρ) (fun q => q.1 = cutR (σ 54 31) a1 (σ 54 32) ∧ AR σ q.2) := by
  unfold F_X12_cutsActs cutR
  refine kp_bn (un_1 (Or.inl rfl)) (fun r1 h1 => ?_)
  rw [show (1 : Int32) + 3 = 4 from by decide] at h1
  by_cases c : r1 = 0
  · have n : ¬ (σ 54 31 = 1 ∨ σ 54 31 = 4) := fun q => h1.mpr q c
    rw [if_pos c, if_neg n]
    by_cases d : σ 54 31 = 5
    · rw [if_pos d, if_pos d]
      refine kp_bn ar_ran (fun σ5 h => kp_bn2 ar_plainCuts (fun r6 σ6 h6 => kp_nm (fun x e => kp_some ⟨?_, ar_trans h h6.2⟩)))
      show x = _
      have h6' : AR σ5 σ6 := h6.2
      rw [e, show r6 = a1 + σ5 54 32 from h6.1, h6' 54 32 (by decide) (by decide), h 54 32 (by decide) (by decide)]
    · rw [if_neg d, if_neg d]
      exact kp_bn2 ar_plainCuts (fun r4 σ4 h => kp_some h)
  · rw [if_neg c, if_pos (h1.mp c)]
    refine kp_bn ar_ran (fun σ8 h => kp_nm (fun x e => kp_bn2 ar_plainCuts (fun r10 σ10 h10 => kp_some ⟨?_, ar_trans h h10.2⟩)))
    show r10 = _
    rw [show r10 = x + σ8 54 32 from h10.1, e, h 54 32 (by decide) (by decide)]
theorem ar_plainEats {a1 : Int32} {σ : SG} {ρ : RG} : kp (F_X12_plainEats a1 σ ρ) (fun q => q.1 = cutR (σ 54 31) a1 (σ 54 32) - σ 54 33 ∧ AR σ q.2) := by
  unfold F_X12_plainEats
  refine kp_bn ar_ran (fun σ1 h => kp_bn2 ar_cuts (fun r2 σ2 h2 => kp_nm (fun x e => kp_some ⟨?_, ar_trans h h2.2⟩)))
  show x = _
  have h2' : AR σ1 σ2 := h2.2
  rw [e, show r2 = cutR (σ1 54 31) a1 (σ1 54 32) from h2.1, h2' 54 33 (by decide) (by decide), h 54 31 (by decide) (by decide), h 54 32 (by decide) (by decide), h 54 33 (by decide) (by decide)]
theorem ar_eats {a1 : Int32} {σ : SG} {ρ : RG} : kp (F_X12_eatsActs a1 σ ρ) (fun q => q.1 = eatR (σ 54 31) a1 (σ 54 32) (σ 54 33) ∧ AR σ q.2) := by
  unfold F_X12_eatsActs eatR
  refine kp_bn (un_1 (Or.inr (Or.inl rfl))) (fun r1 h1 => ?_)
  rw [show (2 : Int32) + 3 = 5 from by decide] at h1
  by_cases c : r1 = 0
  · have n : ¬ (σ 54 31 = 2 ∨ σ 54 31 = 5) := fun q => h1.mpr q c
    rw [if_pos c, if_neg n]
    by_cases d : σ 54 31 = 6
    · rw [if_pos d, if_pos d]
      refine kp_bn ar_ran (fun σ5 h => kp_bn2 ar_plainEats (fun r6 σ6 h6 => kp_nm (fun x e => kp_some ⟨?_, ar_trans h h6.2⟩)))
      show x = _
      have h6' : AR σ5 σ6 := h6.2
      rw [e, show r6 = cutR (σ5 54 31) a1 (σ5 54 32) - σ5 54 33 from h6.1, h6' 54 33 (by decide) (by decide), h 54 31 (by decide) (by decide), h 54 32 (by decide) (by decide), h 54 33 (by decide) (by decide)]
    · rw [if_neg d, if_neg d]
      exact kp_bn2 ar_plainEats (fun r4 σ4 h => kp_some h)
  · rw [if_neg c, if_pos (h1.mp c)]
    refine kp_bn ar_ran (fun σ8 h => kp_bn2 ar_plainEats (fun r9 σ9 h9 => kp_nm (fun x e => kp_some ⟨?_, ar_trans h h9.2⟩)))
    show x = _
    rw [e, show r9 = cutR (σ8 54 31) a1 (σ8 54 32) - σ8 54 33 from h9.1, h 54 31 (by decide) (by decide), h 54 32 (by decide) (by decide), h 54 33 (by decide) (by decide)]
theorem ar_plainTells {a1 : Int32} {σ : SG} {ρ : RG} : kp (F_X12_plainTells a1 σ ρ) (fun q => q.1 = eatR (σ 54 31) a1 (σ 54 32) (σ 54 33) * 2 ∧ AR σ q.2) := by
  unfold F_X12_plainTells
  refine kp_bn ar_ran (fun σ1 h => kp_bn2 ar_eats (fun r2 σ2 h2 => kp_nm (fun x e => kp_some ⟨?_, ar_trans h h2.2⟩)))
  show x = _
  rw [e, show r2 = eatR (σ1 54 31) a1 (σ1 54 32) (σ1 54 33) from h2.1, h 54 31 (by decide) (by decide), h 54 32 (by decide) (by decide), h 54 33 (by decide) (by decide)]
theorem ar_tells {a1 : Int32} {σ : SG} {ρ : RG} : kp (F_X12_tellsActs a1 σ ρ) (fun q => q.1 = telR (σ 54 31) a1 (σ 54 32) (σ 54 33) ∧ AR σ q.2) := by
  unfold F_X12_tellsActs telR
  refine kp_bn (un_1 (Or.inr (Or.inr rfl))) (fun r1 h1 => ?_)
  rw [show (3 : Int32) + 3 = 6 from by decide] at h1
  by_cases c : r1 = 0
  · have n : ¬ (σ 54 31 = 3 ∨ σ 54 31 = 6) := fun q => h1.mpr q c
    rw [if_pos c, if_neg n]
    by_cases d : σ 54 31 = 4
    · rw [if_pos d, if_pos d]
      refine kp_bn ar_ran (fun σ5 h => kp_nm (fun x6 e6 => kp_bn2 ar_plainTells (fun r7 σ7 h7 => kp_bn2 ar_cuts (fun r8 σ8 h8 => kp_nm (fun x e => kp_some ⟨?_, ar_trans (ar_trans h h7.2) h8.2⟩)))))
      show x = _
      have h7' : AR σ5 σ7 := h7.2
      have e31 : σ7 54 31 = 4 := by rw [h7' 54 31 (by decide) (by decide), h 54 31 (by decide) (by decide), d]
      rw [e, show r7 = eatR (σ5 54 31) x6 (σ5 54 32) (σ5 54 33) * 2 from h7.1, show r8 = cutR (σ7 54 31) 2 (σ7 54 32) from h8.1, e31, cutR_4, e6, h7' 54 32 (by decide) (by decide), h 54 31 (by decide) (by decide), h 54 32 (by decide) (by decide), h 54 33 (by decide) (by decide)]
    · rw [if_neg d, if_neg d]
      exact kp_bn2 ar_plainTells (fun r4 σ4 h => kp_some h)
  · rw [if_neg c, if_pos (h1.mp c)]
    refine kp_bn ar_ran (fun σ8 h => kp_bn2 ar_plainTells (fun r9 σ9 h9 => kp_nm (fun x e => kp_some ⟨?_, ar_trans h h9.2⟩)))
    show x = _
    rw [e, show r9 = eatR (σ8 54 31) a1 (σ8 54 32) (σ8 54 33) * 2 from h9.1, h 54 31 (by decide) (by decide), h 54 32 (by decide) (by decide), h 54 33 (by decide) (by decide)]
/-! act: one answer -/
def actA (v : Prop) [Decidable v] (κ a2 a3 u0 u1 : Int32) : Int32 := if v then (if a2 = 0 then cutR κ a3 u0 else if a2 = 1 then eatR κ a3 u0 u1 else if a2 = 2 then telR κ a3 u0 u1 else 0) else 0
theorem act_11 {N : Nat} {K len : Nat → Nat} {a1 a2 a3 : Int32} {σ : SG} {ρ : RG} (hQ : PR N K len ρ) (hB0 : rg (σ 1 1) 0 6) (R : RA K σ ρ) : kp (F_X11_act N K len a1 a2 a3 σ ρ) (fun q => ∀ j : Nat, a1.toInt = (j : Int) ∨ ¬ ((0 : Int32) ≤ a1 ∧ a1 < σ 55 11) → q.1 = actA ((0 : Int32) ≤ a1 ∧ a1 < σ 55 11) (σ 55 (20 + j)) a2 a3 a1 (σ 55 (26 + j))) := by
  have w : σ 1 1 = σ 55 11 := R.1.1
  unfold F_X11_act actA
  refine kp_nm (fun σ2 h2 => ?_)
  have k2 : KC σ σ2 := by rw [h2]; exact kc_lit (by decide)
  have R2 : RA K σ2 ρ := ra_c hQ k2 R
  have e1 : σ2 1 1 = σ 1 1 := k2 1 1 rfl
  refine kp_bn (kp_ok (at_11 (N := N) (len := len) (by rw [e1]; exact hB0) R2)) (fun o h => ?_)
  rw [e1, w] at h
  rcases h with ⟨rfl, n⟩ | ⟨c, j, rfl, v1, v2, hj, ej, hc⟩
  · exact kp_some (fun j _ => by rw [if_neg n])
  have kc := hQ.2.2.1 j c hj hc
  have c65 := ck_65 hQ.1 kc.1
  obtain ⟨⟨f1, f2, -⟩, f0⟩ := (R.2.1 j hj).2 c hc
  have s2c : σ2 c = σ c := s2_lt h2 (by omega)
  have u0 : σ c 0 = a1 := Int32.toInt_inj.mp (f0.trans ej.symm)
  have jj : ∀ j' : Nat, a1.toInt = (j' : Int) ∨ ¬ ((0 : Int32) ≤ a1 ∧ a1 < σ 55 11) → j' = j := fun j' h => by
    rcases h with h | h
    · omega
    · exact absurd ⟨v1, v2⟩ h
  have vv : (0 : Int32) ≤ a1 ∧ a1 < σ 55 11 := ⟨v1, v2⟩
  refine kp_gd (fun _ => ?_)
  show kp (if a2 = 0 then _ else _) _
  by_cases g0 : a2 = 0
  · rw [if_pos g0]
    exact kp_bn2 (ac_v_cuts (isC_k kc.1) c65) (fun r6 σ6 h6 => kp_some (fun j' hj' => by rw [jj j' hj', if_pos vv, if_pos g0, ← f1]; exact h6.1.trans (by rw [s2c, u0])))
  rw [if_neg g0]
  by_cases g1 : a2 = 1
  · rw [if_pos g1]
    exact kp_bn2 (ac_v_eats (isC_k kc.1) c65) (fun r6 σ6 h6 => kp_some (fun j' hj' => by rw [jj j' hj', if_pos vv, if_neg g0, if_pos g1, ← f1, ← f2]; exact h6.1.trans (by rw [s2c, u0])))
  rw [if_neg g1]
  by_cases g2 : a2 = 2
  · rw [if_pos g2]
    exact kp_bn2 (ac_v_tells (isC_k kc.1) c65) (fun r6 σ6 h6 => kp_some (fun j' hj' => by rw [jj j' hj', if_pos vv, if_neg g0, if_neg g1, if_pos g2, ← f1, ← f2]; exact h6.1.trans (by rw [s2c, u0])))
  rw [if_neg g2]
  exact kp_some (fun j' _ => by rw [if_pos vv, if_neg g0, if_neg g1, if_neg g2])
theorem act_12 {a1 a2 a3 : Int32} {σ : SG} {ρ : RG} (hc : rg (σ 55 11) 0 6) : kp (F_X12_act a1 a2 a3 σ ρ) (fun q => ∀ j : Nat, a1.toInt = (j : Int) ∨ ¬ ((0 : Int32) ≤ a1 ∧ a1 < σ 55 11) → q.1 = actA ((0 : Int32) ≤ a1 ∧ a1 < σ 55 11) (σ 55 (20 + j)) a2 a3 a1 (σ 55 (26 + j))) := by
  unfold F_X12_act actA
  refine kp_nm (fun σ2 h2 => ?_)
  have e55 : σ2 55 = σ 55 := s2_lt h2 (by decide)
  refine kp_bn (kp_ok (ic_12 (by rw [e55]; exact hc))) (fun r3 h3 => ?_)
  rw [e55] at h3
  by_cases c : r3 = 0
  · rw [if_pos c]
    exact kp_some (fun j _ => by rw [if_neg (fun q => h3.mpr q c)])
  rw [if_neg c]
  have vv := h3.mp c
  have z0 : (0 : Int32).toInt = 0 := rfl
  have z2 : (2 : Int32).toInt = 2 := rfl
  have b0 := Int32.le_iff_toInt_le.mp vv.1
  have b1 := Int32.lt_iff_toInt_lt.mp vv.2
  have b2 := hc.2
  refine kp_bn (kp_ok in_0) (fun r5 h5 => ?_)
  by_cases d : r5 = 0
  · rw [if_pos d]
    have n : ¬ ((0 : Int32) ≤ a2 ∧ a2 ≤ (2 : Int32)) := fun q => h5.2.mpr q d
    have g0 : ¬ a2 = 0 := fun e => n (by rw [e]; decide)
    have g1 : ¬ a2 = 1 := fun e => n (by rw [e]; decide)
    have g2 : ¬ a2 = 2 := fun e => n (by rw [e]; decide)
    exact kp_some (fun j _ => by rw [if_pos vv, if_neg g0, if_neg g1, if_neg g2])
  rw [if_neg d]
  have y := h5.2.mp d
  have e20 : (20 : Int32).toInt = 20 := rfl
  have e26 : (26 : Int32).toInt = 26 := rfl
  refine kp_nm (fun x7 h7 => kp_gd (fun _ => kp_nm (fun σ10 h10 => kp_nm (fun σ12 h12 => kp_nm (fun x13 h13 => kp_gd (fun _ => kp_nm (fun σ16 h16 => ?_)))))))
  obtain ⟨j, hj⟩ : ∃ j : Nat, a1.toInt = (j : Int) := ⟨a1.toInt.toNat, by omega⟩
  have n7 : x7.toNatClampNeg = 20 + j := by
    have : x7.toInt = 20 + a1.toInt := by rw [h7, ti_add (by omega) (by omega), e20]
    show x7.toInt.toNat = _
    omega
  have n13 : x13.toNatClampNeg = 26 + j := by
    have : x13.toInt = 26 + a1.toInt := by rw [h13, ti_add (by omega) (by omega), e26]
    show x13.toInt.toNat = _
    omega
  have m31 : σ16 54 31 = σ 55 (20 + j) := by rw [s2_k h16 (by decide), s2_k h12 (by decide), s2_v h10, n7, e55]
  have m32 : σ16 54 32 = a1 := by rw [s2_k h16 (by decide), s2_v h12]
  have m33 : σ16 54 33 = σ 55 (26 + j) := by rw [s2_v h16, n13, s2_lt h12 (by decide), s2_lt h10 (by decide), e55]
  have jj : ∀ j' : Nat, a1.toInt = (j' : Int) ∨ ¬ ((0 : Int32) ≤ a1 ∧ a1 < σ 55 11) → j' = j := fun j' h => by
    rcases h with h | h
    · omega
    · exact absurd vv h
  by_cases g0 : a2 = 0
  · rw [if_pos g0]
    exact kp_bn2 ar_cuts (fun r6 σ6 h6 => kp_some (fun j' hj' => by rw [jj j' hj', if_pos vv, if_pos g0]; exact h6.1.trans (by rw [m31, m32])))
  rw [if_neg g0]
  by_cases g1 : a2 = 1
  · rw [if_pos g1]
    exact kp_bn2 ar_eats (fun r6 σ6 h6 => kp_some (fun j' hj' => by rw [jj j' hj', if_pos vv, if_neg g0, if_pos g1]; exact h6.1.trans (by rw [m31, m32, m33])))
  rw [if_neg g1]
  have g2 : a2 = 2 := Int32.toInt_inj.mp (by
    have q0 := Int32.le_iff_toInt_le.mp y.1
    have q1 := Int32.le_iff_toInt_le.mp y.2
    have k0 : a2.toInt ≠ 0 := fun e => g0 (Int32.toInt_inj.mp (by rw [e]; rfl))
    have k1 : a2.toInt ≠ 1 := fun e => g1 (Int32.toInt_inj.mp (by rw [e]; rfl))
    omega)
  exact kp_bn2 ar_tells (fun r6 σ6 h6 => kp_some (fun j' hj' => by rw [jj j' hj', if_pos vv, if_neg g0, if_neg g1, if_pos g2]; exact h6.1.trans (by rw [m31, m32, m33])))
theorem act_eq {a1 a2 a3 b1 b2 b3 r3 r6 : Int32} {σ σ3 : SG} (e5 : ∀ k, σ3 55 k = σ 55 k) (h3 : ∀ j : Nat, a1.toInt = (j : Int) ∨ ¬ ((0 : Int32) ≤ a1 ∧ a1 < σ 55 11) → r3 = actA ((0 : Int32) ≤ a1 ∧ a1 < σ 55 11) (σ 55 (20 + j)) a2 a3 a1 (σ 55 (26 + j))) (h6 : ∀ j : Nat, b1.toInt = (j : Int) ∨ ¬ ((0 : Int32) ≤ b1 ∧ b1 < σ3 55 11) → r6 = actA ((0 : Int32) ≤ b1 ∧ b1 < σ3 55 11) (σ3 55 (20 + j)) b2 b3 b1 (σ3 55 (26 + j))) (e1 : b1 = a1) (e2 : b2 = a2) (e3 : b3 = a3) : r3 = r6 := by
  subst e1 e2 e3
  simp only [e5] at h6
  by_cases v : (0 : Int32) ≤ b1 ∧ b1 < σ 55 11
  · have z0 : (0 : Int32).toInt = 0 := rfl
    have b0 := Int32.le_iff_toInt_le.mp v.1
    obtain ⟨j, hj⟩ : ∃ j : Nat, b1.toInt = (j : Int) := ⟨b1.toInt.toNat, by omega⟩
    exact (h3 j (Or.inl hj)).trans (h6 j (Or.inl hj)).symm
  · exact (h3 0 (Or.inr v)).trans (h6 0 (Or.inr v)).symm
